/-! throws; spread of both -/
section CU
variable {b : Bool} {d : Nat} {w : jW} {H : jH}
theorem J.thr {k pc ix ci : Nat} {q : xMt} {lv : jL} {Post : jO → jW → jH → Prop} (hq : xmts[k]? = some q) (hi : xat k pc = some (.new ix, 3)) (hl : xlk xnws q.1 ix = none) (ht : xthr k pc = some ci) (hP : Post (.inr ci) (w.1, w.2.1 + 1, w.2.2 + 6) H) : J b d k w (pc, lv, [], H) Post := by
  intro ph hp hR
  have hR : jRep b ph w H hp := hR
  obtain ⟨r1, r2, r3, r4, r5, r6, r7, r8⟩ := hR
  have hlt : ∀ {k p}, jD b w k p → ph k p < hp.length := fun h => jRep.lt ⟨r1, r2, r3, r4, r5, r6, r7, r8⟩ h
  have hX := X.thr (d := d) (k := k) (g := (pc, jml ph lv, [], hp, w.2.2)) (q := q) (i := .new ix) (len := 3) (ci := ci) ⟨hq, hi, by simp only [xs, xs1, xs6, xs5, xs4, xs7, xs8, hl, show ¬ ((3 : Nat) = 1) by decide, if_false, if_true], by simp only [xs9]⟩ (by simp only [xret]) (by simp only [xcall]) (show xcat [] ≤ 8 by decide) ht
  refine ⟨.inr ci, (w.1, w.2.1 + 1, w.2.2 + 6), H, ph, hp ++ [(Sum.inr (ci, []) : xC)], hX, ⟨fun c p hc hD => ?_, fun k p t n tk hk hD => ?_, r3, r4, r5, ?_, r7, Nat.succ_pos _, fun k p h => ⟨Nat.lt_succ_of_lt (r8.2 k p h).1, (r8.2 k p h).2⟩⟩, ⟨fun k p h => ⟨h, rfl⟩, fun k p h => Or.inl h, Nat.le_succ _⟩, fun p h0 _ => ?_, hP⟩
  · rw [List.getElem?_append_left (hlt hD)]
    exact r1 c p hc hD
  · rw [List.getElem?_append_left (hlt hD)]
    exact r2 k p t n tk hk hD
  · rw [List.length_append, ← r6]
    rfl
  · rw [List.getElem?_append_left (by omega)]
/-- how a call of the class ends: an answer, or what it throws -/
def cEnd (F : cF) (H : jH) (ans : Option Int) (thrown : Nat → Prop) : jO → jW → jH → Prop := fun o w' H' => ((∃ x, ans = some x ∧ o = .inl (some (.inl x)) ∧ jCl H' H) ∨ ∃ c, o = .inr c ∧ thrown c ∧ H' = H) ∧ w'.2.1 ≤ 30000 ∧ w'.2.2 ≤ 1000000
abbrev fRm (F : cF) : Prop := fO F 17 ≤ 2000 ∧ fO F 16 ≤ 500000
theorem cRoom.small {F : cF} {z : zT} (hF : fRm F) (hz : zInv z) (h : cRoom F w z) : w.2.1 ≤ 20000 ∧ w.2.2 ≤ 920000 := by
  have := hz.1
  obtain ⟨h1, h2⟩ := h
  obtain ⟨h3, h4⟩ := hF
  omega
theorem c_spread {F : cF} {z : zT} {m many mask : Int} (hF : fRm F) (hz : zInv z) (hr : zRest z) (hR : cRest F w z H) (bm : jR m) (bn : jR many) : J b (d + 6) 74 w (0, jargs 0 [.inr (some (10, fX F)), .inl m, .inl many, .inl mask], [], H)
    (cEnd F H (if (1 ≤ many ∧ many ≤ 100) ∧ 0 ≤ m ∧ m ≤ zM z then some ((zspr mask m.toNat many.toNat 0 z).1 : Int) else none) (fun c => (¬ (1 ≤ many ∧ many ≤ 100) ∧ c = 12) ∨ ((1 ≤ many ∧ many ≤ 100) ∧ ¬ (0 ≤ m ∧ m ≤ zM z) ∧ c = 14))) := by
  have hR0 := hR
  obtain ⟨je, ⟨mp, bp, sp, hP⟩, hje⟩ := hR
  have hsm := cRoom.small hF hz hP.2.2.2.2
  obtain ⟨⟨t1, t2, t3, t4, t5, t6, t7, t8⟩, -⟩ := hP.1
  have hM := hP.2.1
  have hM6 := hz.1.1
  have esz : H.1 7 4 (fP F) = (zM z : Int) := hM.2.1
  have thr1 : ∀ lv : jL, ¬ (1 ≤ many ∧ many ≤ 100) → J b (d + 6) 74 w (11, lv, [], H) (cEnd F H (if (1 ≤ many ∧ many ≤ 100) ∧ 0 ≤ m ∧ m ≤ zM z then some ((zspr mask m.toNat many.toNat 0 z).1 : Int) else none) (fun c => (¬ (1 ≤ many ∧ many ≤ 100) ∧ c = 12) ∨ ((1 ≤ many ∧ many ≤ 100) ∧ ¬ (0 ≤ m ∧ m ≤ zM z) ∧ c = 14))) := by
    intro lv hno
    exact J.thr rfl rfl rfl rfl ⟨Or.inr ⟨12, rfl, Or.inl ⟨hno, rfl⟩, rfl⟩, by show w.2.1 + 1 ≤ 30000; omega, by show w.2.2 + 6 ≤ 1000000; omega⟩
  have thr2 : ∀ lv : jL, (1 ≤ many ∧ many ≤ 100) → ¬ (0 ≤ m ∧ m ≤ zM z) → J b (d + 6) 74 w (36, lv, [], H) (cEnd F H (if (1 ≤ many ∧ many ≤ 100) ∧ 0 ≤ m ∧ m ≤ zM z then some ((zspr mask m.toNat many.toNat 0 z).1 : Int) else none) (fun c => (¬ (1 ≤ many ∧ many ≤ 100) ∧ c = 12) ∨ ((1 ≤ many ∧ many ≤ 100) ∧ ¬ (0 ≤ m ∧ m ≤ zM z) ∧ c = 14))) := by
    intro lv hyes hno
    exact J.thr rfl rfl rfl rfl ⟨Or.inr ⟨14, rfl, Or.inr ⟨hyes, hno, rfl⟩, rfl⟩, by show w.2.1 + 1 ≤ 30000; omega, by show w.2.2 + 6 ≤ 1000000; omega⟩
  refine J.run0 2 rfl ?_
  try dsimp only
  refine J.icmp rfl rfl rfl ⟨bn, by decide, by decide⟩ (fun hc => ?_) (fun hc => ?_)
  · have hc' : many < 1 := hc
    exact thr1 _ (by omega)
  have hc' : ¬ many < 1 := hc
  refine J.run0 2 rfl ?_
  try dsimp only
  refine J.icmp rfl rfl rfl ⟨bn, by decide, by decide⟩ (fun hc2 => ?_) (fun hc2 => ?_)
  rotate_left
  · have hc2' : ¬ many ≤ 100 := hc2
    exact thr1 _ (by omega)
  have hc2' : many ≤ 100 := hc2
  refine J.run0 1 rfl ?_
  try dsimp only
  refine J.ifc rfl rfl rfl bm (fun hc3 => ?_) (fun hc3 => ?_)
  · have hc3' : m < 0 := hc3
    exact thr2 _ (by omega) (by omega)
  have hc3' : ¬ m < 0 := hc3
  refine J.run 3 rfl ⟨t1, by rw [t4]; exact t7⟩ ?_
  try dsimp only
  try dsimp only
  rw [t4]
  refine J.run 1 rfl hM.1.1 ?_
  try dsimp only
  try dsimp only
  rw [esz]
  refine J.icmp rfl rfl rfl ⟨bm, by omega, by omega⟩ (fun hc4 => ?_) (fun hc4 => ?_)
  rotate_left
  · have hc4' : ¬ m ≤ (zM z : Int) := hc4
    exact thr2 _ (by omega) (by omega)
  have hc4' : m ≤ (zM z : Int) := hc4
  obtain ⟨mm, rfl⟩ : ∃ mm : Nat, m = (mm : Int) := ⟨m.toNat, by omega⟩
  obtain ⟨nn, rfl⟩ : ∃ nn : Nat, many = (nn : Int) := ⟨many.toNat, by omega⟩
  refine J.run0 2 rfl ?_
  try dsimp only
  refine J.post (c_spread_l (H0 := H) (m := mm) (many := nn) (by omega) (by omega) nn 0 w H z _ (by omega) hz hr hR0 (jCl.refl _) (Or.inl rfl)) ?_
  rintro o w' H' ⟨v, rfl, rfl, ⟨z', hz', je', ⟨mp', bp', sp', hP'⟩, -⟩, hC'⟩
  have hs' := cRoom.small hF hz' hP'.2.2.2.2
  refine ⟨Or.inl ⟨_, ?_, rfl, hC'⟩, by omega, by omega⟩
  rw [if_pos ⟨⟨by omega, by omega⟩, by omega, by omega⟩]
  rfl
end CU
section RU
variable {d : Nat} {w : jW} {H : jH}
theorem j_in {v x y : Int} (h1 : jR v) (h2 : jR x) (h3 : jR y) : J true d 144 w (0, jargs 0 [.inl v, .inl x, .inl y], [], H) (jN fun r w' H' => r = some (.inl (if x ≤ v ∧ v ≤ y then 1 else 0)) ∧ w' = w ∧ H' = H) := by
  refine J.run0 2 rfl ?_
  try dsimp only
  refine J.icmp rfl rfl rfl ⟨h1, h2⟩ (fun hc => ?_) (fun hc => ?_)
  · have hc' : v < x := hc
    refine J.run0 1 rfl ?_
    try dsimp only
    refine J.retb rfl rfl rfl (by decide) ⟨_, rfl, ?_, rfl, rfl⟩
    rw [if_neg (by omega)]
  have hc' : ¬ v < x := hc
  refine J.run0 2 rfl ?_
  try dsimp only
  refine J.icmp rfl rfl rfl ⟨h1, h3⟩ (fun hc2 => ?_) (fun hc2 => ?_)
  · have hc2' : y < v := hc2
    refine J.run0 1 rfl ?_
    try dsimp only
    refine J.retb rfl rfl rfl (by decide) ⟨_, rfl, ?_, rfl, rfl⟩
    rw [if_neg (by omega)]
  have hc2' : ¬ y < v := hc2
  refine J.run0 2 rfl ?_
  try dsimp only
  refine J.retb rfl rfl rfl (by decide) ⟨_, rfl, ?_, rfl, rfl⟩
  rw [if_pos (by omega)]
abbrev rLv (n : Nat) (c m many mask : Int) : jL := [(5, .inl (n : Int)), (4, .inl c), (0, jT), (1, .inl m), (2, .inl many), (3, .inl mask)]
theorem j_row {z0 : zT} {j : Nat} {c m many mask : Int} {Post : jO → jW → jH → Prop} (hz0 : zInv z0) (hj : j < zM z0) (hmc : m + c = (j : Int)) (hnext : ∀ H', rInv (zrow mask j 16 z0) H' → J true (d + 10) 150 w (101, rLv 16 c m many mask, [], H') Post) :
    ∀ (l n : Nat) (H : jH), n + l = 16 → rInv (zrow mask j n z0) H → J true (d + 10) 150 w (67, rLv n c m many mask, [], H) Post := by
  intro l
  induction l with
  | zero =>
    intro n H hn hI
    obtain rfl : n = 16 := by omega
    refine J.run0 2 rfl ?_
    try dsimp only
    exact J.icmp rfl rfl rfl ⟨⟨by decide, by decide⟩, by decide, by decide⟩ (fun _ => hnext H hI) (fun hc => absurd (show (16 : Int) ≤ (16 : Nat) by decide) hc)
  | succ l ih =>
    intro n H hn hI
    have hzn := hz0.row mask hj n (by omega)
    have hjn : j < zM (zrow mask j n z0) := Nat.lt_of_lt_of_le hj (zM_row mask j n z0)
    refine J.run0 2 rfl ?_
    try dsimp only
    refine J.icmp rfl rfl rfl ⟨⟨by omega, by omega⟩, by decide, by decide⟩ (fun hc => absurd (show (16 : Int) ≤ n from hc) (by omega)) (fun _ => ?_)
    refine J.run0 6 rfl ?_
    try dsimp only
    try dsimp only
    rw [mb_shr mask (show n < 32 by omega)]
    by_cases hm : mb mask n = true
    · rw [if_pos hm]
      refine J.icmp rfl rfl rfl ⟨⟨by decide, by decide⟩, by decide, by decide⟩ (fun hc => absurd rfl hc) (fun _ => ?_)
      refine J.run0 5 rfl ?_
      try dsimp only
      try dsimp only
      rw [hmc]
      refine J.inv rfl rfl rfl rfl rfl rfl jDr rfl rfl rfl rfl rfl (j_came hzn hI (by omega) hjn) ?_
      rintro r w' H' ⟨rfl, rfl, hI'⟩
      refine J.run0 1 rfl ?_
      try dsimp only
      refine J.run0 2 rfl ?_
      try dsimp only
      refine ih (n + 1) H' (by omega) ?_
      unfold zrow
      rw [if_pos hm]
      exact hI'
    · rw [if_neg hm]
      refine J.icmp rfl rfl rfl ⟨⟨by decide, by decide⟩, by decide, by decide⟩ (fun _ => ?_) (fun hc => absurd (show ¬ (0 : Int) = 1 by decide) hc)
      refine J.run0 2 rfl ?_
      try dsimp only
      refine ih (n + 1) H (by omega) ?_
      unfold zrow
      rw [if_neg hm]
      exact hI
theorem j_spread_l {m many : Nat} {mask : Int} (hmany : many ≤ 100) (hm : m ≤ 6000) : ∀ (f k : Nat) (H : jH) (z : zT) (lv : jL), k + f = many → zInv z → rInv z H → (lv = [(4, .inl (k : Int)), (0, jT), (1, .inl (m : Int)), (2, .inl (many : Int)), (3, .inl mask)] ∨ ∃ x : Int, lv = [(4, .inl (k : Int)), (5, .inl x), (0, jT), (1, .inl (m : Int)), (2, .inl (many : Int)), (3, .inl mask)]) →
    J true (d + 10) 150 w (47, lv, [], H) (jN fun r w' H' => r = some (.inl ((zspr mask m f k z).1 : Int)) ∧ w' = w ∧ H'.1 11 47 0 = 0) := by
  intro f
  induction f with
  | zero =>
    intro k H z lv hk hz hI hlv
    rcases hlv with rfl | ⟨x, rfl⟩
    all_goals
      refine J.run0 2 rfl ?_
      try dsimp only
      refine J.icmp rfl rfl rfl ⟨⟨by omega, by omega⟩, by omega, by omega⟩ (fun _ => ?_) (fun hc => absurd (show (many : Int) ≤ k by omega) hc)
      refine J.run0 1 rfl ?_
      try dsimp only
      exact J.reti rfl rfl rfl ⟨_, rfl, rfl, rfl, hI.1.1.2⟩
  | succ f ih =>
    intro k H z lv hk hz hI hlv
    have hM6 := hz.1.1
    have esz : H.1 11 19 0 = (zM z : Int) := hI.1.1.1
    rcases hlv with rfl | ⟨x, rfl⟩
    all_goals
      refine J.run0 2 rfl ?_
      try dsimp only
      refine J.icmp rfl rfl rfl ⟨⟨by omega, by omega⟩, by omega, by omega⟩ (fun hc => absurd (show (many : Int) ≤ k from hc) (by omega)) (fun _ => ?_)
      refine J.run0 5 rfl ?_
      try dsimp only
      try dsimp only
      rw [esz]
      refine J.icmp rfl rfl rfl ⟨⟨by omega, by omega⟩, by omega, by omega⟩ (fun hc => ?_) (fun hc => ?_)
      · have hc' : (zM z : Int) ≤ (m : Int) + k := hc
        refine J.run0 1 rfl ?_
        try dsimp only
        refine J.reti rfl rfl rfl ⟨_, rfl, ?_, rfl, hI.1.1.2⟩
        unfold zspr
        rw [if_neg (by omega)]
      · have hc' : ¬ (zM z : Int) ≤ (m : Int) + k := hc
        have hlt : m + k < zM z := by omega
        refine J.run0 2 rfl ?_
        try dsimp only
        refine j_row (j := m + k) hz hlt (by omega) (fun H' hI' => ?_) 16 0 H rfl hI
        refine J.run0 2 rfl ?_
        try dsimp only
        have e : zspr mask m (f + 1) k z = zspr mask m f (k + 1) (zrow mask (m + k) 16 z) := by
          show (if m + k < zM z then _ else _) = _
          rw [if_pos hlt]
        rw [e]
        exact ih (k + 1) H' (zrow mask (m + k) 16 z) _ (by omega) (hz.row mask hlt 16 (by omega)) hI' (Or.inr ⟨_, rfl⟩)
/-- how a call of the reference ends -/
def rEnd (w : jW) (ans : Option Int) (thrown : Int) : Option jV → jW → jH → Prop := fun r w' H' => w' = w ∧ H'.1 11 47 0 = thrown ∧ ∃ y, r = some (.inl y) ∧ ∀ x, ans = some x → y = x
theorem j_spread {z : zT} {m many mask : Int} (hz : zInv z) (hI : rInv z H) (bm : jR m) (bn : jR many) : J true (d + 10) 150 w (0, jargs 0 [jT, .inl m, .inl many, .inl mask], [], H)
    (jN (rEnd w (if (1 ≤ many ∧ many ≤ 100) ∧ 0 ≤ m ∧ m ≤ zM z then some ((zspr mask m.toNat many.toNat 0 z).1 : Int) else none) (if 1 ≤ many ∧ many ≤ 100 then (if 0 ≤ m ∧ m ≤ zM z then 0 else 2) else 1))) := by
  have hM6 := hz.1.1
  have esz : H.1 11 19 0 = (zM z : Int) := hI.1.1.1
  have eth : H.1 11 47 0 = 0 := hI.1.1.2
  have thr : ∀ (lv : jL) (x : Int), (x = 1 ∨ x = 2) → ¬ ((1 ≤ many ∧ many ≤ 100) ∧ 0 ≤ m ∧ m ≤ zM z) → (if 1 ≤ many ∧ many ≤ 100 then (if 0 ≤ m ∧ m ≤ zM z then (0 : Int) else 2) else 1) = x → J true (d + 10) 150 w (32, jargs 0 [jT, .inl m, .inl many, .inl mask], [.inl x, jT], H)
    (jN (rEnd w (if (1 ≤ many ∧ many ≤ 100) ∧ 0 ≤ m ∧ m ≤ zM z then some ((zspr mask m.toNat many.toNat 0 z).1 : Int) else none) (if 1 ≤ many ∧ many ≤ 100 then (if 0 ≤ m ∧ m ≤ zM z then 0 else 2) else 1))) := by
    intro lv x hx hno hth
    refine J.run0 3 rfl ?_
    try dsimp only
    refine J.ifc rfl rfl rfl ⟨show -2147483648 ≤ x by omega, show x ≤ 2147483647 by omega⟩ (fun hc => absurd (show x ≤ 0 from hc) (by omega)) (fun _ => ?_)
    refine J.run0 1 rfl ?_
    try dsimp only
    refine J.reti rfl rfl rfl ⟨_, rfl, rfl, ?_, _, rfl, fun y hy => ?_⟩
    · rw [hth]; rfl
    · rw [if_neg hno] at hy; cases hy
  refine J.run0 4 rfl ?_
  try dsimp only
  refine J.ins rfl rfl rfl rfl rfl rfl rfl rfl rfl (j_in bn ⟨by decide, by decide⟩ ⟨by decide, by decide⟩) ?_
  rintro r w H ⟨rfl, rfl, rfl⟩
  by_cases h1 : 1 ≤ many ∧ many ≤ 100
  rotate_left
  · rw [if_neg h1]
    refine J.ifc rfl rfl rfl ⟨by decide, by decide⟩ (fun hc => absurd rfl hc) (fun _ => ?_)
    refine J.run0 2 rfl ?_
    try dsimp only
    have h9 := thr [] 1 (Or.inl rfl) (fun h => h1 h.1) (by rw [if_neg h1])
    exact h9
  rw [if_pos h1]
  refine J.ifc rfl rfl rfl ⟨by decide, by decide⟩ (fun _ => ?_) (fun hc => absurd (show ¬ (1 : Int) = 0 by decide) hc)
  refine J.run0 4 rfl ?_
  try dsimp only
  try dsimp only
  rw [esz]
  refine J.ins rfl rfl rfl rfl rfl rfl rfl rfl rfl (j_in bm ⟨by decide, by decide⟩ ⟨by omega, by omega⟩) ?_
  rintro r w H ⟨rfl, rfl, rfl⟩
  by_cases h2 : 0 ≤ m ∧ m ≤ (zM z : Int)
  rotate_left
  · rw [if_neg h2]
    refine J.ifc rfl rfl rfl ⟨by decide, by decide⟩ (fun hc => absurd rfl hc) (fun _ => ?_)
    refine J.run0 2 rfl ?_
    try dsimp only
    have h9 := thr [] 2 (Or.inr rfl) (fun h => h2 h.2) (by rw [if_pos h1, if_neg h2])
    exact h9
  rw [if_pos h2]
  refine J.ifc rfl rfl rfl ⟨by decide, by decide⟩ (fun _ => ?_) (fun hc => absurd (show ¬ (1 : Int) = 0 by decide) hc)
  refine J.run0 1 rfl ?_
  try dsimp only
  refine J.run0 3 rfl ?_
  try dsimp only
  refine J.ifc rfl rfl rfl ⟨show -2147483648 ≤ (0 : Int) by decide, show (0 : Int) ≤ 2147483647 by decide⟩ (fun _ => ?_) (fun hc => absurd (show (0 : Int) ≤ 0 by decide) hc)
  refine J.run0 2 rfl ?_
  try dsimp only
  refine J.heq (show _ = hV H 47 0 from rfl) ?_
  rw [hV_same H 47 eth]
  obtain ⟨mm, rfl⟩ : ∃ mm : Nat, m = (mm : Int) := ⟨m.toNat, by omega⟩
  obtain ⟨nn, rfl⟩ : ∃ nn : Nat, many = (nn : Int) := ⟨many.toNat, by omega⟩
  refine J.post (j_spread_l (m := mm) (many := nn) (by omega) (by omega) nn 0 H z _ (by omega) hz hI (Or.inl rfl)) ?_
  rintro o w' H' ⟨v, rfl, rfl, e1, e2⟩
  refine ⟨_, rfl, e1, (by rw [if_pos h1, if_pos h2]; exact e2), _, rfl, fun y hy => ?_⟩
  rw [if_pos ⟨h1, h2⟩] at hy
  cases hy
  rfl
end RU
