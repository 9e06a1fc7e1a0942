/-! the class: walks along the MESSAGES of a HEIGHT -/
section CW
variable {b : Bool} {d : Nat} {w : jW} {H : jH}
theorem J.gn {k : Nat} {pc : Nat} {lv : jL} {st : List jV} {H1 : jH} {Post : jO → jW → jH → Prop} (h : ∀ H2, H2 = H1 → J b d k w (pc, lv, st, H2) Post) : J b d k w (pc, lv, st, H1) Post := h _ rfl
theorem bit_set {g : Int → Int} {p : Nat → Bool} {i : Nat} (hg : ∀ l : Nat, l < 6000 → mb (g ((l / 32 : Nat) : Int)) (l % 32) = p l) : ∀ l : Nat, l < 6000 → mb (jup g ((i / 32 : Nat) : Int) (jor (g ((i / 32 : Nat) : Int)) (jshl 1 ((i % 32 : Nat) : Int))) ((l / 32 : Nat) : Int)) (l % 32) = (p l || decide (l = i)) := by
  intro l hl
  unfold jup
  by_cases h : l / 32 = i / 32
  · rw [if_pos (by omega), mb_or, ← h, hg l hl, mb_shl (by omega) (by omega)]
    congr 1
    by_cases h2 : l % 32 = i % 32
    · rw [decide_eq_true h2, decide_eq_true (by omega : l = i)]
    · rw [decide_eq_false h2, decide_eq_false (by omega : ¬ l = i)]
  · rw [if_neg (by omega), hg l hl, decide_eq_false (by omega : ¬ l = i), Bool.or_false]
/-- what is wanted of a MESSAGE -/
def csel (z : zT) (n kd : Nat) (bl : Int) (l : Nat) : Prop := l ∈ nK z n ∧ zk z l = kd ∧ zh z l = nh z n ∧ bl = (nh z n : Int)
theorem csel_said {z : zT} {n kd k : Nat} (hz : zInv z) (hn : n < 16) : (∃ l, l < zM z ∧ csel z n kd (nh z n) l ∧ zn z l = k) ↔ zsaid z n kd k = true := by
  unfold zsaid csel
  rw [List.any_eq_true]
  refine ⟨fun ⟨l, h1, ⟨h2, h3, h4, _⟩, h5⟩ => ⟨l, h2, ?_⟩, fun ⟨l, h1, h2⟩ => ?_⟩
  · simp only [Bool.and_eq_true, beq_iff_eq]
    exact ⟨⟨h3, h4⟩, h5⟩
  · simp only [Bool.and_eq_true, beq_iff_eq] at h2
    exact ⟨l, (hz.2.2.2.1 n hn).2.2.2.2.1 l h1, ⟨h1, h2.1.1, h2.1.2, rfl⟩, h2.2⟩
theorem c_heardFrom_l {F : cF} {z : zT} {n q je kd : Nat} {bl : Int} {mp : Nat → Nat} (hz : zInv z) (hM : cMs F w z H mp) (hn : n < 16) (hN : cNd w (z.2.2.2 n) (zk z) H n (fN F n) (fO F n) q je) (hkd : kd ≤ 2) (hbl : -1 ≤ bl ∧ bl ≤ 1000) : ∀ (m i : Nat) (cur : Option (Nat × Nat)) (bits : Int), zM z ≤ i + m → cur = ((nxt (zM z) (zh z) (nh z n) i).map fun j => (5, mp j)) → (∀ k, k < 16 → (mb bits k = true ↔ ∃ l, l < i ∧ l < zM z ∧ csel z n kd bl l ∧ zn z l = k)) →
    J b (d + 1) 101 w (17, [(6, .inr cur), (5, .inl bits), (0, .inr (some (10, fX F))), (1, .inr (some (6, fN F n))), (2, .inl (kd : Int)), (3, .inl 0), (4, .inl bl)], [], H) (jN fun r w' H' => w' = w ∧ H' = H ∧ ∃ bits, r = some (.inl bits) ∧ ∀ k, k < 16 → (mb bits k = true ↔ ∃ l, l < zM z ∧ csel z n kd bl l ∧ zn z l = k)) := by
  intro m
  have hM6 : zM z ≤ 6000 := hz.1.1
  induction m with
  | zero =>
    intro i cur bits hi hcur hb
    cases hx : nxt (zM z) (zh z) (nh z n) i with
    | some j => have := nxt_some hx; omega
    | none =>
      rw [hx] at hcur
      subst hcur
      refine J.run0 2 rfl ?_
      try dsimp only
      refine J.run0 1 rfl ?_
      try dsimp only
      refine J.reti rfl rfl rfl ⟨_, rfl, rfl, rfl, _, rfl, fun k hk => (hb k hk).trans ⟨fun ⟨l, _, h⟩ => ⟨l, h⟩, fun ⟨l, h1, h⟩ => ⟨l, by omega, h1, h⟩⟩⟩
  | succ m ih =>
    intro i cur bits hi hcur hb
    cases hx : nxt (zM z) (zh z) (nh z n) i with
    | none =>
      rw [hx] at hcur
      subst hcur
      have hno := nxt_none hx
      refine J.run0 2 rfl ?_
      try dsimp only
      refine J.run0 1 rfl ?_
      try dsimp only
      refine J.reti rfl rfl rfl ⟨_, rfl, rfl, rfl, _, rfl, fun k hk => (hb k hk).trans ⟨fun ⟨l, _, h⟩ => ⟨l, h⟩, fun ⟨l, h1, h⟩ => ⟨l, ?_, h1, h⟩⟩⟩
      by_cases hl : l < i
      · exact hl
      · exact absurd h.1.2.2.1 (hno l (by omega) h1)
    | some j =>
      rw [hx] at hcur
      subst hcur
      obtain ⟨j1, j2, j3, j4⟩ := nxt_some hx
      obtain ⟨⟨m1, m2, m3⟩, ⟨f1, f2, f3, f4, f5, f6, f7⟩, hnext⟩ := hM.2.2.1 j j2
      obtain ⟨g1, g2, g3, g4, g5, g6⟩ := hz.2.1 j j2
      -- the next one
      have step : ∀ bits', (∀ k, k < 16 → (mb bits' k = true ↔ ∃ l, l < j + 1 ∧ l < zM z ∧ csel z n kd bl l ∧ zn z l = k)) → J b (d + 1) 101 w (75, [(5, .inl bits'), (6, .inr (some (5, mp j))), (0, .inr (some (10, fX F))), (1, .inr (some (6, fN F n))), (2, .inl (kd : Int)), (3, .inl 0), (4, .inl bl)], [], H) (jN fun r w' H' => w' = w ∧ H' = H ∧ ∃ bits, r = some (.inl bits) ∧ ∀ k, k < 16 → (mb bits k = true ↔ ∃ l, l < zM z ∧ csel z n kd bl l ∧ zn z l = k)) := by
        intro bits' hb'
        refine J.run 4 rfl m1 ?_
        try dsimp only
        try dsimp only
        rw [hnext, j3, Option.map_map]
        exact ih (j + 1) _ bits' (by omega) rfl hb'
      have stay : (¬ csel z n kd bl j) → ∀ k, k < 16 → (mb bits k = true ↔ ∃ l, l < j + 1 ∧ l < zM z ∧ csel z n kd bl l ∧ zn z l = k) := by
        intro hj k hk
        refine (hb k hk).trans ⟨fun ⟨l, a, h⟩ => ⟨l, by omega, h⟩, fun ⟨l, a, a2, h⟩ => ?_⟩
        by_cases hl : l < i
        · exact ⟨l, hl, a2, h⟩
        · by_cases hlj : l = j
          · exact absurd (hlj ▸ h.1) hj
          · exact absurd h.1.2.2.1 (j4 l (by omega) (by omega))
      have skip : (¬ csel z n kd bl j) → J b (d + 1) 101 w (75, [(6, .inr (some (5, mp j))), (5, .inl bits), (0, .inr (some (10, fX F))), (1, .inr (some (6, fN F n))), (2, .inl (kd : Int)), (3, .inl 0), (4, .inl bl)], [], H) (jN fun r w' H' => w' = w ∧ H' = H ∧ ∃ bits, r = some (.inl bits) ∧ ∀ k, k < 16 → (mb bits k = true ↔ ∃ l, l < zM z ∧ csel z n kd bl l ∧ zn z l = k)) := by
        intro hj
        refine J.run 4 rfl m1 ?_
        try dsimp only
        try dsimp only
        rw [hnext, j3, Option.map_map]
        exact ih (j + 1) _ bits (by omega) rfl (stay hj)
      refine J.run0 4 rfl ?_
      try dsimp only
      refine J.icmp rfl rfl rfl ⟨⟨by omega, by omega⟩, by decide, by decide⟩ (fun hc => absurd (show (kd : Int) = -2 from hc) (by omega)) (fun _ => ?_)
      refine J.run 3 rfl m1 ?_
      try dsimp only
      try dsimp only
      rw [f2]
      refine J.icmp rfl rfl rfl ⟨⟨by omega, by omega⟩, by omega, by omega⟩ (fun hc => ?_) (fun hc => ?_)
      · have hc' : ¬ (zk z j : Int) = kd := hc
        exact skip fun h => hc' (by rw [h.2.1])
      have hk1 : zk z j = kd := by have : (zk z j : Int) = kd := Classical.not_not.mp hc; omega
      refine J.run0 2 rfl ?_
      try dsimp only
      refine J.icmp rfl rfl rfl ⟨⟨by omega, by omega⟩, by decide, by decide⟩ (fun hc => absurd (show bl = -2 from hc) (by omega)) (fun _ => ?_)
      refine J.run 3 rfl m1 ?_
      try dsimp only
      try dsimp only
      rw [f6]
      refine J.icmp rfl rfl rfl ⟨⟨by omega, by omega⟩, by omega, by omega⟩ (fun hc => ?_) (fun hc => ?_)
      · have hc' : ¬ (zh z j : Int) = bl := hc
        exact skip fun h => hc' (by rw [h.2.2.1, h.2.2.2])
      have hk2 : (zh z j : Int) = bl := Classical.not_not.mp hc
      have hheard := hN.2.2.2.2.2.1 j (by omega)
      refine J.run0 2 rfl ?_
      try dsimp only
      refine J.inv rfl rfl rfl rfl rfl rfl ((jD_w rfl).mpr hN.1.1) rfl rfl rfl rfl rfl (c_hasHeard hN.1.1 hN.1.2.2.1 m1 f1 (by omega)) ?_
      rintro r w' H' ⟨rfl, rfl, rfl⟩
      rw [hheard]
      by_cases hin : j ∈ nK z n
      · rw [if_pos (decide_eq_true hin)]
        refine J.ifc rfl rfl rfl ⟨by decide, by decide⟩ (fun hc => absurd hc (show ¬ (1 : Int) = 0 by decide)) (fun _ => ?_)
        refine J.run 7 rfl m1 ?_
        try dsimp only
        try dsimp only
        rw [f3]
        refine step _ fun k hk => ?_
        rw [mb_or, mb_shl (by omega) (by omega), Bool.or_eq_true, decide_eq_true_eq, hb k hk]
        refine ⟨fun h => ?_, fun ⟨l, a, a2, h⟩ => ?_⟩
        · rcases h with ⟨l, a, h⟩ | h
          · exact ⟨l, by omega, h⟩
          · exact ⟨j, by omega, j2, ⟨hin, hk1, j3, by omega⟩, h.symm⟩
        · by_cases hl : l < i
          · exact Or.inl ⟨l, hl, a2, h⟩
          · by_cases hlj : l = j
            · exact Or.inr (hlj ▸ h.2).symm
            · exact absurd h.1.2.2.1 (j4 l (by omega) (by omega))
      · rw [if_neg (by simp [hin])]
        refine J.ifc rfl rfl rfl ⟨by decide, by decide⟩ (fun _ => ?_) (fun hc => absurd rfl hc)
        exact skip fun h => hin h.1
theorem c_heardFrom {F : cF} {z : zT} {n q je kd : Nat} {bl : Int} {mp : Nat → Nat} (hz : zInv z) (hT : cTop F w H) (hM : cMs F w z H mp) (hn : n < 16) (hN : cNd w (z.2.2.2 n) (zk z) H n (fN F n) (fO F n) q je) (hq : 0 < q ∧ w.1 0 q ∧ H.1 0 1 q + 1 = (nh z n : Int)) (hh : nh z n ≤ 120) (hkd : kd ≤ 2) (hbl : -1 ≤ bl ∧ bl ≤ 1000) :
    J b (d + 1) 101 w (0, jargs 0 [.inr (some (10, fX F)), .inr (some (6, fN F n)), .inl (kd : Int), .inl 0, .inl bl], [], H) (jN fun r w' H' => w' = w ∧ H' = H ∧ ∃ bits, r = some (.inl bits) ∧ ∀ k, k < 16 → (mb bits k = true ↔ ∃ l, l < zM z ∧ csel z n kd bl l ∧ zn z l = k)) := by
  obtain ⟨⟨t1, t2, t3, t4, t5, t6, t7, t8⟩, -⟩ := hT
  refine J.run 5 rfl ⟨t1, by rw [t4]; exact t7⟩ ?_
  try dsimp only
  try dsimp only
  rw [t4]
  refine J.inv rfl rfl rfl rfl rfl rfl ((jD_w rfl).mpr hN.1.1) rfl rfl rfl rfl rfl (c_height hN.1.1 hN.2.1.2.1 hq.1 hq.2.1) ?_
  rintro r w' H' ⟨rfl, rfl, rfl⟩
  rw [hq.2.2]
  refine J.run0 1 rfl ?_
  try dsimp only
  refine J.inv rfl rfl rfl rfl rfl rfl ((jD_w rfl).mpr hM.1.1) rfl rfl rfl rfl rfl (c_firstOf hM.1.1 hM.1.2.2.1 hh) ?_
  rintro r w' H' ⟨rfl, rfl, rfl⟩
  rw [(hM.2.2.2.2 (nh z n) hh).1, Option.map_map]
  refine J.run0 1 rfl ?_
  try dsimp only
  have h0 : ∀ k, k < 16 → (mb 0 k = true ↔ ∃ l, l < 0 ∧ l < zM z ∧ csel z n kd bl l ∧ zn z l = k) := by
    intro k hk
    have e : mb 0 k = false := by
      unfold mb
      show (0#32).getLsbD k = false
      simp
    rw [e]
    exact ⟨fun h => absurd h (by decide), fun ⟨l, h, _⟩ => absurd h (Nat.not_lt_zero _)⟩
  exact c_heardFrom_l hz hM hn hN hkd hbl (zM z) 0 _ 0 (by omega) rfl h0
/-- the votes for the BLOCK of the HEIGHT are counted -/
theorem mcnt_z {z : zT} {n kd : Nat} {bits : Int} (hz : zInv z) (hn : n < 16) (h : ∀ k, k < 16 → (mb bits k = true ↔ ∃ l, l < zM z ∧ csel z n kd (nh z n) l ∧ zn z l = k)) : mcnt bits 16 = zcnt z n kd := by
  unfold mcnt zcnt
  refine List.countP_congr fun k hk => ?_
  rw [h k (List.mem_range.mp hk), csel_said hz hn]
theorem mcnt_no {z : zT} {n kd : Nat} {bl : Int} {bits : Int} (hbl : bl ≠ (nh z n : Int)) (h : ∀ k, k < 16 → (mb bits k = true ↔ ∃ l, l < zM z ∧ csel z n kd bl l ∧ zn z l = k)) : mcnt bits 16 = 0 := by
  unfold mcnt
  rw [List.countP_eq_zero]
  intro k hk hm
  obtain ⟨l, -, hs, -⟩ := (h k (List.mem_range.mp hk)).mp hm
  exact hbl hs.2.2.2
theorem c_proposalOf_l {F : cF} {z : zT} {n q je : Nat} {mp : Nat → Nat} (hz : zInv z) (hM : cMs F w z H mp) (hn : n < 16) (hN : cNd w (z.2.2.2 n) (zk z) H n (fN F n) (fO F n) q je) : ∀ (m i : Nat) (cur : Option (Nat × Nat)), zM z ≤ i + m → cur = ((nxt (zM z) (zh z) (nh z n) i).map fun j => (5, mp j)) → (∀ l, l < i → l ∈ nK z n → zk z l = 0 → zh z l ≠ nh z n) →
    J b (d + 1) 100 w (20, [(4, .inr cur), (3, .inl (zP (nh z n) : Int)), (0, .inr (some (10, fX F))), (1, .inr (some (6, fN F n))), (2, .inl 0)], [], H) (jN fun r w' H' => w' = w ∧ H' = H ∧ ((zprop z n = false ∧ r = some (.inr none)) ∨ zprop z n = true ∧ ∃ i, i < zM z ∧ zk z i = 0 ∧ zh z i = nh z n ∧ r = some (.inr (some (5, mp i))))) := by
  intro m
  have hM6 : zM z ≤ 6000 := hz.1.1
  have fin : ∀ (i : Nat) (hno : ∀ l, i ≤ l → l < zM z → zh z l ≠ nh z n), (∀ l, l < i → l ∈ nK z n → zk z l = 0 → zh z l ≠ nh z n) → zprop z n = false := by
    intro i hno hb
    cases hp : zprop z n with
    | false => rfl
    | true =>
      unfold zprop at hp
      obtain ⟨l, hl, hc⟩ := List.any_eq_true.mp hp
      simp only [Bool.and_eq_true, beq_iff_eq] at hc
      by_cases hli : l < i
      · exact absurd hc.2 (hb l hli hl hc.1)
      · exact absurd hc.2 (hno l (by omega) ((hz.2.2.2.1 n hn).2.2.2.2.1 l hl))
  induction m with
  | zero =>
    intro i cur hi hcur hb
    cases hx : nxt (zM z) (zh z) (nh z n) i with
    | some j => have := nxt_some hx; omega
    | none =>
      rw [hx] at hcur
      subst hcur
      refine J.run0 2 rfl ?_
      try dsimp only
      refine J.run0 1 rfl ?_
      try dsimp only
      exact J.reta rfl rfl rfl ⟨_, rfl, rfl, rfl, Or.inl ⟨fin i (nxt_none hx) hb, rfl⟩⟩
  | succ m ih =>
    intro i cur hi hcur hb
    cases hx : nxt (zM z) (zh z) (nh z n) i with
    | none =>
      rw [hx] at hcur
      subst hcur
      refine J.run0 2 rfl ?_
      try dsimp only
      refine J.run0 1 rfl ?_
      try dsimp only
      exact J.reta rfl rfl rfl ⟨_, rfl, rfl, rfl, Or.inl ⟨fin i (nxt_none hx) hb, rfl⟩⟩
    | some j =>
      rw [hx] at hcur
      subst hcur
      obtain ⟨j1, j2, j3, j4⟩ := nxt_some hx
      obtain ⟨⟨m1, m2, m3⟩, ⟨f1, f2, f3, f4, f5, f6, f7⟩, hnext⟩ := hM.2.2.1 j j2
      obtain ⟨g1, g2, g3, g4, g5, g6⟩ := hz.2.1 j j2
      have hzp := zP_lt (nh z n)
      have skip : (¬ (j ∈ nK z n ∧ zk z j = 0)) → J b (d + 1) 100 w (46, [(4, .inr (some (5, mp j))), (3, .inl (zP (nh z n) : Int)), (0, .inr (some (10, fX F))), (1, .inr (some (6, fN F n))), (2, .inl 0)], [], H) (jN fun r w' H' => w' = w ∧ H' = H ∧ ((zprop z n = false ∧ r = some (.inr none)) ∨ zprop z n = true ∧ ∃ i, i < zM z ∧ zk z i = 0 ∧ zh z i = nh z n ∧ r = some (.inr (some (5, mp i))))) := by
        intro hj
        refine J.run 4 rfl m1 ?_
        try dsimp only
        try dsimp only
        rw [hnext, j3, Option.map_map]
        refine ih (j + 1) _ (by omega) rfl fun l hl h1 h2 => ?_
        by_cases hli : l < i
        · exact hb l hli h1 h2
        · by_cases hlj : l = j
          · exact absurd ⟨hlj ▸ h1, hlj ▸ h2⟩ hj
          · exact j4 l (by omega) (by omega)
      refine J.run0 2 rfl ?_
      try dsimp only
      refine J.run 3 rfl m1 ?_
      try dsimp only
      try dsimp only
      rw [f3]
      refine J.icmp rfl rfl rfl ⟨⟨by omega, by omega⟩, by omega, by omega⟩ (fun hc => ?_) (fun hc => ?_)
      · have hc' : ¬ (zn z j : Int) = zP (nh z n) := hc
        exact skip fun h => hc' (by rw [g6 h.2, j3])
      refine J.run0 2 rfl ?_
      try dsimp only
      refine J.inv rfl rfl rfl rfl rfl rfl ((jD_w rfl).mpr hN.1.1) rfl rfl rfl rfl rfl (c_heardAsFirst hN.1.1 hN.1.2.2.2.1 m1 f1 (by omega)) ?_
      rintro r w' H' ⟨rfl, rfl, rfl⟩
      rw [hN.2.2.2.2.2.2 j (by omega)]
      by_cases hin : j ∈ nK z n ∧ zk z j = 0
      · rw [if_pos (decide_eq_true hin)]
        refine J.ifc rfl rfl rfl ⟨by decide, by decide⟩ (fun hc => absurd hc (show ¬ (1 : Int) = 0 by decide)) (fun _ => ?_)
        refine J.run0 1 rfl ?_
        try dsimp only
        refine J.reta rfl rfl rfl ⟨_, rfl, rfl, rfl, Or.inr ⟨?_, j, j2, hin.2, j3, rfl⟩⟩
        unfold zprop
        rw [List.any_eq_true]
        exact ⟨j, hin.1, by simp only [Bool.and_eq_true, beq_iff_eq]; exact ⟨hin.2, j3⟩⟩
      · rw [if_neg (by simpa using hin)]
        refine J.ifc rfl rfl rfl ⟨by decide, by decide⟩ (fun _ => ?_) (fun hc => absurd rfl hc)
        exact skip hin
theorem c_proposalOf {F : cF} {z : zT} {n q je s : Nat} {mp : Nat → Nat} (hz : zInv z) (hT : cTop F w H) (hM : cMs F w z H mp) (hn : n < 16) (hN : cNd w (z.2.2.2 n) (zk z) H n (fN F n) (fO F n) q je) (hq : 0 < q ∧ w.1 0 q ∧ H.1 0 1 q + 1 = (nh z n : Int)) (hs : H.2.1 0 6 q = some s) (h8 : w.1 8 s) (h2 : cSt2 w H s) (hh : nh z n ≤ 120) :
    J b (d + 2) 100 w (0, jargs 0 [.inr (some (10, fX F)), .inr (some (6, fN F n)), .inl 0], [], H) (jN fun r w' H' => w' = w ∧ H' = H ∧ ((zprop z n = false ∧ r = some (.inr none)) ∨ zprop z n = true ∧ ∃ i, i < zM z ∧ zk z i = 0 ∧ zh z i = nh z n ∧ r = some (.inr (some (5, mp i))))) := by
  obtain ⟨⟨t1, t2, t3, t4, t5, t6, t7, t8⟩, -⟩ := hT
  refine J.run0 2 rfl ?_
  try dsimp only
  refine J.inv rfl rfl rfl rfl rfl rfl ((jD_w rfl).mpr hN.1.1) rfl rfl rfl rfl rfl (c_prop hN.1.1 hN.2.1.2.1 hq.1 hq.2.1 hs h8 h2 hq.2.2 (by omega)) ?_
  rintro r w' H' ⟨rfl, rfl, rfl⟩
  refine J.run 4 rfl ⟨t1, by rw [t4]; exact t7⟩ ?_
  try dsimp only
  try dsimp only
  rw [t4]
  refine J.inv rfl rfl rfl rfl rfl rfl ((jD_w rfl).mpr hN.1.1) rfl rfl rfl rfl rfl (c_height hN.1.1 hN.2.1.2.1 hq.1 hq.2.1) ?_
  rintro r w' H' ⟨rfl, rfl, rfl⟩
  rw [hq.2.2]
  refine J.run0 1 rfl ?_
  try dsimp only
  refine J.inv rfl rfl rfl rfl rfl rfl ((jD_w rfl).mpr hM.1.1) rfl rfl rfl rfl rfl (c_firstOf hM.1.1 hM.1.2.2.1 hh) ?_
  rintro r w' H' ⟨rfl, rfl, rfl⟩
  rw [(hM.2.2.2.2 (nh z n) hh).1, Option.map_map]
  refine J.run0 1 rfl ?_
  try dsimp only
  exact c_proposalOf_l hz hM hn hN (zM z) 0 _ (by omega) rfl fun l hl => absurd hl (Nat.not_lt_zero _)
theorem c_learn_l {F : cF} {z : zT} {n i : Nat} {mp : Nat → Nat} {P : Nat} {a2 : Option (Nat × Nat)} {Post : jO → jW → jH → Prop} (ha2 : jtkP b w (.inr a2)) (hz : zInv z) (hM : cMs F w z H mp) (hn : n < 16) (hi : i < zM z) (hk : i ∉ nK z n) (hk0 : zk z i = 0) (h6 : w.1 6 P) (hr : w.1 27 P) (hf : ∀ l : Nat, l < 6000 → mb (H.2.2.1 27 P ((l / 32 : Nat) : Int)) (l % 32) = decide (l ∈ nK z n ∧ zk z l = 0))
    (hend : ∀ cur, J b (d + 1) 42 w (83, [(3, .inr cur), (0, .inr (some (6, P))), (1, .inr (some (5, mp i))), (2, .inr a2)], [], H) Post) : ∀ (m i0 : Nat) (cur : Option (Nat × Nat)), zM z ≤ i0 + m → cur = ((nxt (zM z) (zh z) (zh z i) i0).map fun j => (5, mp j)) →
    J b (d + 1) 42 w (51, [(3, .inr cur), (0, .inr (some (6, P))), (1, .inr (some (5, mp i))), (2, .inr a2)], [], H) Post := by
  intro m
  have hM6 : zM z ≤ 6000 := hz.1.1
  obtain ⟨⟨mi1, -, -⟩, ⟨-, -, fi3, -⟩, -⟩ := hM.2.2.1 i hi
  obtain ⟨gi1, gi2, -⟩ := hz.2.1 i hi
  induction m with
  | zero =>
    intro i0 cur h0 hcur
    cases hx : nxt (zM z) (zh z) (zh z i) i0 with
    | some j => have := nxt_some hx; omega
    | none =>
      rw [hx] at hcur
      subst hcur
      refine J.run0 2 rfl ?_
      try dsimp only
      exact hend none
  | succ m ih =>
    intro i0 cur h0 hcur
    cases hx : nxt (zM z) (zh z) (zh z i) i0 with
    | none =>
      rw [hx] at hcur
      subst hcur
      refine J.run0 2 rfl ?_
      try dsimp only
      exact hend none
    | some j =>
      rw [hx] at hcur
      subst hcur
      obtain ⟨j1, j2, j3, j4⟩ := nxt_some hx
      obtain ⟨⟨m1, m2, m3⟩, ⟨f1, f2, f3, f4, f5, f6, f7⟩, hnext⟩ := hM.2.2.1 j j2
      obtain ⟨g1, g2, g3, g4, g5, g6⟩ := hz.2.1 j j2
      have skip : J b (d + 1) 42 w (75, [(3, .inr (some (5, mp j))), (0, .inr (some (6, P))), (1, .inr (some (5, mp i))), (2, .inr a2)], [], H) Post := by
        refine J.run 4 rfl m1 ?_
        try dsimp only
        try dsimp only
        rw [hnext, j3, Option.map_map]
        exact ih (j + 1) _ (by omega) rfl
      refine J.run0 2 rfl ?_
      try dsimp only
      refine J.run 4 rfl ⟨m1, mi1⟩ ?_
      try dsimp only
      try dsimp only
      rw [f3, fi3]
      refine J.icmp rfl rfl rfl ⟨⟨by omega, by omega⟩, by omega, by omega⟩ (fun _ => skip) (fun _ => ?_)
      refine J.run0 2 rfl ?_
      try dsimp only
      refine J.invP rfl rfl rfl rfl rfl rfl ((jD_w rfl).mpr h6) rfl rfl rfl rfl (jstP.cons (Or.inl rfl) (jstP.cons (Or.inl rfl) (jstP.cons (Or.inl rfl) (jstP.cons ha2 jstP.nil)))) (c_heardAsFirst h6 hr m1 f1 (by omega)) ?_
      rintro r w' H' ⟨rfl, rfl, rfl⟩
      have hno : ¬ (j ∈ nK z n ∧ zk z j = 0) := fun h => by
        have := hz.2.2.1 j i j2 hi h.2 hk0 j3
        exact hk (this ▸ h.1)
      rw [hf j (by omega), if_neg (by simpa using hno)]
      exact J.ifc rfl rfl rfl ⟨by decide, by decide⟩ (fun _ => skip) (fun hc => absurd rfl hc)
theorem c_learn {F : cF} {z : zT} {n i P L q je : Nat} {mp : Nat → Nat} (hz : zInv z) (hM : cMs F w z H mp) (hn : n < 16) (hi : i < zM z) (hk : i ∉ nK z n) (hN : cNd w (z.2.2.2 n) (zk z) H n P L q je) :
    J b (d + 1) 42 w (0, jargs 0 [.inr (some (6, P)), .inr (some (5, mp i)), .inr ((nxt (zM z) (zh z) (zh z i) 0).map fun j => (5, mp j))], [], H) (jN fun r w' H' => r = none ∧ w' = w ∧ jK [6] [26, 27] H' H ∧ cNd w (nh z n, ns z n, ne z n, nr z n, nK z n ++ [i]) (zk z) H' n P L q je ∧ (∀ P' L', P' ≠ P → nSame H' H P' L') ∧ ∀ j, j ≠ 16 → H'.1 6 j P = H.1 6 j P) := by
  have hM6 : zM z ≤ 6000 := hz.1.1
  obtain ⟨⟨mi1, -, -⟩, ⟨fi1, fi2, fi3, fi4, fi5, fi6, fi7⟩, -⟩ := hM.2.2.1 i hi
  obtain ⟨gi1, gi2, gi3, gi4, gi5, gi6⟩ := hz.2.1 i hi
  obtain ⟨⟨a1, a2, a3, a4, a5, a6, a7⟩, bb, cc, dd, e1, e2, e3⟩ := hN
  have ix := jidx (i := i) (by omega)
  have i1 : 0 ≤ jushr (H.1 5 0 (mp i)) 5 := by rw [fi1, ix.1]; omega
  have i2 : jushr (H.1 5 0 (mp i)) 5 < 188 := by rw [fi1, ix.1]; omega
  generalize ha2 : ((nxt (zM z) (zh z) (zh z i) 0).map fun j => (5, mp j)) = row
  refine J.run 24 rfl ⟨⟨a1, a3⟩, mi1, ⟨a3, i1, i2⟩, mi1, ⟨a3, i1, i2⟩, a1, a1, mi1⟩ ?_
  try dsimp only
  refine J.gn fun H1 hH1 => ?_
  have hK1 : jK [6] [26, 27] H1 H := by
    rw [hH1]
    refine jK.int ?_ (by decide)
    refine jK.row ?_ (by decide)
    exact jK.refl _ _ _
  have q1 : H1.1 6 16 P = H.1 6 16 P + 1 := by rw [hH1]; exact if_pos rfl
  have q2 : H1.2.2.1 26 P = jup (H.2.2.1 26 P) ((i / 32 : Nat) : Int) (jor (H.2.2.1 26 P ((i / 32 : Nat) : Int)) (jshl 1 ((i % 32 : Nat) : Int))) := by
    rw [hH1]
    show jsetR H.2.2.1 26 P (jup (H.2.2.1 26 P) (jushr (H.1 5 0 (mp i)) 5) (jor (H.2.2.1 26 P (jushr (H.1 5 0 (mp i)) 5)) (jshl 1 (jand (H.1 5 0 (mp i)) 31)))) 26 P = _
    rw [jsetR_eq, fi1, ix.1, ix.2]
  have q3 : H1.2.2.1 27 = H.2.2.1 27 := by
    rw [hH1]
    rfl
  have q4 : ∀ j p, ¬ (j = 16 ∧ p = P) → H1.1 6 j p = H.1 6 j p := fun j p h => by
    rw [hH1]
    show jupF H.1 6 16 P _ 6 j p = _
    exact jupF_ne fun z => h z.2
  have q5 : H1.2.2.2.2 = H.2.2.2.2 := by rw [hH1]
  have q6 : ∀ p, p ≠ P → H1.2.2.1 26 p = H.2.2.1 26 p := fun p h => by
    rw [hH1]
    show jsetR H.2.2.1 26 P _ 26 p = _
    exact jsetR_ne fun z => h z.2
  have q7 : H1.1 5 1 (mp i) = zk z i := by rw [(hK1.1 5 (by decide)).1]; exact fi2
  have q8 : H1.1 4 = H.1 4 := (hK1.1 4 (by decide)).1
  have qS : ∀ P' L', P' ≠ P → nSame H1 H P' L' := fun P' L' h => ⟨fun j => ⟨q4 j P' fun z => h z.2, by rw [q5]⟩, fun j => by rw [q8], q6 P' h, by rw [q3]⟩
  -- what stands behind the first stretch
  have base : ∀ H2 : jH, (∀ j, H2.1 6 j P = H1.1 6 j P ∧ H2.2.2.2.2 6 j P = H1.2.2.2.2 6 j P) → (∀ j, H2.1 4 j L = H1.1 4 j L) → H2.2.2.1 26 P = H1.2.2.1 26 P → (∀ l : Nat, l < 6000 → mb (H2.2.2.1 27 P ((l / 32 : Nat) : Int)) (l % 32) = decide (l ∈ nK z n ++ [i] ∧ zk z l = 0)) → cNd w (nh z n, ns z n, ne z n, nr z n, nK z n ++ [i]) (zk z) H2 n P L q je := by
    intro H2 g1 g2 g3 g4
    have r6 : ∀ j, j ≠ 16 → H2.1 6 j P = H.1 6 j P := fun j hj => ((g1 j).1).trans (q4 j P fun z => hj z.1)
    have r7 : ∀ j, H2.2.2.2.2 6 j P = H.2.2.2.2 6 j P := fun j => ((g1 j).2).trans (by rw [q5])
    have r4 : ∀ j, H2.1 4 j L = H.1 4 j L := fun j => (g2 j).trans (by rw [q8])
    unfold cNd
    rw [r6 0 (by decide), r7 1, r6 2 (by decide), r6 3 (by decide), r6 4 (by decide), r6 5 (by decide), r6 6 (by decide), r6 7 (by decide), r6 8 (by decide), r6 9 (by decide), r6 10 (by decide), r6 11 (by decide), r6 12 (by decide), r7 13, r4 1, r4 2, g3]
    refine ⟨⟨a1, a2, a3, a4, a5, a6, a7⟩, bb, cc, dd, ?_, ?_, g4⟩
    · rw [(g1 16).1, q1, e1, List.length_append, List.length_singleton]
      show (((nK z n).length : Nat) : Int) + 1 = (((nK z n).length + 1 : Nat) : Int)
      omega
    · intro l hl
      rw [q2, bit_set e2 l hl]
      show (decide (l ∈ nK z n) || decide (l = i)) = decide (l ∈ nK z n ++ [i])
      by_cases h1 : l ∈ nK z n
      · simp [h1]
      · by_cases h2 : l = i
        · simp [h2]
        · simp [h1, h2]
  have hS1 : ∀ P' L', P' ≠ P → nSame H1 H P' L' := qS
  by_cases hk0 : zk z i = 0
  rotate_left
  · refine J.ifc rfl rfl rfl ⟨show -2147483648 ≤ H.1 5 1 (mp i) by omega, show H.1 5 1 (mp i) ≤ 2147483647 by omega⟩ (fun _ => ?_) (fun hc => absurd (show ¬ H.1 5 1 (mp i) = 0 by omega) hc)
    refine J.retv rfl rfl rfl ⟨_, rfl, rfl, rfl, hK1, base H1 (fun _ => ⟨rfl, rfl⟩) (fun _ => rfl) rfl (fun l hl => ?_), hS1, fun j hj => q4 j P fun z => hj z.1⟩
    rw [q3, e3 l hl]
    show decide (l ∈ nK z n ∧ zk z l = 0) = decide (l ∈ nK z n ++ [i] ∧ zk z l = 0)
    by_cases h2 : l = i
    · rw [h2]; simp [hk0]
    · simp [h2]
  refine J.ifc rfl rfl rfl ⟨show -2147483648 ≤ H.1 5 1 (mp i) by omega, show H.1 5 1 (mp i) ≤ 2147483647 by omega⟩ (fun hc => absurd (show H.1 5 1 (mp i) = 0 by omega) hc) (fun _ => ?_)
  refine J.run 3 rfl mi1 ?_
  try dsimp only
  have eb : H1.1 5 5 (mp i) = (zh z i : Int) := by rw [(hK1.1 5 (by decide)).1]; exact fi6
  try dsimp only
  rw [eb]
  refine J.icmp rfl rfl rfl ⟨⟨by omega, by omega⟩, by decide, by decide⟩ (fun _ => ?_) (fun hc => absurd (show ¬ (zh z i : Int) = -1 by omega) hc)
  refine J.run0 2 rfl ?_
  try dsimp only
  have hM1 : cMs F w z H1 mp := hM.mv (fun _ _ h => h) ⟨rfl, rfl⟩ hK1 (by decide) (by decide)
  have ht2 : jtkP b w (.inr row) := by
    rw [← ha2]
    cases nxt (zM z) (zh z) (zh z i) 0 with
    | none => trivial
    | some j => exact Or.inl rfl
  refine c_learn_l ht2 hz hM1 hn hi hk hk0 a1 a4 (by rw [q3]; exact e3) (fun cur => ?_) (zM z) 0 row (by omega) ha2.symm
  have n1 : H1.1 5 0 (mp i) = (i : Int) := by rw [(hK1.1 5 (by decide)).1]; exact fi1
  have i1' : 0 ≤ jushr (H1.1 5 0 (mp i)) 5 := by rw [n1, ix.1]; omega
  have i2' : jushr (H1.1 5 0 (mp i)) 5 < 188 := by rw [n1, ix.1]; omega
  refine J.run 16 rfl ⟨⟨a1, a4⟩, mi1, ⟨a4, i1', i2'⟩, mi1, ⟨a4, i1', i2'⟩⟩ ?_
  try dsimp only
  refine J.gn fun H2 hH2 => ?_
  have hK2 : jK [6] [26, 27] H2 H := by
    rw [hH2]
    refine jK.row ?_ (by decide)
    exact hK1
  have p1 : H2.2.2.1 27 P = jup (H1.2.2.1 27 P) ((i / 32 : Nat) : Int) (jor (H1.2.2.1 27 P ((i / 32 : Nat) : Int)) (jshl 1 ((i % 32 : Nat) : Int))) := by
    rw [hH2]
    show jsetR H1.2.2.1 27 P (jup (H1.2.2.1 27 P) (jushr (H1.1 5 0 (mp i)) 5) (jor (H1.2.2.1 27 P (jushr (H1.1 5 0 (mp i)) 5)) (jshl 1 (jand (H1.1 5 0 (mp i)) 31)))) 27 P = _
    rw [jsetR_eq, n1, ix.1, ix.2]
  have p2 : ∀ k p, ¬ (k = 27 ∧ p = P) → H2.2.2.1 k p = H1.2.2.1 k p := fun k p h => by
    rw [hH2]
    show jsetR H1.2.2.1 27 P _ k p = _
    exact jsetR_ne h
  have p3 : H2.1 = H1.1 ∧ H2.2.2.2.2 = H1.2.2.2.2 := by rw [hH2]; exact ⟨rfl, rfl⟩
  clear hH2 hH1
  refine J.retv rfl rfl rfl ⟨_, rfl, rfl, rfl, hK2, base H2 (fun j => by rw [p3.1, p3.2]; exact ⟨rfl, rfl⟩) (fun j => by rw [p3.1]) (p2 _ _ fun z => absurd z.1 (by decide)) (fun l hl => ?_), fun P' L' h => nSame.trans ⟨fun j => by rw [p3.1, p3.2]; exact ⟨rfl, rfl⟩, fun j => by rw [p3.1], p2 _ _ (fun z => h z.2), p2 _ _ (fun z => h z.2)⟩ (hS1 P' L' h), fun j hj => by rw [p3.1]; exact q4 j P fun z => hj z.1⟩
  rw [p1, bit_set (by rw [q3]; exact e3) l hl]
  show (decide (l ∈ nK z n ∧ zk z l = 0) || decide (l = i)) = decide (l ∈ nK z n ++ [i] ∧ zk z l = 0)
  by_cases h2 : l = i
  · rw [h2]; simp [hk0]
  · simp [h2]
end CW
