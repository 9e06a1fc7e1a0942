/-! the class: a BLOCK is proposed -/
section CH
variable {b : Bool} {d : Nat} {w : jW} {H : jH}
theorem J.min {k pc ix : Nat} {q : xMt} {lv : jL} {st : List jV} {x y u : Int} {Post : jO → jW → jH → Prop} (hq : xmts[k]? = some q) (hi : xat k pc = some (.invokestatic ix, 3)) (hl : xlk xivs q.1 ix = some (1, 171)) (hx : jR x) (hy : jR y) (hr : Nat.ble (st.length + 1) 8 = true) (h : J b d k w (pc + 3, lv, .inl (if y < x then y else x) :: .inl u :: st, H) Post) : J b d k w (pc, lv, .inl y :: .inl x :: .inl u :: st, H) Post := by
  intro ph hp hR
  obtain ⟨o', w', H', ph', hp', hX, hR', hE, hF, hP⟩ := h ph hp hR
  refine ⟨o', w', H', ph', hp', X.one ?_ hX, hR', hE, hF, hP⟩
  have h1 : xs q.1 q.2.2.2.1 (decide (q.2.1.name = "<init>")) (.invokestatic ix) 3 (pc, jml ph lv, Value.int (Int32.ofInt y) :: Value.int (Int32.ofInt x) :: Value.int (Int32.ofInt u) :: st.map (jm ph), hp, w.2.2) = none := by
    simp only [xs, xs1, xs6, xs5, xs4, xs7, xs8, show ¬ ((3 : Nat) = 1) by decide, if_false]
  have h2 : xs9 q.1 (.invokestatic ix) 3 (Value.int (Int32.ofInt y) :: Value.int (Int32.ofInt x) :: Value.int (Int32.ofInt u) :: st.map (jm ph)) hp = some (.int (Int32.ofInt (if y < x then y else x)) :: Value.int (Int32.ofInt u) :: st.map (jm ph), hp) := by
    have ne : ¬ ((1, 171) : Nat × Nat) = (1, 170) := by decide
    have e7 : ¬ (xlk xivs q.1 ix = some (7, 0)) := by rw [hl]; decide
    have e1 : ¬ (xlk xivs q.1 ix = some (1, 170)) := by rw [hl]; decide
    unfold xs9
    split
    · rename_i he _; cases he
    · rename_i he hs; cases hs
    · rename_i he hs; cases he; cases hs
      rw [if_neg fun z => e1 z.2.1, if_pos ⟨rfl, hl, by have := jcat_ok ph (.inl u :: st); simp only [List.map_cons, jm] at this; rw [this]; exact Nat.le_of_ble_eq_true hr⟩]
      by_cases hlt : y < x
      · rw [if_pos ((jof_lt hy hx).mpr hlt), if_pos hlt]
      · rw [if_neg (fun z => hlt ((jof_lt hy hx).mp z)), if_neg hlt]
    · rename_i hno
      exact absurd rfl (hno _ _ _ _ rfl)
  show xst k (pc, jml ph lv, Value.int (Int32.ofInt y) :: Value.int (Int32.ofInt x) :: Value.int (Int32.ofInt u) :: st.map (jm ph), hp, w.2.2) = _
  simp only [xst, hq, hi, h1, h2]
  rfl
theorem J.retar {k pc : Nat} {q : xMt} {lv : jL} {v : Nat × Nat} {s : FieldType} {Post : jO → jW → jH → Prop} (hq : xmts[k]? = some q) (hi : xat k pc = some (.areturn, 1)) (ht : q.2.2.2.2.1 = some (.array s)) (hP : Post (.inl (some (.inr (some v)))) w H) : J b d k w (pc, lv, [.inr (some v)], H) Post := by
  intro ph hp hR
  refine ⟨.inl (some (.inr (some v))), w, H, ph, hp, ?_, hR, jE.refl _ _ _, jF.refl _ _ _ _, hP⟩
  refine X.ret (g := (pc, jml ph lv, [.ref (ph v.1 v.2)], hp, w.2.2)) (q := q) ⟨hq, hi, ?_, ?_⟩ ?_
  · simp only [xs, xs1, xs6, xs3, xs5, xs4, xs7, xs8, if_true]
  · simp only [xs9]
  · simp only [xret, ht, if_true]
    rfl
theorem c_copy0 {L : Nat} (h23 : w.1 23 L) : J b d 173 w (0, jargs 0 [.inr (some (23, L)), .inl 0], [], H) (jN fun r w' H' => r = some (.inr (some (42, w.2.1))) ∧ w' = jwA w 42 w.2.1 0 ∧ 0 < w.2.1 ∧ (∀ k p, w.1 k p → p < w.2.1) ∧ H'.1 42 0 w.2.1 = 0 ∧ (∀ c j p, ¬ (c = 42 ∧ p = w.2.1) → H'.1 c j p = H.1 c j p) ∧ H'.2.1 = H.2.1 ∧ H'.2.2.2 = H.2.2.2 ∧ ∀ k p, ¬ (k = 42 ∧ p = w.2.1) → H'.2.2.1 k p = H.2.2.1 k p) := by
  refine J.run 3 rfl ⟨h23, show (0 : Int) ≤ 12 by decide, show (12 : Int) ≤ 2147483647 by decide⟩ ?_
  try dsimp only
  refine J.icmp rfl rfl rfl ⟨⟨by decide, by decide⟩, show (-2147483648 : Int) ≤ 12 by decide, show (12 : Int) ≤ 2147483647 by decide⟩ (fun _ => ?_) (fun hc => absurd (show ¬ (0 : Int) = 12 by decide) hc)
  refine J.run0 1 rfl ?_
  try dsimp only
  refine J.nd (kd := 42) rfl rfl (Or.inl rfl) (by decide) (jstP.cons (Or.inr ((jD_w rfl).mpr h23)) (jstP.cons trivial jstP.nil)) fun H1 hN1 hwc => ?_
  obtain ⟨x1, x2, x3, x4, x5, x6, x7⟩ := hN1
  refine J.run 8 rfl ⟨Or.inl h23, show (0 : Int) ≤ 12 by decide, show (12 : Int) ≤ 2147483647 by decide⟩ ?_
  try dsimp only
  refine J.min rfl rfl rfl ⟨show (-2147483648 : Int) ≤ 12 by decide, show (12 : Int) ≤ 2147483647 by decide⟩ ⟨by decide, by decide⟩ rfl ?_
  have e42 : H1.1 42 0 w.2.1 = 0 := x2 rfl
  refine J.cpy (n1 := 12) (n2 := -1) rfl rfl rfl rfl rfl (fun z => absurd z.1 (by decide)) rfl ((jD_w rfl).mpr (Or.inl h23)) ((jD_w rfl).mpr (Or.inr ⟨rfl, rfl⟩)) (show (0 : Int) ≤ 0 ∧ (0 : Int) ≤ 0 ∧ (0 : Int) ≤ (if (0 : Int) < 12 then 0 else 12) by decide) (show (0 : Int) + (if (0 : Int) < 12 then 0 else 12) ≤ 12 by decide) ?_ ?_
  · show (0 : Int) + (if (0 : Int) < 12 then 0 else 12) ≤ H1.1 42 0 w.2.1
    rw [e42]
    decide
  refine J.run0 1 rfl ?_
  try dsimp only
  refine J.gn fun H2 hH2 => ?_
  have y1 : H2.1 = H1.1 ∧ H2.2.1 = H1.2.1 ∧ H2.2.2.2 = H1.2.2.2 := by rw [hH2]; exact ⟨rfl, rfl, rfl⟩
  have y2 : ∀ k p, ¬ (k = 42 ∧ p = w.2.1) → H2.2.2.1 k p = H1.2.2.1 k p := fun k p h => by
    rw [hH2]
    show jsetR H1.2.2.1 42 w.2.1 _ k p = _
    exact jsetR_ne h
  clear hH2
  refine J.retar rfl rfl rfl ⟨_, rfl, rfl, rfl, hwc.1, fun k p h => (hwc.2 k p h).1, ?_, fun c j p h => ?_, ?_, ?_, fun k p h => ?_⟩
  · rw [y1.1]; exact e42
  · rw [y1.1]; exact x1 c j p h
  · rw [y1.2.1, x3]
  · rw [y1.2.2]
    exact Prod.ext x5 x4
  · rw [y2 k p h, x6 k p h]
theorem c_open_l {F : cF} {z : zT} {bp sp : Nat → Nat} {par : Nat} {Post : jO → jW → jH → Prop} (hBk : cBk F w z H bp sp) (hnext : ∀ lv, (lv = [(2, .inr none), (0, .inr (some (3, fL F))), (1, .inr (some (0, par)))] ∨ ∃ x, lv = [(2, .inr none), (3, .inl x), (0, .inr (some (3, fL F))), (1, .inr (some (0, par)))]) → J b d 20 w (56, lv, [], H) Post) :
    ∀ (i : Nat) (lv : jL), i < zB z → (lv = [(2, .inr (some (0, bp i))), (0, .inr (some (3, fL F))), (1, .inr (some (0, par)))] ∨ ∃ x, lv = [(2, .inr (some (0, bp i))), (3, .inl x), (0, .inr (some (3, fL F))), (1, .inr (some (0, par)))]) → J b d 20 w (12, lv, [], H) Post := by
  intro i
  induction i with
  | zero =>
    intro lv hi hlv
    obtain ⟨⟨f1, f2, f3, f4, f5, f6⟩, ⟨g1, g2, g3⟩, -⟩ := (hBk.2.2.2.1 0 hi).2.2
    rw [if_pos rfl] at f5
    rcases hlv with rfl | ⟨x, rfl⟩
    all_goals
      refine J.run0 4 rfl ?_
      try dsimp only
      refine J.run 4 rfl ⟨⟨f1, g1⟩, g2, show 0 ≤ H.1 42 0 (H.2.2.2.2 0 4 (bp 0)) by omega, show H.1 42 0 (H.2.2.2.2 0 4 (bp 0)) ≤ 2147483647 by omega⟩ ?_
      try dsimp only
      refine J.icmp rfl rfl rfl ⟨⟨by decide, by decide⟩, show -2147483648 ≤ H.1 42 0 (H.2.2.2.2 0 4 (bp 0)) by omega, show H.1 42 0 (H.2.2.2.2 0 4 (bp 0)) ≤ 2147483647 by omega⟩ (fun _ => ?_) (fun hc => absurd (show H.1 42 0 (H.2.2.2.2 0 4 (bp 0)) ≤ 0 by omega) hc)
      refine J.run 2 rfl f1 ?_
      try dsimp only
      try dsimp only
      rw [f5]
      refine J.run0 2 rfl ?_
      try dsimp only
      refine J.run0 2 rfl ?_
      try dsimp only
      exact hnext _ (Or.inr ⟨_, rfl⟩)
  | succ i ih =>
    intro lv hi hlv
    obtain ⟨⟨f1, f2, f3, f4, f5, f6⟩, ⟨g1, g2, g3⟩, -⟩ := (hBk.2.2.2.1 (i + 1) hi).2.2
    rw [if_neg (by omega), show i + 1 - 1 = i by omega] at f5
    rcases hlv with rfl | ⟨x, rfl⟩
    all_goals
      refine J.run0 4 rfl ?_
      try dsimp only
      refine J.run 4 rfl ⟨⟨f1, g1⟩, g2, show 0 ≤ H.1 42 0 (H.2.2.2.2 0 4 (bp (i + 1))) by omega, show H.1 42 0 (H.2.2.2.2 0 4 (bp (i + 1))) ≤ 2147483647 by omega⟩ ?_
      try dsimp only
      refine J.icmp rfl rfl rfl ⟨⟨by decide, by decide⟩, show -2147483648 ≤ H.1 42 0 (H.2.2.2.2 0 4 (bp (i + 1))) by omega, show H.1 42 0 (H.2.2.2.2 0 4 (bp (i + 1))) ≤ 2147483647 by omega⟩ (fun _ => ?_) (fun hc => absurd (show H.1 42 0 (H.2.2.2.2 0 4 (bp (i + 1))) ≤ 0 by omega) hc)
      refine J.run 2 rfl f1 ?_
      try dsimp only
      try dsimp only
      rw [f5]
      refine J.run0 2 rfl ?_
      try dsimp only
      exact ih _ (by omega) (Or.inr ⟨_, rfl⟩)
/-- the cells of the ledger and of its trial STATE -/
def cX (F : cF) (k p : Nat) : Prop := (p = fL F ∧ k ∈ [3, 21]) ∨ (p = fT F ∧ (k = 8 ∨ k ∈ sR))
theorem c_open {F : cF} {z : zT} {bp sp : Nat → Nat} {i : Nat} (hBk : cBk F w z H bp sp) (hi : i < zB z) : J b (d + 1) 20 w (0, jargs 0 [.inr (some (3, fL F)), .inr (some (0, bp i))], [], H) (jN fun r w' H' => r = none ∧ w' = w ∧ cSt1 H' (fT F) ∧ cBk F w z H' bp sp ∧ jK [3, 8] sR H' H ∧ jOl w (cX F) H' H) := by
  obtain ⟨⟨a1, a2, a3, a4, a5⟩, ⟨b1, b2, b3, b4⟩, c, dd, e⟩ := hBk
  obtain ⟨f, hne, ⟨f1, f2, f3, f4, f5, f6⟩, -, -, hs, k0, k1, -⟩ := dd i hi
  refine J.run 8 rfl ⟨a1, a1⟩ ?_
  try dsimp only
  refine J.gn fun H1 hH1 => ?_
  have q0 : jK [3] [] H1 H := by
    rw [hH1]
    refine jK.int ?_ (by decide)
    exact jK.refl _ _ _
  have q1 : ∀ c j p, ¬ (c = 3 ∧ j = 7 ∧ p = fL F) → H1.1 c j p = H.1 c j p := fun c j p h => by
    rw [hH1]
    show jupF H.1 3 7 (fL F) _ c j p = _
    exact jupF_ne h
  have q2 : H1.2 = H.2 := by rw [hH1]
  clear hH1
  have o1 : jOl w (cX F) H1 H := fun k p _ hx => by
    refine ⟨fun j => ⟨q1 k j p fun z => hx (Or.inl ⟨z.2.2, by rw [z.1]; decide⟩), by rw [q2], by rw [q2]⟩, by rw [q2], by rw [q2]⟩
  have hBk1 : cBk F w z H1 bp sp := by
    refine ⟨⟨a1, a2, a3, a4, a5⟩, ⟨?_, ?_, ?_, b4⟩, c.mv fun _ _ h => h, fun b' hb => ?_, e⟩
    · rw [q1 3 1 _ fun z => absurd z.2.1 (by decide)]; exact b1
    · rw [q1 3 3 _ fun z => absurd z.2.1 (by decide)]; exact b2
    · rw [q2]; exact b3
    · have := dd b' hb
      refine ⟨by rw [q2]; exact this.1, this.2.1, this.2.2.ol (fun _ _ h => h) o1 (fun z => ?_) (fun p z => ?_) (fun p z => ?_) fun k hk z => ?_⟩
      · rcases z with z | z
        · exact absurd z.2 (by decide)
        · exact absurd z.2 (by decide)
      · rcases z with z | z
        · exact absurd z.2 (by decide)
        · exact absurd z.2 (by decide)
      · rcases z with z | z
        · exact absurd z.2 (by decide)
        · exact absurd z.2 (by decide)
      · rcases z with z | z
        · rcases hk with rfl | hk
          · exact absurd z.2 (by decide)
          · have h2 := z.2
            revert hk h2
            simp only [List.mem_cons, List.not_mem_nil, or_false]
            omega
        · exact this.2.1 z.1
  refine c_open_l (par := bp i) hBk1 (fun lv hlv => ?_) i _ hi (Or.inl rfl)
  have t1 : H1.2.2.2.2 3 4 (fL F) = fT F := by rw [q2]; exact b3
  have t2 : H1.2.1 0 6 (bp i) = some (sp i) := by rw [q2]; exact hs
  have t3 : H1.1 0 1 (bp i) = (i : Int) := by rw [q1 0 1 _ fun z => absurd z.1 (by decide)]; exact f4
  have k1' : cSt1 H1 (sp i) := (hBk1.2.2.2.1 i hi).2.2.2.2.2.2.2.1
  rcases hlv with rfl | ⟨x, rfl⟩
  all_goals
    refine J.run 2 rfl ⟨a1, by rw [t1]; exact c.2.1⟩ ?_
    try dsimp only
    try dsimp only
    rw [t1]
    refine J.run 2 rfl f1 ?_
    try dsimp only
    try dsimp only
    rw [t2]
    refine J.inv rfl rfl rfl rfl rfl rfl ((jD_w rfl).mpr c.1) rfl rfl rfl rfl rfl (c_beLike (c.mv fun _ _ h => h) (k0.mv fun _ _ h => h) (Ne.symm hne) k1') ?_
    rintro r w' H2 ⟨rfl, rfl, s2, g2⟩
    have t4 : H2.2.2.2.2 3 4 (fL F) = fT F := by rw [g2.2.1]; exact t1
    have t5 : H2.1 0 1 (bp i) = (i : Int) := by rw [g2.2.2.1 0 1 _ fun z => absurd z.1 (by decide)]; exact t3
    refine J.run 2 rfl ⟨a1, by rw [t4]; exact c.2.1⟩ ?_
    try dsimp only
    try dsimp only
    rw [t4]
    refine J.run 4 rfl f1 ?_
    try dsimp only
    refine J.inv rfl rfl rfl rfl rfl rfl ((jD_w rfl).mpr c.1) rfl rfl rfl rfl rfl (c_giveBack c.1 s2.1.2.1) ?_
    rintro r w' H3 ⟨rfl, rfl, rfl⟩
    have o2 : jOl w' (cX F) H3 H1 := fun k p _ hx => by
      refine ⟨fun j => ⟨g2.2.2.1 k j p fun z => hx (Or.inr ⟨z.2.1, Or.inl z.1⟩), by rw [g2.1], by rw [g2.2.1]⟩, g2.2.2.2 k p fun z => hx (Or.inr ⟨z.1, Or.inr z.2⟩), by rw [g2.2.1]⟩
    refine J.retv rfl rfl rfl ⟨_, rfl, rfl, rfl, s2, ?_, g2.k.trans (q0.mono (by decide) (fun _ h => by cases h)) (by decide) (fun _ h => h), o2.trans o1⟩
    refine ⟨⟨a1, a2, a3, a4, a5⟩, ⟨?_, ?_, ?_, b4⟩, c.mv fun _ _ h => h, fun b' hb => ?_, e⟩
    · rw [g2.2.2.1 3 1 _ fun z => absurd z.1 (by decide)]; exact hBk1.2.1.1
    · rw [g2.2.2.1 3 3 _ fun z => absurd z.1 (by decide)]; exact hBk1.2.1.2.1
    · exact t4
    · have := hBk1.2.2.2.1 b' hb
      refine ⟨by rw [g2.2.1]; exact this.1, this.2.1, this.2.2.ol (fun _ _ h => h) o2 (fun z => ?_) (fun p z => ?_) (fun p z => ?_) fun k hk z => ?_⟩
      · rcases z with z | z
        · exact absurd z.2 (by decide)
        · exact absurd z.2 (by decide)
      · rcases z with z | z
        · exact absurd z.2 (by decide)
        · exact absurd z.2 (by decide)
      · rcases z with z | z
        · exact absurd z.2 (by decide)
        · exact absurd z.2 (by decide)
      · rcases z with z | z
        · rcases hk with rfl | hk
          · exact absurd z.2 (by decide)
          · have h2 := z.2
            revert hk h2
            simp only [List.mem_cons, List.not_mem_nil, or_false]
            omega
        · exact this.2.1 z.1
end CH
