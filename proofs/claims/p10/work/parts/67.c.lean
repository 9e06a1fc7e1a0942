section CA
variable {b : Bool} {d : Nat} {w : jW} {H : jH}
theorem jwM.add (w : jW) (c p s : Nat) : jwM w (jwA w c p s) := fun _ _ h => Or.inl h
theorem jwM.trans {w1 w2 w3 : jW} (h : jwM w1 w2) (h' : jwM w2 w3) : jwM w1 w3 := fun k p x => h' k p (h k p x)
/-- the MESSAGES behind one more -/
theorem cMs.add {F : cF} {w' : jW} {z z' : zT} {H' : jH} {mp : Nat → Nat} {p0 kd n h : Nat} (hz : zInv z) (hM : cMs F w z H mp) (hw : jwM w w') (hz' : z'.1 = z.1 + 1 ∧ z'.2.1 = va_up z.2.1 z.1 (kd, n, h)) (hh : h ≤ 120) (hp0 : 0 < p0) (hw5 : w'.1 5 p0) (hfr : ∀ i, i < zM z → mp i ≠ p0)
    (s1 : H'.1 7 4 (fP F) = (zM z : Int) + 1) (s2 : ∀ i : Nat, H'.2.2.2.1 28 (fP F) (i : Int) = if i = zM z then some p0 else H.2.2.2.1 28 (fP F) (i : Int))
    (s3 : ∀ j p, p ≠ p0 → H'.1 5 j p = H.1 5 j p) (s4 : H'.1 5 0 p0 = zM z ∧ H'.1 5 1 p0 = kd ∧ H'.1 5 2 p0 = n ∧ H'.1 5 3 p0 = h ∧ H'.1 5 4 p0 = 0 ∧ H'.1 5 5 p0 = h ∧ H'.1 5 6 p0 = -1)
    (s5 : H'.2.1 5 7 p0 = none) (s6 : ∀ p, p ≠ p0 → H'.2.1 5 7 p = if (lx (zM z) (zh z) h).map mp = some p then some p0 else H.2.1 5 7 p)
    (s7 : ∀ x : Nat, x ≤ 120 → H'.2.2.2.1 29 (fP F) ((x : Int) * 32 + 0) = if x = h ∧ lx (zM z) (zh z) h = none then some p0 else H.2.2.2.1 29 (fP F) ((x : Int) * 32 + 0))
    (s8 : ∀ x : Nat, x ≤ 120 → H'.2.2.2.1 30 (fP F) ((x : Int) * 32 + 0) = if x = h then some p0 else H.2.2.2.1 30 (fP F) ((x : Int) * 32 + 0))
    (s9 : ∀ x : Nat, x ≤ 120 → H'.2.2.1 31 (fP F) (x : Int) = if x = h then 1 else H.2.2.1 31 (fP F) (x : Int))
    (s10 : ∀ i : Int, i % 32 ≠ 0 → H'.2.2.2.1 29 (fP F) i = H.2.2.2.1 29 (fP F) i) : cMs F w' z' H' (va_up mp (zM z) p0) := by
  obtain ⟨⟨a1, a2, a3, a4, a5⟩, bb, cc, dd, ee⟩ := hM
  have eM : zM z' = zM z + 1 := hz'.1
  have eo : ∀ l, l < zM z → z'.2.1 l = z.2.1 l := fun l hl => by
    rw [hz'.2]
    exact if_neg (by have : l < z.1 := hl; omega)
  have en : z'.2.1 (zM z) = (kd, n, h) := by
    rw [hz'.2]
    exact if_pos rfl
  have ezh : ∀ l, l < zM z → zh z' l = zh z l := fun l hl => by unfold zh; rw [eo l hl]
  have ezn : zh z' (zM z) = h := by unfold zh; rw [en]
  have mo : ∀ l, l < zM z → va_up mp (zM z) p0 l = mp l := fun l hl => if_neg (by omega)
  have mn : va_up mp (zM z) p0 (zM z) = p0 := if_pos rfl
  have mmap : ∀ x i, (nxt (zM z) (zh z) x i).map (va_up mp (zM z) p0) = (nxt (zM z) (zh z) x i).map mp := fun x i => by
    cases hx : nxt (zM z) (zh z) x i with
    | none => rfl
    | some j => simp only [Option.map_some]; rw [mo j (nxt_some hx).2.1]
  have lmap : ∀ x, (lx (zM z) (zh z) x).map (va_up mp (zM z) p0) = (lx (zM z) (zh z) x).map mp := fun x => by
    cases hx : lx (zM z) (zh z) x with
    | none => rfl
    | some j => simp only [Option.map_some]; rw [mo j (lx_some hx).1]
  have nsucc : ∀ x i, nxt (zM z') (zh z') x i = match nxt (zM z) (zh z) x i with
      | some j => some j
      | none => if i ≤ zM z ∧ h = x then some (zM z) else none := fun x i => by
    rw [eM]
    show (match nxt (zM z) (zh z') x i with | some j => some j | none => if i ≤ zM z ∧ zh z' (zM z) = x then some (zM z) else none) = _
    rw [nxt_congr ezh, ezn]
  have lsucc : ∀ x, lx (zM z') (zh z') x = if h = x then some (zM z) else lx (zM z) (zh z) x := fun x => by
    rw [eM]
    show (if zh z' (zM z) = x then some (zM z) else lx (zM z) (zh z') x) = _
    rw [ezn, lx_congr ezh]
  refine ⟨⟨hw _ _ a1, hw _ _ a2, hw _ _ a3, hw _ _ a4, hw _ _ a5⟩, ?_, fun i hi => ?_, ⟨fun i j hi hj he => ?_, fun i hi => ?_, fun i hi => ?_⟩, fun x hx => ⟨?_, ?_, ?_⟩⟩
  · rw [s1, eM]; omega
  · by_cases him : i = zM z
    · subst him
      rw [mn, s2, if_pos rfl]
      obtain ⟨t1, t2, t3, t4, t5, t6, t7⟩ := s4
      refine ⟨⟨hw5, hp0, rfl⟩, ⟨t1, ?_, ?_, ?_, t5, ?_, t7⟩, ?_⟩
      · rw [t2]; unfold zk; rw [en]
      · rw [t3]; unfold zn; rw [en]
      · rw [t4, ezn]
      · rw [t6, ezn]
      · rw [s5, ezn, nsucc]
        have hnn : nxt (zM z) (zh z) h (zM z + 1) = none := by
          cases hx : nxt (zM z) (zh z) h (zM z + 1) with
          | none => rfl
          | some j => have := nxt_some hx; omega
        rw [hnn]
        try dsimp only
        rw [if_neg (by omega)]
        rfl
    · have hi' : i < zM z := by omega
      obtain ⟨⟨c1, c2, c3⟩, ⟨f1, f2, f3, f4, f5, f6, f7⟩, hnext⟩ := cc i hi'
      have hne := hfr i hi'
      rw [mo i hi', s2, if_neg him, s3 0 _ hne, s3 1 _ hne, s3 2 _ hne, s3 3 _ hne, s3 4 _ hne, s3 5 _ hne, s3 6 _ hne, ezh i hi']
      refine ⟨⟨hw _ _ c1, c2, c3⟩, ⟨f1, ?_, ?_, f4, f5, f6, f7⟩, ?_⟩
      · rw [f2]; unfold zk; rw [eo i hi']
      · rw [f3]; unfold zn; rw [eo i hi']
      · rw [s6 _ hne, nsucc]
        cases hl : lx (zM z) (zh z) h with
        | none =>
          rw [if_neg (by simp), hnext]
          have hno := lx_none hl
          cases hx : nxt (zM z) (zh z) (zh z i) (i + 1) with
          | some j =>
            simp only [Option.map_some]
            rw [mo j (nxt_some hx).2.1]
          | none =>
            try dsimp only
            rw [if_neg fun y => hno i hi' y.2.symm]
            rfl
        | some l =>
          obtain ⟨l1, l2, l3⟩ := lx_some hl
          by_cases hil : i = l
          · subst hil
            rw [if_pos (show (some i).map mp = some (mp i) from rfl)]
            have hnn : nxt (zM z) (zh z) (zh z i) (i + 1) = none := by
              cases hx : nxt (zM z) (zh z) (zh z i) (i + 1) with
              | none => rfl
              | some j =>
                have := nxt_some hx
                exact absurd (this.2.2.1.trans l2) (l3 j (by omega) this.2.1)
            rw [hnn]
            try dsimp only
            rw [if_pos ⟨by omega, l2.symm⟩]
            simp only [Option.map_some]
            rw [mn]
          · rw [if_neg (show ¬ (some l).map mp = some (mp i) from fun y => hil (dd.1 i l hi' l1 (Option.some.inj y).symm)), hnext]
            cases hx : nxt (zM z) (zh z) (zh z i) (i + 1) with
            | some j =>
              simp only [Option.map_some]
              rw [mo j (nxt_some hx).2.1]
            | none =>
              try dsimp only
              have hno := nxt_none hx
              rw [if_neg fun y => ?_]
              · rfl
              rcases Nat.lt_or_ge i l with hlt | hge
              · exact hno l (by omega) l1 (l2.trans y.2)
              · exact l3 i (by omega) hi' y.2.symm
  · rw [eM] at hi hj
    by_cases him : i = zM z
    · by_cases hjm : j = zM z
      · omega
      · rw [him, mn, mo j (by omega)] at he
        exact absurd he.symm (hfr j (by omega))
    · by_cases hjm : j = zM z
      · rw [hjm, mn, mo i (by omega)] at he
        exact absurd he (hfr i (by omega))
      · rw [mo i (by omega), mo j (by omega)] at he
        exact dd.1 i j (by omega) (by omega) he
  · rw [eM] at hi
    rw [s2, if_neg (by omega)]
    exact dd.2.1 i (by omega)
  · rw [s10 i hi]
    exact dd.2.2 i hi
  · rw [s7 x hx, nsucc, (ee x hx).1]
    cases hn0 : nxt (zM z) (zh z) x 0 with
    | some j =>
      obtain ⟨j1, j2, j3, j4⟩ := nxt_some hn0
      rw [if_neg fun y => lx_none y.2 j j2 (by rw [j3, y.1])]
      simp only [Option.map_some]
      rw [mo j j2]
    | none =>
      have hno := nxt_none hn0
      by_cases hxh : h = x
      · have hl : lx (zM z) (zh z) h = none := by
          cases hl : lx (zM z) (zh z) h with
          | none => rfl
          | some l => have := lx_some hl; exact absurd (this.2.1.trans hxh) (hno l (by omega) this.1)
        rw [if_pos ⟨hxh.symm, hl⟩]
        try dsimp only
        rw [if_pos ⟨by omega, hxh⟩]
        simp only [Option.map_some]
        rw [mn]
      · rw [if_neg fun y => hxh y.1.symm]
        try dsimp only
        rw [if_neg fun y => hxh y.2]
        rfl
  · rw [s8 x hx, lsucc, (ee x hx).2.1]
    by_cases hxh : h = x
    · rw [if_pos hxh.symm, if_pos hxh]
      simp only [Option.map_some]
      rw [mn]
    · rw [if_neg fun y => hxh y.symm, if_neg hxh, lmap]
  · rw [s9 x hx, nsucc, (ee x hx).2.2]
    cases hn0 : nxt (zM z) (zh z) x 0 with
    | some j =>
      simp
    | none =>
      by_cases hxh : h = x
      · rw [if_pos hxh.symm]
        show (1 : Int) = if (if 0 ≤ zM z ∧ h = x then some (zM z) else none).isSome = true then 1 else 0
        rw [if_pos (⟨Nat.zero_le _, hxh⟩ : 0 ≤ zM z ∧ h = x)]
        rfl
      · rw [if_neg fun y => hxh y.symm]
        show (if (none : Option Nat).isSome = true then (1 : Int) else 0) = if (if 0 ≤ zM z ∧ h = x then some (zM z) else none).isSome = true then 1 else 0
        rw [if_neg (fun y : 0 ≤ zM z ∧ h = x => hxh y.2)]
/-- what a new MESSAGE changes -/
def cRaw (F : cF) (z : zT) (H H' : jH) (mp : Nat → Nat) (p0 kd n h : Nat) (bl : Int) : Prop :=
    (H'.1 7 4 (fP F) = (zM z : Int) + 1) ∧ (∀ i : Nat, H'.2.2.2.1 28 (fP F) (i : Int) = if i = zM z then some p0 else H.2.2.2.1 28 (fP F) (i : Int)) ∧
    (∀ j p, p ≠ p0 → H'.1 5 j p = H.1 5 j p) ∧ (H'.1 5 0 p0 = zM z ∧ H'.1 5 1 p0 = kd ∧ H'.1 5 2 p0 = n ∧ H'.1 5 3 p0 = h ∧ H'.1 5 4 p0 = 0 ∧ H'.1 5 5 p0 = bl ∧ H'.1 5 6 p0 = -1) ∧
    (H'.2.1 5 7 p0 = none) ∧ (∀ p, p ≠ p0 → H'.2.1 5 7 p = if (lx (zM z) (zh z) h).map mp = some p then some p0 else H.2.1 5 7 p) ∧
    (∀ x : Nat, x ≤ 120 → H'.2.2.2.1 29 (fP F) ((x : Int) * 32 + 0) = if x = h ∧ lx (zM z) (zh z) h = none then some p0 else H.2.2.2.1 29 (fP F) ((x : Int) * 32 + 0)) ∧
    (∀ x : Nat, x ≤ 120 → H'.2.2.2.1 30 (fP F) ((x : Int) * 32 + 0) = if x = h then some p0 else H.2.2.2.1 30 (fP F) ((x : Int) * 32 + 0)) ∧
    (∀ x : Nat, x ≤ 120 → H'.2.2.1 31 (fP F) (x : Int) = if x = h then 1 else H.2.2.1 31 (fP F) (x : Int)) ∧
    (∀ i : Int, i % 32 ≠ 0 → H'.2.2.2.1 29 (fP F) i = H.2.2.2.1 29 (fP F) i) ∧ 0 < p0 ∧ ∀ i, i < zM z → mp i ≠ p0
theorem c_addR {F : cF} {z : zT} {mp : Nat → Nat} {kd n h : Nat} {bl : Int} (hz : zInv z) (hM : cMs F w z H mp) (hM6 : zM z < 6000) (hh : h ≤ 120) :
    J b (d + 1) 50 w (0, jargs 0 [.inr (some (7, fP F)), .inl (kd : Int), .inl (n : Int), .inl (h : Int), .inl 0, .inl bl, .inl (-1)], [], H) (jN fun r w' H' => r = some (.inr (some (5, w.2.1))) ∧ w' = jwA w 5 w.2.1 8 ∧ jK [5, 7] [28, 29, 30, 31] H' H ∧ (∀ p (i : Int) (x : Nat), 0 ≤ i → H.2.2.2.1 28 p i = some x → H'.2.2.2.1 28 p i = some x) ∧ cRaw F z H H' mp w.2.1 kd n h bl) := by
  have hM0 := hM
  obtain ⟨⟨a1, a2, a3, a4, a5⟩, bb, cc, dd, ee⟩ := hM0
  refine J.wc fun hwc => ?_
  refine J.run 3 rfl a1 ?_
  try dsimp only
  refine J.icmp rfl rfl rfl ⟨⟨show -2147483648 ≤ H.1 7 4 (fP F) by omega, show H.1 7 4 (fP F) ≤ 2147483647 by omega⟩, by decide, by decide⟩ (fun hc => absurd (show 6000 ≤ H.1 7 4 (fP F) from hc) (by omega)) (fun _ => ?_)
  refine J.run0 1 rfl ?_
  try dsimp only
  refine J.ifc rfl rfl rfl ⟨by omega, by omega⟩ (fun hc => absurd (show (h : Int) < 0 from hc) (by omega)) (fun _ => ?_)
  refine J.run0 2 rfl ?_
  try dsimp only
  refine J.icmp rfl rfl rfl ⟨⟨by omega, by omega⟩, by decide, by decide⟩ (fun hc => absurd (show (120 : Int) < h from hc) (by omega)) (fun _ => ?_)
  refine J.run0 1 rfl ?_
  try dsimp only
  refine J.ifc rfl rfl rfl ⟨by decide, by decide⟩ (fun hc => absurd (show (0 : Int) < 0 from hc) (by decide)) (fun _ => ?_)
  refine J.run0 2 rfl ?_
  try dsimp only
  refine J.icmp rfl rfl rfl ⟨⟨by decide, by decide⟩, by decide, by decide⟩ (fun _ => ?_) (fun hc => absurd (show (0 : Int) < 32 by decide) hc)
  refine J.nw rfl rfl rfl rfl rfl rfl rfl (jstP.of rfl) fun H1 hN1 _ => ?_
  have hp0 : 0 < w.2.1 := hwc.1
  have hfr : ∀ i, i < zM z → mp i ≠ w.2.1 := fun i hi => by
    have := (hwc.2 5 (mp i) (cc i hi).1.1).1
    omega
  have k1 : jK [5, 7] [28, 29, 30, 31] H1 H := (jK.refl _ _ _).new hN1 (by decide)
  have e7 : H1.1 7 4 (fP F) = (zM z : Int) := by rw [(hN1.1 7 4 (fP F) fun y => absurd y.1 (by decide)).1]; exact bb
  refine J.run 9 rfl (Or.inl a1) ?_
  try dsimp only
  try dsimp only
  rw [e7]
  refine J.ini rfl rfl rfl (Or.inl rfl) rfl rfl rfl rfl rfl (jstP.of rfl) (c_message (Or.inr ⟨rfl, rfl⟩)) ?_
  rintro r w' H2 ⟨rfl, rfl, hK2, h22, h25, m0, m1, m2, m3, m4, m5, m6⟩
  have k2 : jK [5, 7] [28, 29, 30, 31] H2 H := hK2.trans k1 (by decide) (by decide)
  have e72 : H2.1 7 4 (fP F) = (zM z : Int) := by rw [(hK2.1 7 (by decide)).1]; exact e7
  have g7 : (jwA w 5 w.2.1 (jfn 5)).1 7 (fP F) := Or.inl a1
  have ga : (jwA w 5 w.2.1 (jfn 5)).1 28 (fP F) := Or.inl a2
  have gf : (jwA w 5 w.2.1 (jfn 5)).1 29 (fP F) := Or.inl a3
  have gl : (jwA w 5 w.2.1 (jfn 5)).1 30 (fP F) := Or.inl a4
  have gr : (jwA w 5 w.2.1 (jfn 5)).1 31 (fP F) := Or.inl a5
  have g5 : (jwA w 5 w.2.1 (jfn 5)).1 5 w.2.1 := Or.inr ⟨rfl, rfl⟩
  have j1 : (0 : Int) ≤ (h : Int) * 32 + 0 := by omega
  have j2 : (h : Int) * 32 + 0 < 3872 := by omega
  refine J.run 23 rfl ⟨⟨g7, ga⟩, g7, ⟨ga, g5, show 0 ≤ H2.1 7 4 (fP F) by omega, show H2.1 7 4 (fP F) < 6000 by omega⟩, g7, g7, ⟨g7, gl⟩, gl, j1, j2⟩ ?_
  try dsimp only
  refine J.gn fun H3 hH3 => ?_
  have k3 : jK [5, 7] [28, 29, 30, 31] H3 H := by
    rw [hH3]
    refine jK.int ?_ (by decide)
    refine jK.rows ?_ (by decide)
    exact k2
  have t1 : H3.1 7 4 (fP F) = (zM z : Int) + 1 := by rw [hH3, ← e72]; exact if_pos rfl
  have t2 : ∀ i : Nat, H3.2.2.2.1 28 (fP F) (i : Int) = if i = zM z then some w.2.1 else H.2.2.2.1 28 (fP F) (i : Int) := fun i => by
    rw [hH3]
    show jsetR H2.2.2.2.1 28 (fP F) (jup (H2.2.2.2.1 28 (fP F)) (H2.1 7 4 (fP F)) (some w.2.1)) 28 (fP F) (i : Int) = _
    rw [jsetR_eq, e72, h22, hN1.2.2.2]
    unfold jup
    by_cases hi : i = zM z
    · rw [if_pos (by omega), if_pos hi]
    · rw [if_neg (by omega), if_neg hi]
  have t3 : H3.1 5 = H2.1 5 := by rw [hH3]; rfl
  have t10 : ∀ p (i : Int) (x : Nat), 0 ≤ i → H.2.2.2.1 28 p i = some x → H3.2.2.2.1 28 p i = some x := fun p i x h0 hx => by
    rw [hH3]
    show jsetR H2.2.2.2.1 28 (fP F) (jup (H2.2.2.2.1 28 (fP F)) (H2.1 7 4 (fP F)) (some w.2.1)) 28 p i = _
    by_cases hp : p = fP F
    · subst hp
      rw [jsetR_eq, e72, h22, hN1.2.2.2]
      unfold jup
      by_cases hi : i = (zM z : Int)
      · rw [hi, dd.2.1 (zM z) (Nat.le_refl _)] at hx
        cases hx
      · rw [if_neg hi]
        exact hx
    · rw [jsetR_ne fun z => hp z.2, h22, hN1.2.2.2]
      exact hx
  have t4 : H3.2.1 = H2.2.1 := by rw [hH3]
  have t5 : ∀ k, k ≠ 28 → H3.2.2.2.1 k = H.2.2.2.1 k := fun k hk => by
    rw [hH3]
    show jsetR H2.2.2.2.1 28 (fP F) _ k = _
    rw [jsetR_k hk, h22, hN1.2.2.2]
  have t6 : H3.2.2.1 = H.2.2.1 := by rw [hH3]; show H2.2.2.1 = _; rw [h22, hN1.2.2.1]
  have t7 : ∀ p, p ≠ w.2.1 → ∀ j, H3.1 5 j p = H.1 5 j p := fun p hp j => by
    rw [t3, h25 j p hp]
    exact (hN1.1 5 j p fun y => hp y.2).1
  have t8 : H3.2.1 5 7 w.2.1 = none := by rw [t4, h22]; exact (hN1.2.1 7).2.1
  have t9 : ∀ p, p ≠ w.2.1 → H3.2.1 5 7 p = H.2.1 5 7 p := fun p hp => by
    rw [t4, h22]
    exact (hN1.1 5 7 p fun y => hp y.2).2.1
  have elast : H2.2.2.2.1 30 (fP F) ((h : Int) * 32 + 0) = (lx (zM z) (zh z) h).map mp := by
    rw [h22, hN1.2.2.2]
    exact (ee h hh).2.1
  have elast' : jsetR H2.2.2.2.1 28 (fP F) (jup (H2.2.2.2.1 28 (fP F)) (H2.1 7 4 (fP F)) (some w.2.1)) 30 (fP F) ((h : Int) * 32 + 0) = (lx (zM z) (zh z) h).map mp := by
    rw [jsetR_k (by decide)]
    exact elast
  try dsimp only
  rw [elast']
  clear hH3
  -- the end, from either way
  have fin : ∀ H4 : jH, jK [5, 7] [28, 29, 30, 31] H4 H → H4.1 = H3.1 → H4.2.1 5 7 w.2.1 = none → (∀ p, p ≠ w.2.1 → H4.2.1 5 7 p = if (lx (zM z) (zh z) h).map mp = some p then some w.2.1 else H.2.1 5 7 p) → H4.2.2.1 = H3.2.2.1 → H4.2.2.2.1 28 = H3.2.2.2.1 28 → H4.2.2.2.1 30 = H3.2.2.2.1 30 → (∀ x : Nat, x ≤ 120 → H4.2.2.2.1 29 (fP F) ((x : Int) * 32 + 0) = if x = h ∧ lx (zM z) (zh z) h = none then some w.2.1 else H.2.2.2.1 29 (fP F) ((x : Int) * 32 + 0)) → (∀ i : Int, i % 32 ≠ 0 → H4.2.2.2.1 29 (fP F) i = H.2.2.2.1 29 (fP F) i) →
      J b (d + 1) 50 (jwA w 5 w.2.1 (jfn 5)) (120, [(8, .inl ((h : Int) * 32 + 0)), (7, .inr (some (5, w.2.1))), (0, .inr (some (7, fP F))), (1, .inl (kd : Int)), (2, .inl (n : Int)), (3, .inl (h : Int)), (4, .inl 0), (5, .inl bl), (6, .inl (-1))], [], H4) (jN fun r w' H' => r = some (.inr (some (5, w.2.1))) ∧ w' = jwA w 5 w.2.1 8 ∧ jK [5, 7] [28, 29, 30, 31] H' H ∧ (∀ p (i : Int) (x : Nat), 0 ≤ i → H.2.2.2.1 28 p i = some x → H'.2.2.2.1 28 p i = some x) ∧ cRaw F z H H' mp w.2.1 kd n h bl) := by
    intro H4 k4 u1 u2 u3 u4 u5 u6 u7 u8
    refine J.run 16 rfl ⟨⟨g7, gl⟩, ⟨gl, g5, j1, j2⟩, ⟨g7, gr⟩, ⟨gr, show (0 : Int) ≤ (h : Int) by omega, show (h : Int) < 121 by omega⟩, gr, show (0 : Int) ≤ (h : Int) by omega, show (h : Int) < 121 by omega⟩ ?_
    try dsimp only
    refine J.gn fun H5 hH5 => ?_
    have k5 : jK [5, 7] [28, 29, 30, 31] H5 H := by
      rw [hH5]
      refine jK.row ?_ (by decide)
      refine jK.rows ?_ (by decide)
      exact k4
    have v1 : H5.1 = H3.1 := by rw [hH5]; exact u1
    have v2 : H5.2.1 = H4.2.1 := by rw [hH5]
    have v3 : ∀ k, k ≠ 30 → H5.2.2.2.1 k = H4.2.2.2.1 k := fun k hk => by rw [hH5]; exact jsetR_k hk
    have v4 : H5.2.2.2.1 30 (fP F) = jup (H4.2.2.2.1 30 (fP F)) ((h : Int) * 32 + 0) (some w.2.1) := by
      rw [hH5]
      exact if_pos rfl
    have v5 : H5.2.2.1 31 (fP F) = jup (H4.2.2.1 31 (fP F)) (h : Int) (jor (H4.2.2.1 31 (fP F) (h : Int)) (jshl 1 0)) := by
      rw [hH5]
      exact if_pos rfl
    clear hH5
    refine J.reta rfl rfl rfl ⟨_, rfl, rfl, rfl, k5, fun p i x h0 hx => ?_, ?_⟩
    · rw [v3 _ (by decide), u5]
      exact t10 p i x h0 hx
    have hrd : ∀ x : Nat, x ≤ 120 → H4.2.2.1 31 (fP F) (x : Int) = H.2.2.1 31 (fP F) (x : Int) := fun x _ => by rw [u4, t6]
    refine ⟨?_, ?_, ?_, ?_, ?_, ?_, ?_, ?_, ?_, ?_, hp0, hfr⟩
    · rw [v1]; exact t1
    · intro i
      rw [v3 _ (by decide), u5]
      exact t2 i
    · intro j p hp
      rw [v1]
      exact t7 p hp j
    · rw [v1, t3]
      exact ⟨m0, m1, m2, m3, m4, m5, m6⟩
    · rw [v2]; exact u2
    · intro p hp
      rw [v2]
      exact u3 p hp
    · intro x hx
      rw [v3 _ (by decide)]
      exact u7 x hx
    · intro x hx
      rw [v4, u6, t5 _ (by decide)]
      unfold jup
      by_cases hxh : x = h
      · rw [if_pos (by omega), if_pos hxh]
      · rw [if_neg (by omega), if_neg hxh]
    · intro x hx
      rw [v5, hrd h hh]
      unfold jup
      by_cases hxh : x = h
      · rw [if_pos (by omega), if_pos hxh, (ee h hh).2.2]
        split <;> decide
      · rw [if_neg (by omega), if_neg hxh, hrd x hx]
    · intro i hi
      rw [v3 _ (by decide)]
      exact u8 i hi
  cases hl : lx (zM z) (zh z) h with
  | none =>
    rw [hl] at fin
    refine J.run0 1 rfl ?_
    try dsimp only
    refine J.run 6 rfl ⟨⟨g7, gf⟩, gf, g5, j1, j2⟩ ?_
    try dsimp only
    refine fin _ ?_ ?_ ?_ ?_ ?_ ?_ ?_ ?_ ?_
    · refine jK.rows ?_ (by decide)
      exact k3
    · rfl
    · exact t8
    · intro p hp
      rw [if_neg (by simp)]
      exact t9 p hp
    · rfl
    · rfl
    · rfl
    · intro x hx
      show jsetR H3.2.2.2.1 29 (fP F) (jup (H3.2.2.2.1 29 (fP F)) ((h : Int) * 32 + 0) (some w.2.1)) 29 (fP F) ((x : Int) * 32 + 0) = _
      rw [jsetR_eq, t5 _ (by decide)]
      unfold jup
      by_cases hxh : x = h
      · rw [if_pos (by omega), if_pos ⟨hxh, rfl⟩]
      · rw [if_neg (by omega), if_neg fun y => hxh y.1]
    · intro i hi
      show jsetR H3.2.2.2.1 29 (fP F) (jup (H3.2.2.2.1 29 (fP F)) ((h : Int) * 32 + 0) (some w.2.1)) 29 (fP F) i = _
      rw [jsetR_eq, t5 _ (by decide)]
      unfold jup
      rw [if_neg (by omega)]
  | some l =>
    rw [hl] at fin
    obtain ⟨l1, l2, l3⟩ := lx_some hl
    refine J.run0 1 rfl ?_
    try dsimp only
    refine J.run 4 rfl ⟨⟨g7, gl⟩, gl, j1, j2⟩ ?_
    try dsimp only
    have e3 : H3.2.2.2.1 30 (fP F) ((h : Int) * 32 + 0) = some (mp l) := by
      rw [t5 _ (by decide), (ee h hh).2.1, hl]
      rfl
    try dsimp only
    rw [e3]
    refine J.run 2 rfl (Or.inl (cc l l1).1.1) ?_
    try dsimp only
    refine fin _ ?_ ?_ ?_ ?_ ?_ ?_ ?_ ?_ ?_
    · refine jK.ref ?_ (by decide)
      exact k3
    · rfl
    · show jupF H3.2.1 5 7 (mp l) (some w.2.1) 5 7 w.2.1 = none
      rw [jupF_ne fun y => hfr l l1 y.2.2.symm]
      exact t8
    · intro p hp
      show jupF H3.2.1 5 7 (mp l) (some w.2.1) 5 7 p = _
      simp only [Option.map_some, Option.some.injEq]
      by_cases hpl : mp l = p
      · rw [if_pos hpl, ← hpl]
        exact if_pos rfl
      · rw [if_neg hpl, jupF_ne fun y => hpl y.2.2.symm]
        exact t9 p hp
    · rfl
    · rfl
    · rfl
    · intro x hx
      rw [if_neg fun y => absurd y.2 (by simp), t5 _ (by decide)]
    · intro i hi
      show H3.2.2.2.1 29 (fP F) i = _
      rw [t5 _ (by decide)]
theorem c_add {F : cF} {z : zT} {mp : Nat → Nat} {kd n h : Nat} (hz : zInv z) (hM : cMs F w z H mp) (hM6 : zM z < 6000) (hh : h ≤ 120) :
    J b (d + 1) 50 w (0, jargs 0 [.inr (some (7, fP F)), .inl (kd : Int), .inl (n : Int), .inl (h : Int), .inl 0, .inl (h : Int), .inl (-1)], [], H) (jN fun r w' H' => r = some (.inr (some (5, w.2.1))) ∧ w' = jwA w 5 w.2.1 8 ∧ jK [5, 7] [28, 29, 30, 31] H' H ∧ (∀ p (i : Int) (x : Nat), 0 ≤ i → H.2.2.2.1 28 p i = some x → H'.2.2.2.1 28 p i = some x) ∧ ∀ z' : zT, z'.1 = z.1 + 1 ∧ z'.2.1 = va_up z.2.1 z.1 (kd, n, h) → cMs F w' z' H' (va_up mp (zM z) w.2.1)) := by
  refine J.post (c_addR (bl := (h : Int)) hz hM hM6 hh) ?_
  rintro o w' H' ⟨v, rfl, rfl, rfl, hK, hA, s1, s2, s3, s4, s5, s6, s7, s8, s9, s10, hp0, hfr⟩
  exact ⟨_, rfl, rfl, rfl, hK, hA, fun z' hz' => hM.add hz (jwM.add w 5 w.2.1 8) hz' hh hp0 (Or.inr ⟨rfl, rfl⟩) hfr s1 s2 s3 s4 s5 s6 s7 s8 s9 s10⟩
end CA
