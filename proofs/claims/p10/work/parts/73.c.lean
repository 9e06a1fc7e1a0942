section CJ
variable {b : Bool} {d : Nat} {w : jW} {H : jH}
section
variable {Post : jO → jW → jH → Prop} {k pc : Nat} {q : xMt} {lv : jL} {st : List jV}
/-- a static method of the library's -/
theorem J.ins5 {k' ix kd : Nat} {q' : xMt} {as rest : List jV} {Q : Option jV → jW → jH → Prop} (hq : xmts[k]? = some q) (hi : xat k pc = some (.invokestatic ix, 3)) (hl : xlk xivs q.1 ix = some (kd, k')) (hkd : kd = 1 ∨ kd = 4 ∨ kd = 8) (hq' : xmts[k']? = some q') (htk : jtk q'.2.2.2.2.2 st = some (as, rest)) (hk' : ¬ (k' = 170 ∨ k' = 171)) (hr : Nat.ble rest.length 8 = true) (hw : Nat.ble as.length q'.2.2.2.1 = true) (hst : jstP b w lv rest)
    (h1 : J b d k' w (0, jargs 0 as, [], H) (jN Q)) (h2 : ∀ v w' H', Q v w' H' → J b (d + 1) k w' (pc + 3, lv, v.toList ++ rest, H') Post) : J b (d + 1) k w (pc, lv, st, H) Post := by
  intro ph hp hR
  obtain ⟨o, w1, H1, ph1, hp1, hX1, hR1, hE1, hF1, v, rfl, hQ⟩ := h1 ph hp hR
  obtain ⟨o2, w2, H2, ph2, hp2, hX2, hR2, hE2, hF2, hP2⟩ := h2 v w1 H1 hQ ph1 hp1 hR1
  refine ⟨o2, w2, H2, ph2, hp2, ?_, hR2, hE1.trans hE2, jF.trans hE1 hF1 hF2, hP2⟩
  have hs := jstP_ok hR hR1 hE1 hst
  have hX1' : X d k' (0, lv_args 0 (as.map (jm ph)), [], hp, w.2.2) (.inl (v.map (jm ph1)), hp1, w1.2.2) := by
    rw [jargs_ok ph as 0]
    exact hX1
  have e2 : (v.toList ++ rest).map (jm ph1) = (v.map (jm ph1)).toList ++ rest.map (jm ph) := by
    rw [List.map_append, hs.2]
    cases v <;> rfl
  have hX2' : X (d + 1) k (pc + 3, jml ph lv, (v.map (jm ph1)).toList ++ rest.map (jm ph), hp1, w1.2.2) (jmo ph2 o2, hp2, w2.2.2) := by
    rw [← hs.1, ← e2]
    exact hX2
  have hc : xcall q.1 (.invokestatic ix) 3 (st.map (jm ph)) hp = some (k', as.map (jm ph), rest.map (jm ph)) := by
    simp only [xcall, hl, hq', jtk_ok ph htk]
    rw [if_pos ⟨trivial, hkd, hk', by rw [jcat_ok]; exact Nat.le_of_ble_eq_true hr⟩]
  refine X.call (g := (pc, jml ph lv, st.map (jm ph), hp, w.2.2)) (q := q) ⟨hq, hi, ?_, ?_⟩ ?_ hc hq' (by rw [jcat_ok]; exact Nat.le_of_ble_eq_true hw) hX1' hX2'
  · simp only [xs, xs1, xs6, xs5, xs4, xs7, xs8, show ¬ ((3 : Nat) = 1) by decide, if_false]
  · have e7 : ¬ (xlk xivs q.1 ix = some (7, 0)) := by
      rw [hl]
      intro z
      cases z
      omega
    have e1 : ¬ (xlk xivs q.1 ix = some (1, 170)) := by
      rw [hl]
      intro z
      cases z
      exact hk' (Or.inl rfl)
    have e3 : ¬ (xlk xivs q.1 ix = some (1, 171)) := by
      rw [hl]
      intro z
      cases z
      exact hk' (Or.inr rfl)
    try dsimp only
    unfold xs9
    split
    · rename_i he _; cases he
    · rename_i he _; cases he
      rw [if_neg fun z => e7 z.2.1]
    · rename_i he _; cases he
      rw [if_neg fun z => e1 z.2.1, if_neg fun z => e3 z.2.1]
    · rfl
  · simp only [xret]
end
theorem cBk.ol {F : cF} {w' : jW} {z : zT} {H' : jH} {bp sp : Nat → Nat} (h : cBk F w z H bp sp) (hw : jwM w w') (hO : jOl w (fun _ _ => False) H' H) : cBk F w' z H' bp sp := by
  obtain ⟨⟨a1, a2, a3, a4, a5⟩, ⟨b1, b2, b3, b4⟩, c, dd, e⟩ := h
  have o3 := (hO 3 _ a1 (fun z => z)).1
  refine ⟨⟨hw _ _ a1, hw _ _ a2, hw _ _ a3, hw _ _ a4, hw _ _ a5⟩, ⟨?_, ?_, ?_, b4⟩, c.mv hw, fun i hi => ?_, e⟩
  · rw [(o3 1).1]; exact b1
  · rw [(o3 3).1]; exact b2
  · rw [(o3 4).2.2]; exact b3
  · have hd := dd i hi
    refine ⟨?_, hd.2.1, hd.2.2.ol hw hO (fun z => z) (fun _ z => z) (fun _ z => z) (fun _ _ z => z)⟩
    rw [(hO 21 _ a2 (fun z => z)).2.2]
    exact hd.1
theorem c_addBest0 {F : cF} {z : zT} {bp sp : Nat → Nat} {n i : Nat} (hBk : cBk F w z H bp sp) (hB : zB z = 300) : J b (d + 2) 17 w (0, jargs 0 [.inr (some (3, fL F)), .inr (some (0, bp i)), .inl (n : Int)], [], H) (jN fun r w' H' => r = some (.inl (-1)) ∧ w' = w ∧ H' = H) := by
  refine J.run0 1 rfl ?_
  try dsimp only
  refine J.inv rfl rfl rfl rfl rfl rfl ((jD_w rfl).mpr hBk.1.1) rfl rfl rfl rfl rfl (c_ledFull hBk.1.1 hBk.2.1.1 (by omega)) ?_
  rintro r w' H' ⟨rfl, rfl, rfl⟩
  rw [if_pos hB]
  refine J.ifc rfl rfl rfl ⟨by decide, by decide⟩ (fun _ => ?_) (fun hc => absurd (show ¬ (1 : Int) = 0 by decide) hc)
  refine J.run0 1 rfl ?_
  try dsimp only
  exact J.reti rfl rfl rfl ⟨_, rfl, rfl, rfl, rfl⟩
theorem c_addBest {F : cF} {z z' : zT} {bp sp : Nat → Nat} {n : Nat} (hBk : cBk F w z H bp sp) (hB : 1 ≤ zB z ∧ zB z < 300) (hz' : zB z' = zB z + 1) (hn : n = zP (zB z)) : J b (d + 2) 17 w (0, jargs 0 [.inr (some (3, fL F)), .inr (some (0, bp (zB z - 1))), .inl (n : Int)], [], H) (jN fun r w' H' => r = some (.inl (zB z : Int)) ∧ jwM w w' ∧ w'.2.1 = w.2.1 + 12 ∧ w'.2.2 = w.2.2 + 637 ∧ jK [0, 3, 8, 42] bK H' H ∧ ∃ bp' sp', cBk F w' z' H' bp' sp' ∧ ∀ i, i < zB z → bp' i = bp i) := by
  obtain ⟨-, -, ⟨f1, f2, f3, f4, f5, f6⟩, -, -, fs, k0, k1, l1, l2, l3, l4⟩ := hBk.2.2.2.1 (zB z - 1) (by omega)
  refine J.run0 1 rfl ?_
  try dsimp only
  refine J.inv rfl rfl rfl rfl rfl rfl ((jD_w rfl).mpr hBk.1.1) rfl rfl rfl rfl rfl (c_ledFull hBk.1.1 hBk.2.1.1 (by omega)) ?_
  rintro r w' H' ⟨rfl, rfl, rfl⟩
  rw [if_neg (by omega)]
  refine J.ifc rfl rfl rfl ⟨by decide, by decide⟩ (fun hc => absurd rfl hc) (fun _ => ?_)
  refine J.run 2 rfl f1 ?_
  try dsimp only
  try dsimp only
  rw [fs]
  refine J.run0 1 rfl ?_
  try dsimp only
  refine J.run0 2 rfl ?_
  try dsimp only
  refine J.inv rfl rfl rfl rfl rfl rfl ((jD_w rfl).mpr hBk.1.1) rfl rfl rfl rfl rfl (c_open hBk (by omega)) ?_
  rintro r w1 H1 ⟨rfl, rfl, s1, hBk1, K1, O1⟩
  refine J.run0 4 rfl ?_
  try dsimp only
  refine J.run 3 rfl hBk.1.1 ?_
  try dsimp only
  try dsimp only
  rw [hBk1.2.1.2.1]
  refine J.icmp rfl rfl rfl ⟨⟨by decide, by decide⟩, by decide, by decide⟩ (fun _ => ?_) (fun hc => absurd (show (0 : Int) ≤ 0 by decide) hc)
  refine J.run 6 rfl ⟨hBk.1.1, hBk.1.2.2.2.1⟩ ?_
  try dsimp only
  refine J.ins5 rfl rfl rfl (Or.inl rfl) rfl rfl (by decide) rfl rfl (jstP.of rfl) (c_copy0 hBk.1.2.2.2.1) ?_
  rintro r w2 H2 ⟨rfl, rfl, p0, hlt, x0, x1, x2, x3, x4⟩
  have O2 : jOl w1 (fun _ _ => False) H2 H1 := fun k p hw _ => by
    have hp : p ≠ w1.2.1 := fun z => by have := hlt k p hw; omega
    exact ⟨fun j => ⟨x1 k j p fun z => hp z.2, by rw [x2], by rw [x3]⟩, x4 k p fun z => hp z.2, by rw [x3]⟩
  have hM2 : jwM w1 (jwA w1 42 w1.2.1 0) := jwM.add _ _ _ _
  have hBk2 : cBk F (jwA w1 42 w1.2.1 0) z H2 bp sp := hBk1.ol hM2 O2
  have s2 : cSt1 H2 (fT F) := s1.ol (hBk1.2.2.1) O2 (fun _ _ z => z)
  obtain ⟨-, -, ⟨f1', -⟩, -, -, fs', k0', -, l1', l2', l3', l4'⟩ := hBk2.2.2.2.1 (zB z - 1) (by omega)
  refine J.run 2 rfl f1' ?_
  try dsimp only
  try dsimp only
  rw [fs']
  refine J.run 2 rfl ⟨k0'.1, l2'⟩ ?_
  try dsimp only
  refine J.inv rfl rfl rfl rfl rfl rfl ((jD_w rfl).mpr hBk2.1.1) rfl rfl rfl rfl rfl (c_ledAdd (z' := z') hBk2 s2 hB hz' ⟨Or.inr ⟨rfl, rfl⟩, p0, x0⟩ hn) ?_
  rintro r w3 H3 ⟨rfl, hM3, c3, r3, K3, bp', sp', hBk3, hbp⟩
  have K2 : jK [42] [42] H2 H1 := by
    refine ⟨fun c hn => ⟨funext fun j => funext fun p => x1 c j p fun z => hn (by rw [z.1]; decide), by rw [x2], by rw [x3]⟩, fun k hn => ⟨funext fun p => x4 k p fun z => hn (by rw [z.1]; decide), by rw [x3]⟩⟩
  refine J.reti rfl rfl rfl ⟨_, rfl, rfl, hM2.trans hM3, ?_, ?_, K3.trans (K2.trans (K1.mono (cs' := [0, 3, 8, 42]) (ks' := bK) (by decide) (by decide)) (by decide) (by decide)) (fun _ h => h) (fun _ h => h), bp', sp', hBk3, hbp⟩
  · rw [c3]
    show w1.2.1 + 1 + 11 = _
    omega
  · rw [r3]
    show w1.2.2 + 0 + 637 = _
    omega
/-- NODE n becomes v' -/
theorem cPic.up {F : cF} {z : zT} {H' : jH} {je mp bp sp : Nat → Nat} {n j' : Nat} {v' : zV} (hP : cPic F w z H je mp bp sp) (hn : n < 16) (hK : jK [6, 4] [] H' H) (hS : ∀ P' L', P' ≠ fN F n → L' ≠ fO F n → nSame H' H P' L') (hN : cNd w v' (zk z) H' n (fN F n) (fO F n) (bp (v'.1 - 1)) j') : cPic F w (zN z n v') H' (va_up je n j') mp bp sp := by
  obtain ⟨hT, hM, hBk, hNd, hRm⟩ := hP
  have hw : jwM w w := fun _ _ h => h
  have hT0 := hT
  obtain ⟨-, -, ti, to, -⟩ := hT0
  refine ⟨hT.mv hw hK (by decide) (by decide), hM.mv hw ⟨rfl, rfl⟩ hK (by decide) (by decide), hBk.mv hw rfl hK (by decide) (fun _ _ h => by cases h), fun m hm => ?_, hRm⟩
  by_cases hmn : m = n
  · subst hmn
    have e : (zN z m v').2.2.2 m = v' := zN_at z m v'
    have e2 : nh (zN z m v') m = v'.1 := by unfold nh; rw [e]
    have e3 : va_up je m j' m = j' := if_pos rfl
    rw [e, e2, e3]
    exact hN
  · have e : (zN z n v').2.2.2 m = z.2.2.2 m := zN_ne z v' hmn
    have e2 : nh (zN z n v') m = nh z m := by unfold nh; rw [e]
    have e3 : va_up je n j' m = je m := if_neg hmn
    rw [e, e2, e3]
    exact (hNd m hm).mv hw (hS _ _ (fun y => hmn (ti m n hm hn y)) (fun y => hmn (to m n hm hn y))) fun _ _ => rfl
/-- one of a NODE's own numbers -/
theorem cNd.fld {v v' : zV} {kd : Nat → Nat} {H' : jH} {n P L q q' je je' : Nat} {fs : List Nat} (h : cNd w v kd H n P L q je) (hF : nFld H' H P fs) (h0 : 0 ∉ fs ∧ 2 ∉ fs ∧ 10 ∉ fs ∧ 11 ∉ fs ∧ 12 ∉ fs ∧ 16 ∉ fs) (hq : q' = q) (hr : v'.2.2.2 = v.2.2.2) (g3 : H'.1 6 3 P = v'.2.1) (g8 : H'.1 6 8 P = v'.2.2.1) (g9 : H'.1 6 9 P = je') (gl : (H'.1 6 4 P = -1 ∨ H'.1 6 4 P = v'.1) ∧ (-1 ≤ H'.1 6 5 P ∧ H'.1 6 5 P < 32) ∧ (-1 ≤ H'.1 6 6 P ∧ H'.1 6 6 P < 300) ∧ (-1 ≤ H'.1 6 7 P ∧ H'.1 6 7 P < 32) ∧ (v'.2.2.1 = 0 → H'.1 6 4 P = -1 ∧ H'.1 6 5 P = -1 ∧ H'.1 6 6 P = -1 ∧ H'.1 6 7 P = -1)) : cNd w v' kd H' n P L q' je' := by
  obtain ⟨a, ⟨b0, b1, b2, -, -, -, b10, b11, b12⟩, -, ⟨d1, d2, d3⟩, e1, e2, e3⟩ := h
  have w' : H'.2 = H.2 := hF.1
  have i4 : ∀ j, H'.1 4 j L = H.1 4 j L := fun j => hF.2 4 j L fun z => absurd z.1 (by decide)
  unfold cNd
  rw [hq, w', hF.at 0 h0.1, hF.at 2 h0.2.1, hF.at 10 h0.2.2.1, hF.at 11 h0.2.2.2.1, hF.at 12 h0.2.2.2.2.1, hF.at 16 h0.2.2.2.2.2, i4 1, i4 2, hr]
  exact ⟨a, ⟨b0, b1, b2, g3, g8, g9, b10, b11, b12⟩, gl, ⟨d1, d2, d3⟩, e1, e2, e3⟩
end CJ
