/-! the class: its constructor -/
section CY
variable {T : cP} {F : cG} {d : Nat} {w w' : jW} {H H' H1 H2 : jH}
/-- what fault compares: the NODES are not one another -/
def cDi (F : cG) (H : jH) : Prop := ∀ n m : Int, 0 ≤ n → n < 16 → 0 ≤ m → m < 16 → cnd F H n = cnd F H m → n = m
abbrev cRm (F : cG) (w : jW) (H : jH) : Int := ((w.2.1 : Nat) : Int) - 2 * H.1 7 4 F.2.2.1 - 13 * H.1 3 1 F.2.1 - H.1 3 3 F.2.1
abbrev cRs (F : cG) (w : jW) (H : jH) : Int := ((w.2.2 : Nat) : Int) - 18 * H.1 7 4 F.2.2.1 - 700 * H.1 3 1 F.2.1 - 6 * H.1 3 3 F.2.1
theorem cfl_ex {ks : List Nat} (hI : cJ F T w H) (e : cEx T ks H' H) (h1 : 610 ∉ ks) (h2 : 40040 ∉ ks) (n : Int) : cfl F H' n = cfl F H n := by
  have t40 : T 40 F.1 := hI.r 10 2 40 _ rfl hI.top.1
  unfold cfl
  rw [(e.2 40 _ t40).2 h2]
  cases hq : H.2.2.2.1 40 F.1 n with
  | none => rfl
  | some q =>
    have e40 : jrk 40 = some (3 + 3, 16, 6) := rfl
    exact (e.1 6 10 q (hI.a 40 _ e40 t40 hq)).1 h1
theorem cnd_ex {ks : List Nat} (hI : cJ F T w H) (e : cEx T ks H' H) (h2 : 40040 ∉ ks) (n : Int) : cnd F H' n = cnd F H n := by
  have t40 : T 40 F.1 := hI.r 10 2 40 _ rfl hI.top.1
  unfold cnd
  rw [(e.2 40 _ t40).2 h2]
set_option maxRecDepth 8000 in
theorem c_new2 {C S : Int} : ∀ (m i : Nat) (w : jW) (H : jH) (T : cP), i + m = 16 → cJ F T w H → (∀ n, 0 ≤ n → n < 16 → cfl F H n = 0) → cDi F H → cRm F w H ≤ C + i → cRs F w H ≤ S + 10 * i → J false (d + 6) 70 w (90, [(1, .inl (i : Int)), (0, .inr (some (10, F.1)))], [], H) (jN fun r w' H' => r = none ∧ ∃ T', cJ F T' w' H' ∧ (∀ n, 0 ≤ n → n < 16 → cfl F H' n = 0) ∧ cDi F H' ∧ cRm F w' H' ≤ C + 16 ∧ cRs F w' H' ≤ S + 160) := by
  intro m
  induction m with
  | zero =>
    intro i w H T hi hI hf hd r1 r2
    obtain rfl : i = 16 := by omega
    refine J.run0 2 rfl ?_
    try dsimp only
    exact J.icmp rfl rfl rfl ⟨⟨by decide, by decide⟩, by decide, by decide⟩ (fun _ => J.retv rfl rfl rfl ⟨_, rfl, rfl, T, hI, hf, hd, r1, r2⟩) (fun hc => absurd (show (16 : Int) ≤ (16 : Nat) by decide) hc)
  | succ m ih =>
    intro i w H T hi hI hf hd r1 r2
    have i16 : (0 : Int) ≤ i ∧ (i : Int) < 16 := by omega
    have e40 : jrk 40 = some (3 + 3, 16, 6) := rfl
    have t10 := hI.top.1
    have t40 : T 40 F.1 := hI.r 10 2 40 _ rfl t10
    obtain ⟨q, hq⟩ : ∃ q, H.2.2.2.1 40 F.1 (i : Int) = some q := by
      cases hq : H.2.2.2.1 40 F.1 (i : Int) with
      | none => exact absurd hq (hI.nd i16.1 i16.2)
      | some q => exact ⟨q, rfl⟩
    have tq : T 6 q := hI.a 40 _ e40 t40 hq
    refine J.run0 2 rfl ?_
    try dsimp only
    refine J.icmp rfl rfl rfl ⟨⟨by omega, by omega⟩, by decide, by decide⟩ (fun hc => absurd (show (16 : Int) ≤ (i : Int) from hc) (by omega)) (fun _ => ?_)
    refine J.run 5 rfl ⟨⟨hI.is t10, hI.is t40⟩, hI.is t40, i16⟩ ?_
    try dsimp only
    try dsimp only
    rw [hq]
    refine J.inv rfl rfl rfl rfl rfl rfl ((jD_w rfl).mpr (hI.is tq)) rfl rfl rfl rfl rfl (c_X6_enter hI tq ⟨by decide, by decide⟩) ?_
    rintro r w1 H1 ⟨T1, hI1, s1, e1, m1, m2, rfl⟩
    have hq1 : H1.2.2.2.1 40 F.1 (i : Int) = some q := by rw [(e1.2 40 _ t40).2 (by decide)]; exact hq
    refine J.run 5 rfl ⟨⟨hI1.is (s1 _ _ t10), hI1.is (s1 _ _ t40)⟩, hI1.is (s1 _ _ t40), i16⟩ ?_
    try dsimp only
    try dsimp only
    rw [hq1]
    refine J.inv rfl rfl rfl rfl rfl rfl ((jD_w rfl).mpr (hI1.is (s1 _ _ t10))) rfl rfl rfl rfl rfl (c_X10_doAll (d := d) hI1 (s1 _ _ tq)) ?_
    rintro r w2 H2 ⟨T2, hI2, s2, e2, m3, m4, rfl⟩
    refine J.run0 2 rfl ?_
    try dsimp only
    refine ih (i + 1) w2 H2 T2 (by omega) hI2 (fun n a b => ?_) (fun n m' a b a' b' he => ?_) ?_ ?_
    · rw [cfl_ex hI1 e2 (by decide) (by decide), cfl_ex hI e1 (by decide) (by decide)]
      exact hf n a b
    · rw [cnd_ex hI1 e2 (by decide), cnd_ex hI1 e2 (by decide), cnd_ex hI e1 (by decide), cnd_ex hI e1 (by decide)] at he
      exact hd n m' a b a' b' he
    · show ((w2.2.1 : Nat) : Int) - 2 * H2.1 7 4 F.2.2.1 - 13 * H2.1 3 1 F.2.1 - H2.1 3 3 F.2.1 ≤ _
      have r1 : ((w.2.1 : Nat) : Int) - 2 * H.1 7 4 F.2.2.1 - 13 * H.1 3 1 F.2.1 - H.1 3 3 F.2.1 ≤ _ := r1
      omega
    · show ((w2.2.2 : Nat) : Int) - 18 * H2.1 7 4 F.2.2.1 - 700 * H2.1 3 1 F.2.1 - 6 * H2.1 3 3 F.2.1 ≤ _
      have r2 : ((w.2.2 : Nat) : Int) - 18 * H.1 7 4 F.2.2.1 - 700 * H.1 3 1 F.2.1 - 6 * H.1 3 3 F.2.1 ≤ _ := r2
      omega
set_option maxRecDepth 8000 in
theorem c_new {x : Nat} (h10 : w.1 10 x) (hx0 : 0 < x) (hfr : ∀ k, w.1 k x → k = 10) : J false (d + 6) 70 w (0, jargs 0 [.inr (some (10, x))], [], H) (jN fun r w' H' => r = none ∧ ∃ (F : cG) (T : cP), F.1 = x ∧ cJ F T w' H' ∧ (∀ n, 0 ≤ n → n < 16 → cfl F H' n = 0) ∧ cDi F H' ∧ cRm F w' H' ≤ w.2.1 + 400 ∧ cRs F w' H' ≤ w.2.2 + 40000) := by
  refine J.run0 1 rfl ?_
  try dsimp only
  refine J.obj rfl rfl rfl rfl ?_
  refine J.run0 1 rfl ?_
  try dsimp only
  refine J.nw rfl rfl rfl rfl rfl rfl rfl (jstP.of rfl) fun H1 hN1 hwc1 => ?_
  have hf1 : ∀ k, ¬ w.1 k w.2.1 := fun k h => by have := (hwc1.2 k _ h).1; omega
  have hx1 : x ≠ w.2.1 := fun z => hf1 10 (z ▸ h10)
  refine J.run0 1 rfl ?_
  try dsimp only
  refine J.ini rfl rfl rfl (Or.inl rfl) rfl rfl rfl rfl rfl (jstP.of rfl) (i_led (d := d + 3) (Or.inr ⟨rfl, rfl⟩) hwc1.1 (fun k h => by
    rcases h with h | h
    · exact absurd h (hf1 k)
    · exact h.1) (fun j => (hN1.2.1 j).1)) ?_
  rintro r w2 H2 ⟨rfl, hM2, c2, s2, u2, T2, tT2, tk2, ⟨tl, ul⟩, tb, nb, nt, g, hg⟩
  have tk2' : ∀ k p, T2 k p → k ∈ lKs := tk2
  have c2' : w2.2.1 ≤ w.2.1 + 41 := Nat.le_trans c2 (by show w.2.1 + 1 + 40 ≤ _; omega)
  have s2' : w2.2.2 ≤ w.2.2 + 6010 := Nat.le_trans s2 (by show w.2.2 + jfn 3 + 6000 ≤ _; have : jfn 3 ≤ 10 := (by decide); omega)
  have a2 : w2.1 10 x := hM2 _ _ (Or.inl h10)
  have n2 : ∀ k, k ∉ 10 :: 0 :: 8 :: bK → ¬ w2.1 k x := fun k hk h => by
    rcases u2 k x h with (h | h) | h
    · exact hk (by rw [hfr k h]; exact List.mem_cons_self)
    · exact hx1 h.2
    · exact hk (List.mem_cons_of_mem _ h)
  have tw2 : ∀ k p, T2 k p → w2.1 k p := fun k p h => (tT2.1 k p h).1
  have t21 : T2 21 w.2.1 := tT2.2.1 3 0 21 _ rfl tl
  refine J.run 2 rfl ⟨a2, hwc1.1⟩ ?_
  try dsimp only
  refine J.gn fun H3 hH3 => ?_
  have k3 : jK [10] [] H3 H2 := by
    rw [hH3]
    refine jK.own ?_ (by decide)
    exact jK.refl _ _ _
  have v3 : H3.2.2.2.2 10 0 x = w.2.1 := by rw [hH3]; exact if_pos rfl
  clear hH3
  refine J.nw rfl rfl rfl rfl rfl rfl rfl (jstP.of rfl) fun H4 hN4 hwc4 => ?_
  have hf4 : ∀ k, ¬ w2.1 k w2.2.1 := fun k h => by have := (hwc4.2 k _ h).1; omega
  refine J.run0 1 rfl ?_
  try dsimp only
  refine J.ini rfl rfl rfl (Or.inr rfl) rfl rfl rfl rfl rfl (jstP.of rfl) (c_postInit (Or.inr ⟨rfl, rfl⟩) (fun k h => by
    rcases h with h | h
    · exact absurd h (hf4 k)
    · exact h.1)) ?_
  rintro r w5 H5 ⟨rfl, hM5, c5, s5, d5, k5, v5, u5⟩
  have hM25 : jwM w2 w5 := fun k p h => hM5 k p (Or.inl h)
  have hxp : x ≠ w2.2.1 := fun z => hf4 10 (z ▸ a2)
  have n5 : ¬ w5.1 40 x := fun h => by
    rcases u5 _ _ h with (h | h) | h
    · exact n2 _ (by decide) h
    · exact hxp h.2
    · exact absurd h (by decide)
  refine J.run 3 rfl ⟨hM25 _ _ a2, hwc4.1⟩ ?_
  try dsimp only
  refine J.nrr rfl rfl rfl rfl rfl rfl rfl rfl rfl rfl rfl rfl (by decide) (hM25 _ _ a2) n5 (jstP.of rfl) ?_
  refine J.run0 1 rfl ?_
  try dsimp only
  refine J.gn fun H6 hH6 => ?_
  have k6 : jK [10] [40] H6 H5 := by
    rw [hH6]
    refine jK.rows ?_ (by decide)
    refine jK.own ?_ (by decide)
    exact jK.refl _ _ _
  have b6 : ∀ i, H6.2.2.2.1 40 x i = none := by
    rw [hH6]
    intro i
    exact congrFun (if_pos rfl) i
  have v6 : H6.2.2.2.2 10 1 x = w2.2.1 ∧ H6.2.2.2.2 10 0 x = w.2.1 := by
    have e : H5.2.2.2.2 10 0 x = w.2.1 := by rw [(k5.1 10 (fun h => (nomatch h))).2.2, (hN4.1 10 0 x fun z => absurd z.1 (by decide)).2.2]; exact v3
    rw [hH6]
    refine ⟨if_pos rfl, ?_⟩
    rw [← e]
    show jupF H5.2.2.2.2 10 1 x w2.2.1 10 0 x = _
    exact jupF_ne fun z => absurd z.2.1 (by decide)
  clear hH6
  refine J.nw rfl rfl rfl rfl rfl rfl rfl (jstP.of rfl) fun H7 hN7 hwc7 => ?_
  generalize hw6 : jwA w5 40 x (Int.toNat 16) = w6 at *
  have hM56 : jwM w5 w6 := fun k p h => by rw [← hw6]; exact Or.inl h
  have dn6 : w6.1 40 x := by rw [← hw6]; exact Or.inr ⟨rfl, rfl⟩
  have c6 : w6.2.1 = w5.2.1 + 1 ∧ w6.2.2 = w5.2.2 + 16 := by rw [← hw6]; exact ⟨rfl, rfl⟩
  clear hw6
  have hf7 : ∀ k, ¬ w6.1 k w6.2.1 := fun k h => by have := (hwc7.2 k _ h).1; omega
  have hM26 : jwM w2 w6 := fun k p h => hM56 k p (hM25 k p h)
  have el : H7.2.2.2.2 10 0 x = w.2.1 := by rw [(hN7.1 10 0 x fun z => absurd z.1 (by decide)).2.2]; exact v6.2
  have h3 : w2.1 3 w.2.1 := tw2 _ _ tl
  have h21 : w2.1 21 w.2.1 := tw2 _ _ t21
  have hb2 : H2.2.2.2.1 21 w.2.1 0 = some g := hg
  have k62 : jK [10, 7] (40 :: pR) H6 H2 := k6.trans (k5.trans ((hN_k hN4).trans (k3.mono (cs' := [10, 7]) (ks' := 40 :: pR) (by decide) (fun _ h => (nomatch h))) (by decide) (fun _ h => (nomatch h))) (fun _ h => (nomatch h)) (by decide)) (by decide) (by decide)
  have hb7 : H7.2.2.2.1 21 w.2.1 0 = some g := by rw [hN7.2.2.2, (k62.2 21 (by decide)).2]; exact hb2
  have e21 : jrk 21 = some (0 + 3, 300, 0) := rfl
  have tg : T2 0 g := tT2.2.2.2.2.1 21 0 300 0 _ 0 g e21 t21 hg
  have hG : 0 < g := (tT2.1 _ _ tg).2
  refine J.run 3 rfl ⟨Or.inl (hM26 _ _ a2), by rw [el]; exact hwc1.1⟩ ?_
  try dsimp only
  try dsimp only
  rw [el]
  refine J.inv rfl rfl rfl rfl rfl rfl ((jD_w rfl).mpr (Or.inl (hM26 _ _ h3))) rfl rfl rfl rfl rfl (c_genesis (Or.inl (hM26 _ _ h3)) (Or.inl (hM26 _ _ h21)) hb7) ?_
  rintro r w7 H7' ⟨rfl, rfl, rfl⟩
  refine J.ini rfl rfl rfl (Or.inl rfl) rfl rfl rfl rfl rfl (jstP.of rfl) (i_cli (Or.inr ⟨rfl, rfl⟩) (fun k h => by
    rcases h with h | h
    · exact absurd h (hf7 k)
    · exact h.1) hG) ?_
  rintro r w8 H8 ⟨rfl, hM8, c8, s8, d8, k8, v8, b8⟩
  have hM68 : jwM w6 w8 := fun k p h => hM8 k p (Or.inl h)
  have hM28 : jwM w2 w8 := fun k p h => hM68 k p (hM26 k p h)
  refine J.run 3 rfl ⟨hM28 _ _ a2, hwc7.1⟩ ?_
  try dsimp only
  refine J.gn fun H9 hH9 => ?_
  have k9 : jK [10] [] H9 H8 := by
    rw [hH9]
    refine jK.own ?_ (by decide)
    exact jK.refl _ _ _
  have v9 : H9.2.2.2.2 10 3 x = w6.2.1 ∧ H9.2.2.2.2 10 1 x = w2.2.1 ∧ H9.2.2.2.2 10 0 x = w.2.1 := by
    have e : ∀ j, H8.2.2.2.2 10 j x = H6.2.2.2.2 10 j x := fun j => by rw [(k8.1 10 (by decide)).2.2, (hN7.1 10 j x fun z => absurd z.1 (by decide)).2.2]
    rw [hH9]
    refine ⟨if_pos rfl, ?_, ?_⟩
    · refine Eq.trans ?_ ((e _).trans v6.1)
      show jupF H8.2.2.2.2 10 3 x w6.2.1 10 1 x = _
      exact jupF_ne fun z => absurd z.2.1 (by decide)
    · refine Eq.trans ?_ ((e _).trans v6.2)
      show jupF H8.2.2.2.2 10 3 x w6.2.1 10 0 x = _
      exact jupF_ne fun z => absurd z.2.1 (by decide)
  clear hH9
  have k86 : jK [1] [20] H8 H6 := k8.trans ((hN_k hN7).mono (cs' := [1]) (ks' := [20]) (fun _ h => h) (fun _ h => (nomatch h))) (fun _ h => h) (fun _ h => h)
  have k92 : jK [10, 7, 1] (20 :: 40 :: pR) H9 H2 := k9.trans (k86.trans (k62.mono (cs' := [10, 7, 1]) (ks' := 20 :: 40 :: pR) (by decide) (by decide)) (by decide) (by decide)) (by decide) (fun _ h => (nomatch h))
  have k96 : jK [10, 1] [20] H9 H6 := k9.trans (k86.mono (cs' := [10, 1]) (ks' := [20]) (by decide) (fun _ h => h)) (by decide) (fun _ h => (nomatch h))
  have hb9 : H9.2.2.2.1 21 w.2.1 0 = some g := by rw [(k92.2 21 (by decide)).2]; exact hb2
  have rm : w8.2.1 ≤ w.2.1 + 60 ∧ w8.2.2 ≤ w.2.2 + 21000 := by
    have q1 : w8.2.1 = w6.2.1 + 1 + 1 := c8
    have q2 : w8.2.2 = w6.2.2 + jfn 1 + 16 := s8
    have q3 : w5.2.1 = w2.2.1 + 1 + 4 := c5
    have q4 : w5.2.2 = w2.2.2 + jfn 7 + 13865 := s5
    have q5 : jfn 1 ≤ 10 := by decide
    have q6 : jfn 7 ≤ 10 := by decide
    obtain ⟨q7, q8⟩ := c6
    clear c8 s8 c5 s5 c2 s2
    constructor <;> omega
  -- what is there so far
  have x92 : cEx T2 [] H9 H2 := cEx.jk k92 fun k p h => by
    have h9 : ∀ k, k ∈ lKs → k ∉ [10, 7, 1] ∧ k ∉ 20 :: 40 :: pR := by decide
    exact h9 k (tk2' k p h)
  have a0 : cT T2 w8 H9 := tT2.same x92 hM28
  have hp0 : 0 < w2.2.1 := hwc4.1
  have z7 : ∀ j, H9.1 7 j w2.2.1 = 0 := fun j => by
    rw [(k96.1 7 (by decide)).1, (k6.1 7 (by decide)).1, (k5.1 7 (fun h => (nomatch h))).1]
    exact (hN4.2.1 j).1
  have r9 : ∀ k, k ∈ pR → H9.2.2.2.1 k = H5.2.2.2.1 k := fun k hk => by
    have h9 : ∀ k, k ∈ pR → k ∉ [20] ∧ k ∉ [40] := by decide
    rw [(k96.2 k (h9 k hk).1).2, (k6.2 k (h9 k hk).2).2]
  have M58 : jwM w5 w8 := fun k p h => hM68 _ _ (hM56 _ _ h)
  have a1 := cT.rn (c := 28) (m := w2.2.1) a0 (by decide) (by decide) rfl (M58 _ _ d5.1) hp0 (fun i => by rw [r9 28 (by decide)]; exact (v5 i).1) (fun i => trivial)
  have a3 := cT.rn (c := 29) (m := w2.2.1) a1 (by decide) (by decide) rfl (M58 _ _ d5.2.1) hp0 (fun i => by rw [r9 29 (by decide)]; exact (v5 i).2.1) (fun i => trivial)
  have a4 := cT.rn (c := 30) (m := w2.2.1) a3 (by decide) (by decide) rfl (M58 _ _ d5.2.2.1) hp0 (fun i => by rw [r9 30 (by decide)]; exact (v5 i).2.2.1) (fun i => trivial)
  have a5 := cT.ri (c := 31) (m := w2.2.1) a4 (by decide) (by decide) rfl rfl (M58 _ _ d5.2.2.2) hp0 (fun i => trivial)
  have a6 : cT (tA (tA (tA (tA (tA T2 28 w2.2.1) 29 w2.2.1) 30 w2.2.1) 31 w2.2.1) 7 w2.2.1) w8 H9 := cT.add a5 (M58 _ _ (hM5 _ _ (Or.inr ⟨rfl, rfl⟩))) hp0 (fun j k z => by
      have hl : j < 5 := (jft_lt z).2
      rcases j with _ | _ | _ | _ | _ | j
      · cases z; exact Or.inl (Or.inl (Or.inl tA.new))
      · cases z; exact Or.inl (Or.inl tA.new)
      · cases z; exact Or.inl tA.new
      · cases z; exact tA.new
      · cases z
      · omega) (fun j k q z => absurd z fun z => jno_ok (n := 2) (c := 7) rfl z) (fun j k z => absurd z fun z => jno_ok (n := 3) (c := 7) rfl z) rfl (fun j hj => cvi_of (c := 7) (f := fun j => H9.1 7 j w2.2.1) (by
      intro z hz
      simp only [cvt, List.mem_cons, List.not_mem_nil, or_false] at hz
      rcases hz with rfl | rfl | rfl | rfl | rfl | rfl | rfl | rfl | rfl | rfl | rfl | rfl | rfl | rfl | rfl | rfl | rfl | rfl | rfl | rfl | rfl | rfl | rfl | rfl | rfl | rfl | rfl | rfl | rfl | rfl | rfl | rfl
      all_goals first | exact fun e => absurd e (by decide) | (intro _; dsimp only; rw [z7]; decide)) hj) (fun i => trivial)
  have hc0 : 0 < w6.2.1 := hwc7.1
  have a7 := cT.rn (c := 20) (m := w6.2.1) a6 (by decide) (by decide) rfl d8 hc0 (fun i => by rw [(k9.2 20 (fun h => (nomatch h))).2]; exact b8 i) (fun i => trivial)
  have vt : H9.2.2.2.2 1 0 w6.2.1 = g := by rw [(k9.1 1 (by decide)).2.2]; exact v8
  have a8 : cT (tA (tA (tA (tA (tA (tA (tA T2 28 w2.2.1) 29 w2.2.1) 30 w2.2.1) 31 w2.2.1) 7 w2.2.1) 20 w6.2.1) 1 w6.2.1) w8 H9 := cT.add a7 (hM8 _ _ (Or.inr ⟨rfl, rfl⟩)) hc0 (fun j k z => by
      have hl : j < 2 := (jft_lt z).2
      rcases j with _ | _ | j
      · cases z
      · cases z; exact tA.new
      · omega) (fun j k q z => absurd z fun z => jno_ok (n := 2) (c := 1) rfl z) (fun j k z => by
      have hl : j < 2 := (jft_lt z).2
      rcases j with _ | _ | j
      · cases z
        rw [vt]
        exact ⟨hG, Or.inl (Or.inl (Or.inl (Or.inl (Or.inl (Or.inl tg)))))⟩
      · cases z
      · omega) rfl (fun j hj => cvi_of (c := 1) (f := fun j => H9.1 1 j w6.2.1) (by
      intro z hz
      simp only [cvt, List.mem_cons, List.not_mem_nil, or_false] at hz
      rcases hz with rfl | rfl | rfl | rfl | rfl | rfl | rfl | rfl | rfl | rfl | rfl | rfl | rfl | rfl | rfl | rfl | rfl | rfl | rfl | rfl | rfl | rfl | rfl | rfl | rfl | rfl | rfl | rfl | rfl | rfl | rfl | rfl
      all_goals exact fun e => absurd e (by decide)) hj) (fun i => trivial)
  have tsub : ∀ k p, T2 k p → tA (tA (tA (tA (tA (tA (tA T2 28 w2.2.1) 29 w2.2.1) 30 w2.2.1) 31 w2.2.1) 7 w2.2.1) 20 w6.2.1) 1 w6.2.1 k p := fun k p h => Or.inl (Or.inl (Or.inl (Or.inl (Or.inl (Or.inl (Or.inl h))))))
  have tinv : ∀ k p, tA (tA (tA (tA (tA (tA (tA T2 28 w2.2.1) 29 w2.2.1) 30 w2.2.1) 31 w2.2.1) 7 w2.2.1) 20 w6.2.1) 1 w6.2.1 k p → T2 k p ∨ (p = w2.2.1 ∧ k ∈ [7, 28, 29, 30, 31]) ∨ (p = w6.2.1 ∧ k ∈ [1, 20]) := fun k p h => by
    rcases h with ((((((h | h) | h) | h) | h) | h) | h) | h
    · exact Or.inl h
    · exact Or.inr (Or.inl ⟨h.2, by rw [h.1]; decide⟩)
    · exact Or.inr (Or.inl ⟨h.2, by rw [h.1]; decide⟩)
    · exact Or.inr (Or.inl ⟨h.2, by rw [h.1]; decide⟩)
    · exact Or.inr (Or.inl ⟨h.2, by rw [h.1]; decide⟩)
    · exact Or.inr (Or.inl ⟨h.2, by rw [h.1]; decide⟩)
    · exact Or.inr (Or.inr ⟨h.2, by rw [h.1]; decide⟩)
    · exact Or.inr (Or.inr ⟨h.2, by rw [h.1]; decide⟩)
  have tP : tA (tA (tA (tA (tA (tA (tA T2 28 w2.2.1) 29 w2.2.1) 30 w2.2.1) 31 w2.2.1) 7 w2.2.1) 20 w6.2.1) 1 w6.2.1 7 w2.2.1 := Or.inl (Or.inl tA.new)
  have tC : tA (tA (tA (tA (tA (tA (tA T2 28 w2.2.1) 29 w2.2.1) 30 w2.2.1) 31 w2.2.1) 7 w2.2.1) 20 w6.2.1) 1 w6.2.1 1 w6.2.1 := tA.new
  generalize tA (tA (tA (tA (tA (tA (tA T2 28 w2.2.1) 29 w2.2.1) 30 w2.2.1) 31 w2.2.1) 7 w2.2.1) 20 w6.2.1) 1 w6.2.1 = T9 at a8 tsub tinv tP tC
  clear a1 a3 a4 a5 a6 a7
  have tk9 : ∀ k p, T9 k p → k ∈ [7, 28, 29, 30, 31, 1, 20] ++ lKs := fun k p h => by
    rcases tinv k p h with h | h | h
    · exact List.mem_append_right _ (tk2' k p h)
    · have h9 : ∀ k, k ∈ [7, 28, 29, 30, 31] → k ∈ [7, 28, 29, 30, 31, 1, 20] ++ lKs := by decide
      exact h9 k h.2
    · have h9 : ∀ k, k ∈ [1, 20] → k ∈ [7, 28, 29, 30, 31, 1, 20] ++ lKs := by decide
      exact h9 k h.2
  have b9 : ∀ i, H9.2.2.2.1 40 x i = none := fun i => by rw [(k96.2 40 (by decide)).2]; exact b6 i
  have x10o : H9.2.2.2.2 10 0 x = w.2.1 ∧ H9.2.2.2.2 10 1 x = w2.2.1 ∧ H9.2.2.2.2 10 3 x = w6.2.1 := ⟨v9.2.2, v9.2.1, v9.1⟩
  refine i_nodes (d := d + 4) (x := x) (l := w.2.1) (g := g) (H0 := H9) (w0 := w8) (T0 := T9) (hM28 _ _ a2) (hM68 _ _ dn6) x10o.1 a8 (tsub _ _ tl) hb9 tk9 (fun w' H' T' hM r1 r2 hT hs hu hx ho hN => ?_) 16 0 w8 H9 T9 rfl (fun _ _ h => h) (Nat.le_refl _) (Nat.le_refl _) a8 (fun _ _ h => h) (fun _ _ h => Or.inl h) cEx.refl rfl ⟨fun n a b => by omega, fun n m a b => by omega, fun n q z => by rw [b9] at z; cases z⟩
  refine J.run0 2 rfl ?_
  try dsimp only
  have kq : ∀ {k p}, T' k p → k ∉ [5, 9, 10, 40] := fun {k p} h => by
    rcases hu k p h with h | h
    · have h9 : ∀ k, k ∈ [7, 28, 29, 30, 31, 1, 20] ++ lKs → k ∉ [5, 9, 10, 40] := by decide
      exact h9 k (tk9 k p h)
    · have h9 : ∀ k, k ∈ [4, 6, 25, 26, 27] → k ∉ [5, 9, 10, 40] := by decide
      exact h9 k h
  have b1 := cT.row (c := 40) (m := x) hT (by decide) (by decide) rfl (hM _ _ (hM68 _ _ dn6)) hx0 (fun t' n tk i q hf hq => by
    have h9 : jrk 40 = some (3 + 3, 16, 6) := rfl
    rw [h9] at hf
    have e : tk = 6 := by cases hf; rfl
    rw [e]
    exact hN.2.2 i q hq) (fun i => trivial)
  have b2 : cT (tA (tA T' 40 x) 10 x) w' H' := cT.add b1 (hM _ _ (hM28 _ _ a2)) hx0 (fun j k z => by
      have hl : j < 4 := (jft_lt z).2
      rcases j with _ | _ | _ | _ | j
      · cases z
      · cases z
      · cases z; exact tA.new
      · cases z
      · omega) (fun j k q z => absurd z fun z => jno_ok (n := 2) (c := 10) rfl z) (fun j k z => by
      have hl : j < 4 := (jft_lt z).2
      rcases j with _ | _ | _ | _ | j
      · cases z
        rw [ho, x10o.1]
        exact ⟨hwc1.1, Or.inl (hs _ _ (tsub _ _ tl))⟩
      · cases z
        rw [ho, x10o.2.1]
        exact ⟨hp0, Or.inl (hs _ _ tP)⟩
      · cases z
      · cases z
        rw [ho, x10o.2.2]
        exact ⟨hc0, Or.inl (hs _ _ tC)⟩
      · omega) rfl (fun j hj => cvi_of (c := 10) (f := fun j => H'.1 10 j x) (by
      intro z hz
      simp only [cvt, List.mem_cons, List.not_mem_nil, or_false] at hz
      rcases hz with rfl | rfl | rfl | rfl | rfl | rfl | rfl | rfl | rfl | rfl | rfl | rfl | rfl | rfl | rfl | rfl | rfl | rfl | rfl | rfl | rfl | rfl | rfl | rfl | rfl | rfl | rfl | rfl | rfl | rfl | rfl | rfl
      all_goals exact fun e => absurd e (by decide)) hj) (fun i => trivial)
  have inv : ∀ {k p}, tA (tA T' 40 x) 10 x k p → k ≠ 40 → k ≠ 10 → k ∉ [4, 6, 25, 26, 27] → T9 k p := fun {k p} h h1 h2 h3 => by
    rcases h with (h | h) | h
    · rcases hu k p h with h | h
      · exact h
      · exact absurd h h3
    · exact absurd h.1 h1
    · exact absurd h.1 h2
  have e3 : ∀ j, H'.1 3 j w.2.1 = H2.1 3 j w.2.1 := fun j => by
    rw [(hx.1 3 j _ (tsub _ _ tl)).1 (nn _)]
    exact (x92.1 3 j _ tl).1 (nn _)
  have e34 : H'.2.2.2.2 3 4 w.2.1 = H2.2.2.2.2 3 4 w.2.1 := by
    rw [(hx.1 3 4 _ (tsub _ _ tl)).2.2 (nn _)]
    exact (x92.1 3 4 _ tl).2.2 (nn _)
  have e7 : H'.1 7 4 w2.2.1 = 0 := by
    rw [(hx.1 7 4 _ tP).1 (nn _)]
    exact z7 4
  have e0 : ∀ p, tA (tA T' 40 x) 10 x 0 p → H'.2.1 0 2 p = none ∧ H'.1 0 1 p = 0 ∧ H'.1 0 0 p = 0 ∧ H'.2.1 0 6 p ≠ some (H'.2.2.2.2 3 4 w.2.1) := fun p h => by
    have h9 := inv h (by decide) (by decide) (by decide)
    have h8 : T2 0 p := by
      rcases tinv 0 p h9 with h | h | h
      · exact h
      · exact absurd h.2 (by decide)
      · exact absurd h.2 (by decide)
    rw [e34, (hx.1 0 2 _ h9).2.1 (nn _), (hx.1 0 1 _ h9).1 (nn _), (hx.1 0 0 _ h9).1 (nn _), (hx.1 0 6 _ h9).2.1 (nn _), (x92.1 0 2 _ h8).2.1 (nn _), (x92.1 0 1 _ h8).1 (nn _), (x92.1 0 0 _ h8).1 (nn _), (x92.1 0 6 _ h8).2.1 (nn _)]
    exact tb p h8
  have no : ∀ {k p}, tA (tA T' 40 x) 10 x k p → k ∉ [5, 9] := fun {k p} h z => by
    rcases h with (h | h) | h
    · have h9 : ∀ k, k ∈ [5, 9] → k ∈ [5, 9, 10, 40] := by decide
      exact kq h (h9 k z)
    · rw [h.1] at z; exact absurd z (by decide)
    · rw [h.1] at z; exact absurd z (by decide)
  have hI : cJ (x, w.2.1, w2.2.1, w6.2.1) (tA (tA T' 40 x) 10 x) w' H' := by
    refine ⟨b2, ⟨tA.new, Or.inl (Or.inl (hs _ _ (tsub _ _ tl))), Or.inl (Or.inl (hs _ _ tP)), Or.inl (Or.inl (hs _ _ tC))⟩, ⟨fun p h => ?_, fun p h => ?_, fun p h => ?_, fun p h => ?_⟩, fun p q h hq => ?_, fun p h => ?_, fun p q h hq => absurd (by decide) (no h), fun p h => absurd (by decide) (no h), fun i a b => ?_, fun n a b => ?_, fun p h => absurd (by decide) (no h), fun p h => (e0 p h).2.2.2⟩
    · rcases h with (h | h) | h
      · exact absurd (by decide) (kq h)
      · exact absurd h.1 (by decide)
      · exact h.2
    · have h9 := inv h (by decide) (by decide) (by decide)
      rcases tinv 3 p h9 with h | h | h
      · exact ul p h
      · exact absurd h.2 (by decide)
      · exact absurd h.2 (by decide)
    · have h9 := inv h (by decide) (by decide) (by decide)
      rcases tinv 7 p h9 with h | h | h
      · exact absurd (tk2' _ _ h) (by decide)
      · exact h.1
      · exact absurd h.2 (by decide)
    · have h9 := inv h (by decide) (by decide) (by decide)
      rcases tinv 1 p h9 with h | h | h
      · exact absurd (tk2' _ _ h) (by decide)
      · exact absurd h.2 (by decide)
      · exact h.1
    · rw [(e0 p h).1] at hq
      cases hq
    · have h9 := e0 p h
      have hb : H'.1 3 1 w.2.1 = 1 := (e3 1).trans nb
      refine ⟨by rw [h9.2.1, h9.2.2.1]; decide, ?_⟩
      show H'.1 0 0 p < H'.1 3 1 w.2.1
      rw [h9.2.2.1, hb]
      decide
    · have hb : H'.1 3 3 w.2.1 = 0 := (e3 3).trans nt
      have b : i < H'.1 3 3 w.2.1 := b
      omega
    · obtain ⟨q, hq, -⟩ := hN.1 n a b
      show H'.2.2.2.1 40 x n ≠ none
      rw [hq]
      exact fun z => nomatch z
  have hb : H'.1 3 1 w.2.1 = 1 := (e3 1).trans nb
  have hb3 : H'.1 3 3 w.2.1 = 0 := (e3 3).trans nt
  have h9 := c_new2 (d := d) (F := (x, w.2.1, w2.2.1, w6.2.1)) (C := w.2.1 + 384) (S := w.2.2 + 39840) 16 0 w' H' _ rfl hI (fun n a b => by
    obtain ⟨q, hq, -, hz⟩ := hN.1 n a b
    show (match H'.2.2.2.1 40 x n with | some q => H'.1 6 10 q | none => 0) = 0
    rw [hq]
    exact hz) (fun n m a b a' b' he => hN.2.1 n m a b a' b' he) (by
    show ((w'.2.1 : Nat) : Int) - 2 * H'.1 7 4 w2.2.1 - 13 * H'.1 3 1 w.2.1 - H'.1 3 3 w.2.1 ≤ _
    rw [e7, hb, hb3]
    have := rm.1
    omega) (by
    show ((w'.2.2 : Nat) : Int) - 18 * H'.1 7 4 w2.2.1 - 700 * H'.1 3 1 w.2.1 - 6 * H'.1 3 3 w.2.1 ≤ _
    rw [e7, hb, hb3]
    have := rm.2
    omega)
  refine J.post h9 ?_
  rintro o w9 H10 ⟨v, rfl, rfl, T10, hI9, hf9, hd9, m1, m2⟩
  exact ⟨_, rfl, rfl, _, T10, rfl, hI9, hf9, hd9, by omega, by omega⟩
end CY
