/-! the class runs, the reference stays -/
section CX
variable {d k : Nat} {ph ph' : Nat → Nat → Nat} {w w' : jW} {H H' : jH} {hp hp' : List xC} {g : jG}
theorem jD_ft {k p : Nat} (h : jD false w k p) : jcn k = false ∧ w.1 k p := by
  unfold jD at h
  split at h
  · cases h.1
  · rename_i hc; exact ⟨hc, h⟩
theorem jD_up {k p : Nat} (h : jD false w k p) : jD true w k p := (jD_w (jD_ft h).1).mpr (jD_ft h).2
theorem jRep.cl (hR : jRep true ph w H hp) : jRep false ph w H hp := by
  obtain ⟨r1, r2, r3, r4, r5, r6, r7, r8⟩ := hR
  exact ⟨fun c p hc hD => r1 c p hc (jD_up hD), fun k p t n tk hk hD => r2 k p t n tk hk (jD_up hD), fun k p k' p' hD hD' he => r3 k p k' p' (jD_up hD) (jD_up hD') he, fun k p hD => r4 k p (jD_up hD), r5, r6, r7, r8⟩
def phM (ph ph' : Nat → Nat → Nat) : Nat → Nat → Nat := fun k p => match jcn k with
  | true => ph k p
  | false => ph' k p
theorem phM_t {k p : Nat} (h : jcn k = true) : phM ph ph' k p = ph k p := by unfold phM; rw [h]
theorem phM_f {k p : Nat} (h : jcn k = false) : phM ph ph' k p = ph' k p := by unfold phM; rw [h]
def rC12 : Bool := (List.range 11).all fun c => (List.range (jfn c)).all fun j => match jft c j with
  | some (1, k) => !(jcn k)
  | _ => true
set_option maxRecDepth 20000 in
theorem rC12_ok : rC12 = true := by decide +kernel
theorem jcn_dr {k : Nat} (h : jdr k = true) : jcn k = false := by
  unfold jdr at h
  simp only [Bool.or_eq_true] at h
  rcases h with (h | h) | h
  · exact jcn_lo h
  · rw [Nat.eq_of_beq_eq_true h]; rfl
  · rw [Nat.eq_of_beq_eq_true h]; rfl
theorem c_mix (hR : jRep true ph w H hp) (hR' : jRep false ph' w' H' hp') (hE : jE false ph w ph' w') (hF : jF false ph w hp hp') : jRep true (phM ph ph') w' (hMix H H') hp' ∧ jE true ph w (phM ph ph') w' ∧ jF true ph w hp hp' := by
  have hlt : ∀ {k p}, jD true w k p → ph k p < hp.length := fun h => jRep.lt hR h
  obtain ⟨r1, r2, r3, r4, r5, r6, r7, r8⟩ := hR
  obtain ⟨s1, s2, s3, s4, s5, s6, s7, s8⟩ := hR'
  have dn : ∀ {k p}, jcn k = false → jD true w' k p → jD false w' k p := fun {k p} hc h => (jD_w hc).mpr ((jD_w hc).mp h)
  have ref : ∀ {k}, jcn k = true → jD true w k 0 := fun hc => (jD_c hc).mpr ⟨rfl, rfl⟩
  have old : ∀ {k}, jcn k = true → hp'[ph k 0]? = hp[ph k 0]? := fun {k} hc => by
    refine hF _ (show ph k 0 < w.2.1 by rw [r6]; exact hlt (ref hc)) fun k' q hD' he => ?_
    have h9 := (r3 k' q k 0 (jD_up hD') (ref hc) he).1
    rw [h9] at hD'
    have := (jD_ft hD').1
    rw [hc] at this
    cases this
  have dr : ∀ {k p}, jdr k = true → phM ph ph' k p = ph' k p := fun h => phM_f (jcn_dr h)
  refine ⟨⟨fun c p hc hD => ?_, fun k p t n tk hk hD => ?_, fun k p k2 p2 hD hD2 he => ?_, fun k p hD => ?_, fun k p hk => ?_, s6, fun p h => ?_, s8⟩, ⟨fun k p hD => ?_, fun k p hD => ?_, hE.2.2⟩, fun p hp0 hn => hF p hp0 fun k q hD => hn k q (jD_up hD)⟩
  · by_cases h11 : c = 11
    · subst h11
      obtain ⟨-, rfl⟩ := (jD_c rfl).mp hD
      rw [phM_t rfl, old rfl, r1 11 0 hc (ref rfl)]
      congr 3
      all_goals
        congr 1
        symm
        refine jfv_eq (fun j => ⟨rfl, rfl, rfl⟩) (fun j k hj => ?_) (fun k hk => funext fun p => ?_)
        · have hl := jft_lt hj
          have h8 := List.all_eq_true.mp rC11_ok j (List.mem_range.mpr hl.2)
          rw [hj] at h8
          exact phM_t h8
        · rw [dr hk, s5 k p hk, r5 k p hk]
    · have hcn := jcn_lo (c := c) (Nat.ble_eq_true_of_le (by omega))
      rw [phM_f hcn, s1 c p hc (dn hcn hD)]
      congr 3
      congr 1
      symm
      refine jfv_eq (fun j => ?_) (fun j k hj => ?_) (fun k hk => funext fun p => dr hk)
      · unfold hMix
        try dsimp only
        rw [b11 h11]
        exact ⟨rfl, rfl, rfl⟩
      · have hl := jft_lt hj
        have h8 := List.all_eq_true.mp (List.all_eq_true.mp rC12_ok c (List.mem_range.mpr (by omega))) j (List.mem_range.mpr hl.2)
        rw [hj] at h8
        have h9 : jcn k = false := by
          cases hb : jcn k with
          | false => rfl
          | true =>
            have h8 : (!(jcn k)) = true := h8
            rw [hb] at h8
            cases h8
        exact phM_f h9
  · cases hc : jcn k with
    | true =>
      obtain ⟨-, rfl⟩ := (jD_c hc).mp hD
      rw [phM_t hc, old hc, r2 k 0 t n tk hk (ref hc)]
      congr 1
      have h42 : Nat.beq k 42 = false := by
        cases hb : Nat.beq k 42 with
        | false => rfl
        | true =>
          rw [Nat.eq_of_beq_eq_true hb] at hc
          cases hc
      have htk : phM ph ph' tk = ph tk := funext fun p => by rw [dr (jT3_at hk), s5 tk p (jT3_at hk), r5 tk p (jT3_at hk)]
      unfold jrw jlen hMix
      try dsimp only
      rw [h42, hc, htk]
    | false =>
      rw [phM_f hc, s2 k p t n tk hk (dn hc hD)]
      congr 1
      symm
      refine jrw_eq hk ⟨rfl, ?_, ?_⟩ (fun k hk => funext fun p => dr hk)
      · unfold hMix
        try dsimp only
        rw [hc]
      · unfold hMix
        try dsimp only
        rw [hc]
  · cases hc : jcn k with
    | true =>
      obtain ⟨-, rfl⟩ := (jD_c hc).mp hD
      rw [phM_t hc] at he
      cases hc2 : jcn k2 with
      | true =>
        obtain ⟨-, rfl⟩ := (jD_c hc2).mp hD2
        rw [phM_t hc2] at he
        exact r3 k 0 k2 0 (ref hc) (ref hc2) he
      | false =>
        rw [phM_f hc2] at he
        exfalso
        rcases hE.2.1 k2 p2 (dn hc2 hD2) with h1 | h1
        · rw [(hE.1 k2 p2 h1).2] at he
          have h9 := (r3 k 0 k2 p2 (ref hc) (jD_up h1) he).1
          rw [h9, hc2] at hc
          cases hc
        · have := hlt (ref hc)
          rw [← r6] at this
          omega
    | false =>
      rw [phM_f hc] at he
      cases hc2 : jcn k2 with
      | true =>
        obtain ⟨-, rfl⟩ := (jD_c hc2).mp hD2
        rw [phM_t hc2] at he
        exfalso
        rcases hE.2.1 k p (dn hc hD) with h1 | h1
        · rw [(hE.1 k p h1).2] at he
          have h9 := (r3 k p k2 0 (jD_up h1) (ref hc2) he).1
          rw [h9, hc2] at hc
          cases hc
        · have := hlt (ref hc2)
          rw [← r6] at this
          omega
      | false =>
        rw [phM_f hc2] at he
        exact s3 k p k2 p2 (dn hc hD) (dn hc2 hD2) he
  · cases hc : jcn k with
    | true =>
      obtain ⟨-, rfl⟩ := (jD_c hc).mp hD
      rw [phM_t hc]
      exact r4 k 0 (ref hc)
    | false =>
      rw [phM_f hc]
      exact s4 k p (dn hc hD)
  · rw [dr hk]; exact s5 k p hk
  · exact s7 p h
  · cases hc : jcn k with
    | true =>
      obtain ⟨-, rfl⟩ := (jD_c hc).mp hD
      exact ⟨(jD_c hc).mpr ⟨rfl, rfl⟩, phM_t hc⟩
    | false =>
      have h1 := hE.1 k p ((jD_w hc).mpr ((jD_w hc).mp hD))
      exact ⟨jD_up h1.1, (phM_f hc).trans h1.2⟩
  · cases hc : jcn k with
    | true =>
      obtain ⟨-, rfl⟩ := (jD_c hc).mp hD
      exact Or.inl (ref hc)
    | false =>
      rcases hE.2.1 k p (dn hc hD) with h1 | h1
      · exact Or.inl (jD_up h1)
      · exact Or.inr (by rw [phM_f hc]; exact h1)
/-- what a run of the class alone gives, the reference beside it -/
theorem J.up {Post : jO → jW → jH → Prop} (h : J false d k w g Post) (hi : ∀ o w' H', Post o w' H' → ∀ p1 p2, jmo p1 o = jmo p2 o) : J true d k w g (fun o w' H'' => ∃ H', H'' = hMix g.2.2.2 H' ∧ Post o w' H') := by
  intro ph hp hR
  obtain ⟨o, w', H', ph', hp', hX, hR', hE, hF, hP⟩ := h ph hp hR.cl
  obtain ⟨m1, m2, m3⟩ := c_mix hR hR' hE hF
  refine ⟨o, w', hMix g.2.2.2 H', phM ph ph', hp', ?_, m1, m2, m3, H', rfl, hP⟩
  rw [hi o w' H' hP (phM ph ph') ph']
  exact hX
/-- the reference's part of a mixture -/
theorem gT.mix (h : gT H) : gT (hMix H H') := by
  obtain ⟨t1, t2, t3, t4⟩ := h
  refine ⟨fun k i => ?_, t2, fun k i hk => ?_, t4⟩
  · cases hc : jcn k with
    | false => exact gri_cn hc _
    | true =>
      have e : (hMix H H').2.2.1 k = H.2.2.1 k := by unfold hMix; dsimp only; rw [hc]
      rw [e]; exact t1 k i
  · have hc := gbk_cn hk
    have e : (hMix H H').2.2.1 k = H.2.2.1 k := by unfold hMix; dsimp only; rw [hc]
    rw [e]; exact t3 k i hk
set_option maxRecDepth 20000 in
theorem gAll.mix (h : gAll H) : gAll (hMix H H') := by
  obtain ⟨h0, h1, h2, h3, h4, h5, h6, h7, h8, h9⟩ := h
  exact ⟨gT.mix h0, h1, h2, h3, h4, h5, h6, h7, h8, h9⟩
/-- the class's part of a mixture -/
theorem cJ.mix {F : cG} {T : cP} (h : cJ F T w H') (hwc : jwc w) : cJ F T w (hMix H H') := by
  have hk : ∀ {k p}, T k p → k ≠ 11 ∧ jcn k = false := fun {k p} ht => by
    have h1 := (hwc.2 k p (h.is ht)).2
    have h2 : jcn k = false := by
      cases hc : jcn k with
      | false => rfl
      | true =>
        unfold jkd at h1
        rw [hc] at h1
        simp only [Bool.or_eq_true, Bool.not_true, Bool.false_and, Bool.or_false] at h1
        rw [jcn_lo (by simpa using h1)] at hc
        cases hc
    exact ⟨fun z => by (rw [z] at h2; exact Bool.noConfusion h2), h2⟩
  refine cJ.same h ⟨fun c j p ht => ?_, fun k p ht => ?_⟩ (fun _ _ z => z)
  · unfold hMix
    try dsimp only
    rw [b11 (hk ht).1]
    exact ⟨fun _ => rfl, fun _ => rfl, fun _ => rfl⟩
  · unfold hMix
    try dsimp only
    rw [(hk ht).2]
    exact ⟨fun _ => rfl, fun _ => rfl⟩
end CX
