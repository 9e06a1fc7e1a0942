/-! the reference runs, the class stays -/
section SD
variable {ph ph' : Nat → Nat → Nat} {w w' : jW} {H H' : jH} {hp hp' : List xC}
/-- H' of the reference, H of the class -/
def hMix (H' H : jH) : jH := (fun c => match Nat.beq c 11 with
  | true => H'.1 c
  | false => H.1 c, fun c => match Nat.beq c 11 with
  | true => H'.2.1 c
  | false => H.2.1 c, fun k => match jcn k with
  | true => H'.2.2.1 k
  | false => H.2.2.1 k, fun k => match jcn k with
  | true => H'.2.2.2.1 k
  | false => H.2.2.2.1 k, fun c => match Nat.beq c 11 with
  | true => H'.2.2.2.2 c
  | false => H.2.2.2.2 c)
/-- nothing of the class is in the picture -/
def wNo (w : jW) : jW := (fun _ _ => False, w.2.1, w.2.2)
def rC11 : Bool := (List.range (jfn 11)).all fun j => match jft 11 j with
  | some (1, k) => jcn k
  | _ => true
set_option maxRecDepth 20000 in
theorem rC11_ok : rC11 = true := by decide +kernel
theorem wNo_D {k p : Nat} (h : jD true (wNo w) k p) : jcn k = true ∧ p = 0 := by
  unfold jD at h
  split at h
  · rename_i hc
    exact ⟨hc, h.2⟩
  · exact absurd h (fun z => z)
theorem jRep.no (hR : jRep true ph w H hp) : jRep true ph (wNo w) H hp := by
  obtain ⟨r1, r2, r3, r4, r5, r6, r7, r8⟩ := hR
  have up : ∀ {k p}, jD true (wNo w) k p → jD true w k p := fun {k p} h => (jD_c (wNo_D h).1).mpr ⟨rfl, (wNo_D h).2⟩
  exact ⟨fun c p hc hD => r1 c p hc (up hD), fun k p t n tk hk hD => r2 k p t n tk hk (up hD), fun k p k' p' hD hD' he => r3 k p k' p' (up hD) (up hD') he, fun k p hD => r4 k p (up hD), r5, r6, fun p h => absurd h (fun z => z), r8.1, fun k p h => absurd h (fun z => z)⟩
theorem b11 {c : Nat} (h : c ≠ 11) : Nat.beq c 11 = false := by
  cases hb : Nat.beq c 11 with
  | false => rfl
  | true => exact absurd (Nat.eq_of_beq_eq_true hb) h
theorem r_mix (hR : jRep true ph w H hp) (hR' : jRep true ph' w' H' hp') (hw : w'.2.1 = w.2.1) (hE : jE true ph (wNo w) ph' w') (hF : jF true ph (wNo w) hp hp') : jRep true ph w (hMix H' H) hp' := by
  have hlt : ∀ {k p}, jD true w k p → ph k p < hp.length := fun h => jRep.lt hR h
  obtain ⟨r1, r2, r3, r4, r5, r6, r7, r8⟩ := hR
  obtain ⟨s1, s2, s3, s4, s5, s6, s7, s8⟩ := hR'
  have pe : ∀ {k}, jcn k = true → ph' k 0 = ph k 0 ∧ jD true w' k 0 := fun {k} hc => by
    have h9 := hE.1 k 0 ((jD_c hc).mpr ⟨rfl, rfl⟩)
    exact ⟨h9.2, h9.1⟩
  have pd : ∀ k, jdr k = true → ph k = ph' k := fun k hk => funext fun p => (r5 k p hk).trans (s5 k p hk).symm
  have old : ∀ {k p}, jcn k = false → jD true w k p → hp'[ph k p]? = hp[ph k p]? := fun {k p} hc hD => by
    refine hF _ (show ph k p < w.2.1 by rw [r6]; exact hlt hD) fun k' q hD' he => ?_
    have h9 := wNo_D hD'
    have := (r3 k' q k p ((jD_c h9.1).mpr ⟨rfl, h9.2⟩) hD he).1
    rw [this, hc] at h9
    cases h9.1
  refine ⟨fun c p hc hD => ?_, fun k p t n tk hk hD => ?_, r3, r4, r5, ?_, fun p h => ?_, r8⟩
  · by_cases h11 : c = 11
    · subst h11
      obtain ⟨-, rfl⟩ := (jD_c rfl).mp hD
      have h9 := pe (k := 11) rfl
      rw [← h9.1, s1 11 0 hc h9.2]
      congr 3
      congr 1
      symm
      refine jfv_eq (fun j => ⟨rfl, rfl, rfl⟩) (fun j k hj => ?_) pd
      have hl := jft_lt hj
      have h8 := List.all_eq_true.mp rC11_ok j (List.mem_range.mpr hl.2)
      rw [hj] at h8
      exact (pe h8).1.symm
    · have hcn := jcn_lo (c := c) (Nat.ble_eq_true_of_le (by omega))
      rw [old hcn hD, r1 c p hc hD]
      congr 3
      congr 1
      symm
      refine jfv_eq (fun j => ?_) (fun _ _ _ => rfl) (fun _ _ => rfl)
      unfold hMix
      try dsimp only
      rw [b11 h11]
      exact ⟨rfl, rfl, rfl⟩
  · cases hc : jcn k with
    | true =>
      obtain ⟨-, rfl⟩ := (jD_c hc).mp hD
      have h9 := pe hc
      rw [← h9.1, s2 k 0 t n tk hk h9.2]
      congr 1
      have h42 : Nat.beq k 42 = false := by
        cases hb : Nat.beq k 42 with
        | false => rfl
        | true =>
          rw [Nat.eq_of_beq_eq_true hb] at hc
          cases hc
      unfold jrw jlen hMix
      try dsimp only
      rw [h42, hc, pd tk (jT3_at hk)]
    | false =>
      rw [old hc hD, r2 k p t n tk hk hD]
      congr 1
      symm
      refine jrw_eq hk ⟨rfl, ?_, ?_⟩ (fun _ _ => rfl)
      · unfold hMix
        try dsimp only
        rw [hc]
      · unfold hMix
        try dsimp only
        rw [hc]
  · rw [← s6]; exact hw.symm
  · exact r7 p h
end SD
section SE
variable {H H' : jH}
set_option maxRecDepth 20000 in
theorem rInv.mix {z : zT} (h : rInv z H') : rInv z (hMix H' H) := h
end SE
