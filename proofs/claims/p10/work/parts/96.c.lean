/-! the class's picture stays where the reference is made -/
section SF
variable {w w' : jW} {H H' : jH}
abbrev rKs : List Nat := 11 :: (List.range 66).map (50 + ·)
set_option maxRecDepth 20000 in
theorem rKs_ck : ((List.range jrt.length).all fun k => !(jcn k) || rKs.contains k) = true := by decide +kernel
theorem rKs_no {k : Nat} (h : k ∉ rKs) : jcn k = false := by
  cases hc : jcn k with
  | false => rfl
  | true =>
    have h9 := List.all_eq_true.mp rKs_ck k (List.mem_range.mpr (jcn_lt hc))
    rw [hc] at h9
    exact absurd (List.contains_iff_mem.mp h9) h
theorem mix_k : jK [11] rKs (hMix H' (rH H)) H := by
  refine ⟨fun c hn => ?_, fun k hn => ?_⟩
  · have hb := b11 fun z => hn (List.mem_singleton.mpr z)
    unfold hMix rH
    try dsimp only
    rw [hb]
    exact ⟨rfl, rfl, rfl⟩
  · have hc := rKs_no hn
    unfold hMix rH
    try dsimp only
    rw [hc]
    exact ⟨rfl, rfl⟩
def fGr (F : cF) (a c : Nat) : cF := (fX F, fL F, fP F, fC F, fT F, fG F, fN F, fun n => if n = 17 then a else if n = 16 then c else fO F n)
theorem cPic.gr {F : cF} {z : zT} {je mp bp sp : Nat → Nat} {a c : Nat} (hP : cPic F w z H je mp bp sp) (hK : jK [11] rKs H' H) (hw : jwM w w') (hr : cRoom (fGr F a c) w' z) : cPic (fGr F a c) w' z H' je mp bp sp := by
  obtain ⟨h1, h2, h3, h4, h5⟩ := hP
  have e : ∀ n, n < 16 → fO (fGr F a c) n = fO F n := fun n hn => by
    show (if n = 17 then a else if n = 16 then c else fO F n) = _
    rw [if_neg (by omega), if_neg (by omega)]
  refine ⟨?_, h2.mv hw ⟨rfl, rfl⟩ hK (by decide) (by decide), h3.mv hw rfl hK (by decide) (by decide), fun n hn => ?_, hr⟩
  · have t := h1.mv hw hK (by decide) (by decide)
    exact ⟨t.1, t.2.1, t.2.2.1, fun n m hn hm h => t.2.2.2.1 n m hn hm (by rw [e n hn, e m hm] at h; exact h), t.2.2.2.2⟩
  · rw [e n hn]
    exact (h4 n hn).mv hw (nSame.of hK (by decide) (by decide)) (fun _ _ => rfl)
theorem cRest.gr {F : cF} {z : zT} {a c : Nat} (hR : cRest F w z H) (hK : jK [11] rKs H' H) (hw : jwM w w') (hr : cRoom (fGr F a c) w' z) : cRest (fGr F a c) w' z H' := by
  obtain ⟨je, ⟨mp, bp, sp, hP⟩, hje⟩ := hR
  exact ⟨je, ⟨mp, bp, sp, hP.gr hK hw hr⟩, hje⟩
end SF
