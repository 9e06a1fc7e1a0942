/-! the picture of a new object -/
section CY
variable {b : Bool} {d : Nat} {w : jW} {H : jH}
def zfresh : zT := (0, fun _ => (0, 0, 0), 1, fun _ => (1, 0, 0, 0, []))
def zc : Nat → zT
  | 0 => zfresh
  | n + 1 => zact 500 (zbegin (zc n) n) n
theorem zact_none {z : zT} {n : Nat} (h : zmove z n = none) (f : Nat) : zact f z n = z := by
  cases f with
  | zero => rfl
  | succ f =>
    unfold zact
    rw [h]
    split <;> rfl
theorem zc_hi : ∀ (i m : Nat), i ≤ m → (zc i).2.2.2 m = (1, 0, 0, 0, [])
  | 0, m, _ => rfl
  | i + 1, m, h => by
    show (zact 500 (zbegin (zc i) i) i).2.2.2 m = _
    rw [zact_oth i m (by omega), zbegin_oth (zc i) i m (by omega)]
    exact zc_hi i m (by omega)
theorem zb_0 : zbegin zfresh 0 = zst zfresh 0 0 0 := if_neg (by decide)
theorem zm_0 : zmove (zbegin zfresh 0) 0 = none := by
  rw [zb_0, zmove_none]
  have h : zprop (zst zfresh 0 0 0) 0 = false := rfl
  refine ⟨fun z => ?_, fun z => ?_, fun z => ?_⟩
  · rw [h] at z; cases z.1
  · rw [h] at z; cases z.1
  · have := z.1; rw [h] at this; cases this
theorem zc_1 : zc 1 = zbegin zfresh 0 := zact_none zm_0 500
theorem zc_B {i : Nat} (h : zP (nh (zc i) i) = i) : zB (zc i) = nh (zc i) i := by
  have e : nh (zc i) i = 1 := by unfold nh; rw [zc_hi i i (Nat.le_refl _)]
  rw [e] at h ⊢
  have e1 : zP 1 = 1 := by decide
  rw [e1] at h
  subst h
  rw [zc_1, zb_0]
  rfl
theorem zfresh_inv : zInv zfresh := by
  refine ⟨⟨by decide, by decide, by decide⟩, fun i hi => absurd hi (Nat.not_lt_zero _), fun i j hi => absurd hi (Nat.not_lt_zero _), fun n hn => ⟨⟨by show 1 ≤ 1; omega, by show 1 ≤ 1; omega, by show 1 ≤ 121; omega⟩, by show 0 ≤ 2; omega, by show 0 ≤ 1; omega, by show 0 ≤ 0 + 1; omega, fun i hi => (nomatch hi), List.nodup_nil⟩, fun h h1 h2 => ?_⟩
  have h3 : h < 1 := h2
  omega
theorem zc_nr (i : Nat) : nr (zc i) i = 0 ∧ ns (zc i) i = 0 ∧ ne (zc i) i = 0 ∧ nh (zc i) i = 1 := by
  unfold nr ns ne nh
  rw [zc_hi i i (Nat.le_refl _)]
  exact ⟨rfl, rfl, rfl, rfl⟩
theorem zc_inv : ∀ i : Nat, i ≤ 16 → zInv (zc i)
  | 0, _ => zfresh_inv
  | i + 1, h => zInv.act (by omega) 500 _ ((zc_inv i (by omega)).begin (by omega) (zc_nr i).1 fun _ => zc_B)
theorem zc_rest0 : ∀ i : Nat, i ≤ 16 → ∀ m, m < i → 120 < nh (zc i) m ∨ zmove (zc i) m = none
  | 0, _, m, hm => absurd hm (Nat.not_lt_zero _)
  | i + 1, h, m, hm => by
    have hz := zc_inv i (by omega)
    have hzb := hz.begin (by omega) (zc_nr i).1 fun _ => zc_B
    by_cases hmi : m = i
    · subst hmi
      exact zact_rest (by omega) 500 _ hzb (by have := zmu_le (z := zbegin (zc m) m) m; omega)
    · have e1 : (zc (i + 1)).2.2.2 m = (zc i).2.2.2 m := by
        show (zact 500 (zbegin (zc i) i) i).2.2.2 m = _
        rw [zact_oth i m hmi, zbegin_oth (zc i) i m hmi]
      have e2 : nh (zc (i + 1)) m = nh (zc i) m := by unfold nh; rw [e1]
      rcases zc_rest0 i (by omega) m (by omega) with h9 | h9
      · exact Or.inl (by rw [e2]; exact h9)
      · refine Or.inr ((zlook_same e1 fun j hj => ?_).mpr h9)
        have hj9 : j < zM (zc i) := (hz.2.2.2.1 m (by omega)).2.2.2.2.1 j hj
        show (zact 500 (zbegin (zc i) i) i).2.1 j = _
        rw [zact_msg i j 500 _ (Nat.lt_of_lt_of_le hj9 (zM_begin (zc i) i))]
        exact zbegin_msg (zc i) i j hj9
theorem zc_rest : zRest (zc 16) := fun m hm => zc_rest0 16 (Nat.le_refl _) m hm
/-- a NODE begins -/
theorem c_first {F : cF} {n : Nat} {je mp bp sp : Nat → Nat} (hn : n < 16) (hP : cPic F w (zc n) H je mp bp sp) (hje : je n = 1) (hoth : ∀ m, m < 16 → m ≠ n → je m = 0 ∨ 120 < nh (zc n) m) (hc : n = 1 → H.1 6 6 (fN F 1) = -1 ∧ H.1 6 7 (fN F 1) = -1) :
    J b (d + 5) 89 w (0, jargs 0 [.inr (some (10, fX F)), .inr (some (6, fN F n))], [], H) (jN fun r w' H' => r = none ∧ cRest F w' (zc (n + 1)) H' ∧ jCl H' H ∧ (n = 0 → H'.1 6 6 (fN F 1) = H.1 6 6 (fN F 1) ∧ H'.1 6 7 (fN F 1) = H.1 6 7 (fN F 1))) := by
  have hz := zc_inv n (by omega)
  obtain ⟨r1, r2, r3, r4⟩ := zc_nr n
  have e11 : zP 1 = 1 := by decide
  have hzb := hz.begin hn r1 fun _ => zc_B
  refine J.run0 4 rfl ?_
  try dsimp only
  refine c_doAll_1 (i := 0) hz hP hn (by omega) hje r1 r2 r3 (fun _ => zc_B) (fun h => ?_) (fun w' H' hh hI' hC' hFr => ?_) (fun h => ?_)
  · rw [r4, e11] at h
    rw [← h]
    exact hc h.symm
  rotate_left
  · rw [r4] at h
    omega
  have hje0 : va_up (je) n 0 n = 0 := if_pos rfl
  have hoth' : ∀ m, m < 16 → m ≠ n → va_up je n 0 m = 0 ∨ 120 < nh (zbegin (zc n) n) m := fun m hm hmn => by
    have e3 : va_up je n 0 m = je m := if_neg hmn
    have e4 : nh (zbegin (zc n) n) m = nh (zc n) m := by unfold nh; rw [zbegin_oth (zc n) n m hmn]
    rw [e3, e4]
    exact hoth m hm hmn
  by_cases hn0 : n = 0
  · subst hn0
    obtain ⟨rfl, f⟩ := hFr (by rw [r4]; decide)
    obtain ⟨mp', bp', sp', hP'⟩ := hI'
    have h9 := c_doAll_n (b := b) (d := d) (i := 0 + 1) hzb hP' hn (by omega) hje0 zm_0
    refine J.post h9 ?_
    rintro o w2 H2 ⟨r, rfl, rfl, rfl, rfl⟩
    refine ⟨_, rfl, rfl, ?_, hC', fun _ => ?_⟩
    · rw [zc_1]
      refine ⟨va_up je 0 0, ⟨mp', bp', sp', hP'⟩, fun m hm => ?_⟩
      by_cases hm0 : m = 0
      · rw [hm0]; exact Or.inl hje0
      · exact hoth' m hm hm0
    · have hne : fN F 1 ≠ fN F 0 := fun z => absurd (hP.1.2.2.1 1 0 (by omega) (by omega) z) (by omega)
      exact ⟨f.2 6 6 _ fun z => hne z.2.1, f.2 6 7 _ fun z => hne z.2.1⟩
  · have h9 := c_doAll_l (b := b) (d := d) hn 500 w' H' (zbegin (zc n) n) (va_up je n 0) 1 hzb hI' hje0 hoth' (by have := zmu_le (z := zbegin (zc n) n) n; omega) (by omega)
    refine J.post h9 ?_
    rintro o w2 H2 ⟨r, rfl, rfl, hR, hC⟩
    exact ⟨_, rfl, rfl, hR, hC.trans hC', fun h => absurd h hn0⟩
end CY
