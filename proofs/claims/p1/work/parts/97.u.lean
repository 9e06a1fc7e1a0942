/-! calls from the law: the class's, the reference's -/
section TD
variable {d : Nat} {ph : Nat → Nat → Nat} {w : jW} {H : jH} {hp : List xC} {F : cF} {L : Nat} {xs : Nat → Int32} {po : Nat} {g : Nat → Int64}
theorem jRep.set {b : Bool} {p : Nat} (x : xC) (hR : jRep b ph w H hp) (hn : ∀ k q, jD b w k q → ph k q ≠ p) : jRep b ph w H (hp.set p x) := by
  obtain ⟨r1, r2, r3, r4, r5, r6, r7, r8⟩ := hR
  refine ⟨fun c q hc hD => ?_, fun k q t n tk hk hD => ?_, r3, r4, r5, by rw [List.length_set]; exact r6, r7, r8⟩
  · rw [List.getElem?_set_ne fun z => hn c q hD z.symm]
    exact r1 c q hc hD
  · rw [List.getElem?_set_ne fun z => hn k q hD z.symm]
    exact r2 k q t n tk hk hD
/-- the law's heap: both objects new (the reference's side), the script at 0, the answer's row at po + 1 -/
def lRy (ph : Nat → Nat → Nat) (w : jW) (H : jH) (hp : List xC) (L : Nat) (xs : Nat → Int32) (po : Nat) (g : Nat → Int64) : Prop :=
  (jRep true ph w H hp ∧ rInv (zc 16) H) ∧ hp[0]? = some (.inl (0, L, .inl xs)) ∧ hp[po + 1]? = some (.inl (2, 1, .inr (.inl g))) ∧ (∀ k q, jD true w k q → ph k q ≠ po + 1) ∧ po + 1 < w.2.1
theorem lRy.at11 (h : lRy ph w H hp L xs po g) : ∃ fs, hp[ph 11 0]? = some (.inr (11, fs)) := ⟨_, h.1.1.1 11 0 (by decide) jDr⟩
theorem lRy.at10 {x : Nat} (h : lRy ph w H hp L xs po g) (hx : w.1 10 x) : ∃ fs, hp[x]? = some (.inr (10, fs)) := by
  have h9 := h.1.1.1 10 x (by decide) ((jD_w rfl).mpr hx)
  rw [h.1.1.2.2.2.2.1 10 x rfl] at h9
  exact ⟨_, h9⟩
theorem l_call {K : Nat} {as : List jV} {vs : List Value} {k a : Int} {c : Nat} (hR : lRy ph w H hp L xs po g) (has : as.map (jm ph) = vs) (hJ : J true d K w (0, jargs 0 as, [], H) (cOut H k c a)) :
    ∃ w' H' ph' hp', ((X d K (0, lv_args 0 vs, [], hp, w.2.2) (.inl (some (.int (Int32.ofInt a))), hp', w'.2.2) ∧ k = 0) ∨ (X d K (0, lv_args 0 vs, [], hp, w.2.2) (.inr c, hp', w'.2.2) ∧ k ≠ 0)) ∧ lRy ph' w' H' hp' L xs po g ∧ ph' 11 0 = ph 11 0 ∧ w'.2.1 ≤ 30000 ∧ w'.2.2 ≤ 1000000 := by
  obtain ⟨⟨hRep, hI⟩, h0, ho, hn, hlt⟩ := hR
  obtain ⟨o, w', H', ph', hp', hX, hR', hE, hFr, hC, ho', hw1, hw2⟩ := hJ ph hp hRep
  have e := jargs_ok ph as 0
  rw [has] at e
  rw [← e] at hX
  have hpos : ∀ k q, jD true w k q → ph k q ≠ 0 := fun k q h => Nat.pos_iff_ne_zero.mp (hRep.2.2.2.1 k q h)
  have n' : ∀ k q, jD true w' k q → ph' k q ≠ po + 1 := fun k q h => by
    rcases hE.2.1 k q h with h1 | h1
    · rw [(hE.1 k q h1).2]; exact hn k q h1
    · omega
  refine ⟨w', H', ph', hp', ?_, ⟨⟨hR', hI.cl hC⟩, (hFr 0 hRep.2.2.2.2.2.2.2.1 hpos).trans h0, (hFr (po + 1) hlt hn).trans ho, n', Nat.lt_of_lt_of_le hlt hE.2.2⟩, (hE.1 11 0 jDr).2, hw1, hw2⟩
  rcases ho' with ⟨hk, rfl⟩ | ⟨hk, rfl⟩
  · exact Or.inl ⟨hX, hk⟩
  · exact Or.inr ⟨hX, hk⟩
theorem lRy.set {g' : Nat → Int64} (h : lRy ph w H hp L xs po g) : lRy ph w H (hp.set (po + 1) (.inl (2, 1, .inr (.inl g')))) L xs po g' := by
  obtain ⟨⟨hRep, hI⟩, h0, ho, hn, hlt⟩ := h
  have hl : po + 1 < hp.length := by rw [← hRep.2.2.2.2.2.1]; exact hlt
  refine ⟨⟨hRep.set _ hn, hI⟩, ?_, List.getElem?_set_self hl, hn, hlt⟩
  rw [List.getElem?_set_ne (by omega)]
  exact h0
/-- what a small method of the law gives -/
def sOut (d Ks : Nat) (ph : Nat → Nat → Nat) (w : jW) (hp : List xC) (L : Nat) (xs : Nat → Int32) (po : Nat) (vs : List Value) (k a : Int) : Prop :=
  ∃ w' H' ph' hp' g', X d Ks (0, lv_args 0 vs, [], hp, w.2.2) (.inl (some (.int (Int32.ofInt k))), hp', w'.2.2) ∧ lRy ph' w' H' hp' L xs po g' ∧ (k = 0 → g' 0 = (Int32.ofInt a).toInt64) ∧ ph' 11 0 = ph 11 0 ∧ w'.2.1 ≤ 30000 ∧ w'.2.2 ≤ 1000000
theorem l_ref {K : Nat} {as : List jV} {vs : List Value} {k a : Int} (hR : lRy ph w H hp L xs po g) (has : as.map (jm ph) = vs) (hJ : J true d K (wNo w) (0, jargs 0 as, [], H) (jN (rOut (wNo w) k a))) :
    ∃ y hp1 hp2, X d K (0, lv_args 0 vs, [], hp, w.2.2) (.inl (some (.int (Int32.ofInt y))), hp1, w.2.2) ∧ (k = 0 → y = a) ∧ (∃ fs, hp1[ph 11 0]? = some (.inr (11, fs))) ∧ X d 114 (0, [(0, .ref (ph 11 0))], [], hp1, w.2.2) (.inl (some (.int (Int32.ofInt k))), hp2, w.2.2) ∧ hp2[0]? = hp[0]? ∧ hp2[po + 1]? = hp[po + 1]? ∧ hp2.length = w.2.1 ∧ hp1[0]? = hp[0]? := by
  obtain ⟨⟨hRep, hI⟩, h0, ho, hn, hlt⟩ := hR
  obtain ⟨o, w1, H1, ph1, hp1, hX1, hR1, hE1, hF1, v, rfl, hw1, hk1, y, rfl, hy⟩ := hJ ph hp hRep.no
  have e := jargs_ok ph as 0
  rw [has] at e
  rw [← e] at hX1
  subst hw1
  obtain ⟨o2, w2, H2, ph2, hp2, hX2, hR2, hE2, hF2, v2, rfl, rfl, hw2, rfl⟩ := j_thrown (d := d) ph1 hp1 hR1
  subst hw2
  have e11 : ph1 11 0 = ph 11 0 := (hE1.1 11 0 jDr).2
  have up : ∀ {k q}, jD true (wNo w) k q → jD true w k q := fun {k q} h => (jD_c (wNo_D h).1).mpr ⟨rfl, (wNo_D h).2⟩
  have n1 : ∀ k q, jD true (wNo w) k q → ph k q ≠ po + 1 := fun k q h => hn k q (up h)
  have z1 : ∀ k q, jD true (wNo w) k q → ph k q ≠ 0 := fun k q h => Nat.pos_iff_ne_zero.mp (hRep.2.2.2.1 k q (up h))
  have n2 : ∀ k q, jD true (wNo w) k q → ph1 k q ≠ po + 1 := fun k q h => by rw [(hE1.1 k q h).2]; exact n1 k q h
  have z2 : ∀ k q, jD true (wNo w) k q → ph1 k q ≠ 0 := fun k q h => by rw [(hE1.1 k q h).2]; exact z1 k q h
  have hl0 : 0 < (wNo w).2.1 := hRep.2.2.2.2.2.2.2.1
  have hc := hR1.1 11 0 (by decide) jDr
  rw [e11] at hc
  refine ⟨y, hp1, hp2, hX1, hy, ⟨_, hc⟩, ?_, (hF2 0 hl0 z2).trans (hF1 0 hl0 z1), (hF2 (po + 1) hlt n2).trans (hF1 (po + 1) hlt n1), hR2.2.2.2.2.2.1.symm, hF1 0 hl0 z1⟩
  rw [← e11, ← hk1]
  exact hX2
theorem i32R (x : Int32) : jR x.toInt := ⟨Int32.le_toInt x, by have := Int32.toInt_lt x; omega⟩
theorem i32m (ph : Nat → Nat → Nat) (x : Int32) : jm ph (.inl x.toInt) = .int x := by
  show Value.int (Int32.ofInt x.toInt) = _
  rw [Int32.ofInt_toInt]
end TD
section TE
variable {d k k' : Nat} {q q' : xMt} {pc : Nat} {lv : xL} {st : List Value} {hp hp1 : List xC} {ks ks1 : Nat}
/-- a call that throws, caught here -/
theorem X.invX {ix a ci : Nat} {x : Int32} {fs as rest : List Value} (hq : xmts[k]? = some q) (hi : xat k pc = some (.invokevirtual ix, 3)) (hl : xlk xivs q.1 ix = some (0, k')) (hq' : xmts[k']? = some q') (htk : xtk (q'.2.2.2.2.2 - 1) st = some (as, .ref a :: rest)) (ha : hp[a]? = some (.inr (q'.1, fs))) (hk : Nat.ble 170 k' = false) (hci : Nat.ble q'.1 11 = true) (hr : Nat.ble (xcat rest) 8 = true) (hw : Nat.ble (xcat (.ref a :: as)) q'.2.2.2.1 = true)
    (h1 : X d k' (0, lv_args 0 (.ref a :: as), [], hp, ks) (.inr ci, hp1, ks1)) (h2 : xhnd k pc ci = some x) : X (d + 1) k (pc, lv, st, hp, ks) (.inl (some (.int x)), hp1, ks1) := by
  have hk' : ¬ (k' = 170 ∨ k' = 171) := fun z => by
    have : 170 ≤ k' := by omega
    rw [Nat.ble_eq_true_of_le this] at hk
    cases hk
  have hc : xcall q.1 (.invokevirtual ix) 3 st hp = some (k', .ref a :: as, rest) := by
    simp only [xcall, hl, hq', htk, ha]
    rw [if_pos ⟨trivial, Or.inl trivial, hk', trivial, Nat.lt_succ_of_le (Nat.le_of_ble_eq_true hci), Nat.le_of_ble_eq_true hr⟩]
  refine X.callX (g := (pc, lv, st, hp, ks)) (q := q) ⟨hq, hi, ?_, ?_⟩ ?_ hc hq' (Nat.le_of_ble_eq_true hw) h1 h2
  · simp only [xs, xs1, xs6, xs5, xs4, xs7, xs8, show ¬ ((3 : Nat) = 1) by decide, if_false]
  · simp only [xs9]
  · simp only [xret]
/-- a static call of one of the law's own -/
theorem X.insL {ix kd : Nat} {v : Option Value} {r : xO × List xC × Nat} {as rest : List Value} (hq : xmts[k]? = some q) (hi : xat k pc = some (.invokestatic ix, 3)) (hl : xlk xivs q.1 ix = some (kd, k')) (hkd : kd = 1 ∨ kd = 4 ∨ kd = 8) (hq' : xmts[k']? = some q') (htk : xtk q'.2.2.2.2.2 st = some (as, rest)) (hk' : ¬ (k' = 170 ∨ k' = 171)) (hr : Nat.ble (xcat rest) 8 = true) (hw : Nat.ble (xcat as) q'.2.2.2.1 = true) (h9 : xs9 q.1 (.invokestatic ix) 3 st hp = none)
    (h1 : X d k' (0, lv_args 0 as, [], hp, ks) (.inl v, hp1, ks1)) (h2 : X (d + 1) k (pc + 3, lv, v.toList ++ rest, hp1, ks1) r) : X (d + 1) k (pc, lv, st, hp, ks) r := by
  have hc : xcall q.1 (.invokestatic ix) 3 st hp = some (k', as, rest) := by
    simp only [xcall, hl, hq', htk]
    rw [if_pos ⟨trivial, hkd, hk', Nat.le_of_ble_eq_true hr⟩]
  refine X.call (g := (pc, lv, st, hp, ks)) (q := q) ⟨hq, hi, ?_, h9⟩ ?_ hc hq' (Nat.le_of_ble_eq_true hw) h1 h2
  · simp only [xs, xs1, xs6, xs5, xs4, xs7, xs8, show ¬ ((3 : Nat) = 1) by decide, if_false]
  · simp only [xret]
end TE
