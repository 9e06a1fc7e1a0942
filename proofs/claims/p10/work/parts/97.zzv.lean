/-! the law: its state between two calls, the class's calls, the reference's -/
section TD
variable {d : Nat} {ph : Nat → Nat → Nat} {w : jW} {H : jH} {hp : List xC}
theorem jRep.set {b : Bool} {p : Nat} (x : xC) (hR : jRep b ph w H hp) (hn : ∀ k q, jD b w k q → ph k q ≠ p) : jRep b ph w H (hp.set p x) := by
  obtain ⟨r1, r2, r3, r4, r5, r6, r7, r8⟩ := hR
  refine ⟨fun c q hc hD => ?_, fun k q t n tk hk hD => ?_, r3, r4, r5, by rw [List.length_set]; exact r6, r7, r8⟩
  · rw [List.getElem?_set_ne fun z => hn c q hD z.symm]
    exact r1 c q hc hD
  · rw [List.getElem?_set_ne fun z => hn k q hD z.symm]
    exact r2 k q t n tk hk hD
theorem i32R (x : Int32) : -2147483648 ≤ x.toInt ∧ x.toInt ≤ 2147483647 := ⟨Int32.le_toInt x, by have := Int32.toInt_lt x; omega⟩
theorem i32m (ph : Nat → Nat → Nat) (x : Int32) : jm ph (.inl x.toInt) = .int x := by
  show Value.int (Int32.ofInt x.toInt) = _
  rw [Int32.ofInt_toInt]
theorem gAll.ex {ks : List Nat} {H' : jH} (h : gAll H) (hT : gT H') (hE : jEx [47] ks H' H) (hk : ks = [] ∨ ks = [82]) : gAll H' := by
  obtain ⟨h0, h1, h2, h3, h4, h5, h6, h7, h8, h9⟩ := h
  rcases hk with rfl | rfl
  · exact ⟨hT, gP.ex h1 hE (by decide), gX.ex h2 hE (by decide), gL.ex h3 hE (by decide), gZ.ex h4 hE (by decide), gQ.ex h5 hE (by decide), gB.ex h6 hE (by decide), gK.ex h7 hE (by decide), gN.ex h8 hE (by decide), gWm.ex h9 hE (by decide)⟩
  · exact ⟨hT, gP.ex h1 hE (by decide), gX.ex h2 hE (by decide), gL.ex h3 hE (by decide), gZ.ex h4 hE (by decide), gQ.ex h5 hE (by decide), gB.ex h6 hE (by decide), gK.ex h7 hE (by decide), gN.ex h8 hE (by decide), gWm.ex h9 hE (by decide)⟩
end TD
section TE
variable {d k k' : Nat} {q q' : xMt} {pc : Nat} {lv : xL} {st : List Value} {hp hp1 : List xC} {ks ks1 : Nat}
/-- a call that throws, caught here -/
theorem X.invX {ix a ci : Nat} {x : Int32} {fs as rest : List Value} (hq : xmts[k]? = some q) (hi : xat k pc = some (.invokevirtual ix, 3)) (hl : xlk xivs q.1 ix = some (0, k')) (hq' : xmts[k']? = some q') (htk : xtk (q'.2.2.2.2.2 - 1) st = some (as, .ref a :: rest)) (ha : hp[a]? = some (.inr (q'.1, fs))) (hk : Nat.ble 170 k' = false) (hci : Nat.ble q'.1 11 = true) (hr : Nat.ble (xcat rest) 8 = true) (hw : Nat.ble (xcat (.ref a :: as)) q'.2.2.2.1 = true)
    (h1 : X d k' (0, lv_args 0 (.ref a :: as), [], hp, ks) (.inr ci, hp1, ks1)) (h2 : xhnd k pc ci = some x) : X (d + 1) k (pc, lv, st, hp, ks) (.inl (some (.int x)), hp1, ks1) := by
  have hk' : ¬ (k' = 170 ∨ k' = 171) := fun z => by
    have : 170 ≤ k' := by omega
    rw [Nat.ble_eq_true_of_le this] at hk
    cases hk
  have hc : xcall q.1 (.invokevirtual ix) 3 st hp = some (k', .ref a :: as, rest) := by
    simp only [xcall, hl, hq', htk, ha]
    rw [if_pos ⟨trivial, Or.inl trivial, hk', trivial, Nat.lt_succ_of_le (Nat.le_of_ble_eq_true hci), Nat.le_of_ble_eq_true hr⟩]
  refine X.callX (g := (pc, lv, st, hp, ks)) (q := q) ⟨hq, hi, ?_, ?_⟩ ?_ hc hq' (Nat.le_of_ble_eq_true hw) h1 h2
  · simp only [xs, xs1, xs6, xs5, xs4, xs7, xs8, show ¬ ((3 : Nat) = 1) by decide, if_false]
  · simp only [xs9]
  · simp only [xret]
/-- a static call of one of the law's own -/
theorem X.insL {ix kd : Nat} {v : Option Value} {r : xO × List xC × Nat} {as rest : List Value} (hq : xmts[k]? = some q) (hi : xat k pc = some (.invokestatic ix, 3)) (hl : xlk xivs q.1 ix = some (kd, k')) (hkd : kd = 1 ∨ kd = 4 ∨ kd = 8) (hq' : xmts[k']? = some q') (htk : xtk q'.2.2.2.2.2 st = some (as, rest)) (hk' : ¬ (k' = 170 ∨ k' = 171)) (hr : Nat.ble (xcat rest) 8 = true) (hw : Nat.ble (xcat as) q'.2.2.2.1 = true) (h9 : xs9 q.1 (.invokestatic ix) 3 st hp = none)
    (h1 : X d k' (0, lv_args 0 as, [], hp, ks) (.inl v, hp1, ks1)) (h2 : X (d + 1) k (pc + 3, lv, v.toList ++ rest, hp1, ks1) r) : X (d + 1) k (pc, lv, st, hp, ks) r := by
  have hc : xcall q.1 (.invokestatic ix) 3 st hp = some (k', as, rest) := by
    simp only [xcall, hl, hq', htk]
    rw [if_pos ⟨trivial, hkd, hk', Nat.le_of_ble_eq_true hr⟩]
  refine X.call (g := (pc, lv, st, hp, ks)) (q := q) ⟨hq, hi, ?_, h9⟩ ?_ hc hq' (Nat.le_of_ble_eq_true hw) h1 h2
  · simp only [xs, xs1, xs6, xs5, xs4, xs7, xs8, show ¬ ((3 : Nat) = 1) by decide, if_false]
  · simp only [xret]
end TE
section TK
variable {d : Nat} {ph : Nat → Nat → Nat} {w : jW} {H : jH} {hp : List xC} {F : cG} {L : Nat} {xs : Nat → Int32} {po : Nat} {fz gz : Int → Int} {g : Nat → Int64} {C : Nat}
/-- between two calls: fz, gz who is FAULTY on each side; the script at 0; the answer's row at po + 1; room -/
def lIn (F : cG) (L : Nat) (xs : Nat → Int32) (po : Nat) (fz gz : Int → Int) (g : Nat → Int64) (C : Nat) (ph : Nat → Nat → Nat) (w : jW) (H : jH) (hp : List xC) : Prop :=
  (jRep true ph w H hp ∧ gAll H ∧ ∃ T, cJ F T w H) ∧ (∀ n, 0 ≤ n → n < 16 → cfl F H n = fz n ∧ H.2.2.1 79 0 n = gz n) ∧ cDi F H ∧ hp[0]? = some (.inl (0, L, .inl xs)) ∧ hp[po + 1]? = some (.inl (2, 1, .inr (.inl g))) ∧ (∀ k q, jD true w k q → ph k q ≠ po + 1) ∧ po + 1 < w.2.1 ∧ cRm F w H ≤ 2000 + (C : Int) ∧ cRs F w H ≤ 500000 + 10 * (C : Int)
theorem lIn.at11 (h : lIn F L xs po fz gz g C ph w H hp) : ∃ fs, hp[ph 11 0]? = some (.inr (11, fs)) := ⟨_, h.1.1.1 11 0 (by decide) jDr⟩
theorem lIn.at10 (h : lIn F L xs po fz gz g C ph w H hp) : ∃ fs, hp[F.1]? = some (.inr (10, fs)) := by
  obtain ⟨T, hT⟩ := h.1.2.2
  have h9 := h.1.1.1 10 F.1 (by decide) ((jD_w rfl).mpr (hT.is hT.top.1))
  rw [h.1.1.2.2.2.2.1 10 _ rfl] at h9
  exact ⟨_, h9⟩
theorem lIn.s0 (h : lIn F L xs po fz gz g C ph w H hp) : hp[0]? = some (.inl (0, L, .inl xs)) := h.2.2.2.1
theorem lIn.so (h : lIn F L xs po fz gz g C ph w H hp) : hp[po + 1]? = some (.inl (2, 1, .inr (.inl g))) := h.2.2.2.2.1
theorem lIn.eqf {fz' : Int → Int} (h : lIn F L xs po fz gz g C ph w H hp) (he : ∀ n, 0 ≤ n → n < 16 → fz n = fz' n) : lIn F L xs po fz' gz g C ph w H hp := by
  obtain ⟨a, b, c⟩ := h
  exact ⟨a, fun n h0 h1 => ⟨(b n h0 h1).1.trans (he n h0 h1), (b n h0 h1).2⟩, c⟩
theorem lIn.eqg {gz' : Int → Int} (h : lIn F L xs po fz gz g C ph w H hp) (he : ∀ n, 0 ≤ n → n < 16 → gz n = gz' n) : lIn F L xs po fz gz' g C ph w H hp := by
  obtain ⟨a, b, c⟩ := h
  exact ⟨a, fun n h0 h1 => ⟨(b n h0 h1).1, (b n h0 h1).2.trans (he n h0 h1)⟩, c⟩
theorem lIn.set {g' : Nat → Int64} (h : lIn F L xs po fz gz g C ph w H hp) : lIn F L xs po fz gz g' C ph w H (hp.set (po + 1) (.inl (2, 1, .inr (.inl g')))) := by
  obtain ⟨⟨hRep, hI⟩, hf, hd, h0, ho, hn, hlt, r1, r2⟩ := h
  have hl : po + 1 < hp.length := by rw [← hRep.2.2.2.2.2.1]; exact hlt
  refine ⟨⟨hRep.set _ hn, hI⟩, hf, hd, ?_, List.getElem?_set_self hl, hn, hlt, r1, r2⟩
  rw [List.getElem?_set_ne (by omega)]
  exact h0
/-- a call of the class -/
theorem l_cls {K : Nat} {as : List jV} {vs : List Value} {ks : List Nat} {Q : jO → jH → Prop} (hI : lIn F L xs po fz gz g C ph w H hp) (has : as.map (jm ph) = vs) (hJ : ∀ T, cJ F T w H → J false d K w (0, jargs 0 as, [], H) (fun o w' H' => ∃ T', cJ F T' w' H' ∧ cEx T ks H' H ∧ cRm F w' H' ≤ cRm F w H + 1700 ∧ cRs F w' H' ≤ cRs F w H + 17000 ∧ Q o H')) (hk : 40040 ∉ ks) (hQ : ∀ o H', Q o H' → ∀ p1 p2, jmo p1 o = jmo p2 o) :
    ∃ o w' H' ph' hp', X d K (0, lv_args 0 vs, [], hp, w.2.2) (jmo ph' o, hp', w'.2.2) ∧ lIn F L xs po (cfl F H') gz g (C + 1700) ph' w' (hMix H H') hp' ∧ ph' 11 0 = ph 11 0 ∧ Q o H' ∧ (∀ n, cnd F H' n = cnd F H n) ∧ (610 ∉ ks → ∀ n, 0 ≤ n → n < 16 → cfl F H' n = fz n) := by
  obtain ⟨⟨hRep, hG, T, hT⟩, hf, hd, h0, ho, hn, hlt, r1, r2⟩ := hI
  have hU := J.up (hJ T hT) (fun o w' H' ⟨_, _, _, _, _, q⟩ => hQ o H' q)
  obtain ⟨o, w', H'', ph', hp', hX, hR', hE, hFr, H', e, T', hT', eC, m1, m2, q⟩ := hU ph hp hRep
  have eM : H'' = hMix H H' := e
  subst eM
  have e := jargs_ok ph as 0
  rw [has] at e
  rw [← e] at hX
  have hpos : ∀ k q, jD true w k q → ph k q ≠ 0 := fun k q h => Nat.pos_iff_ne_zero.mp (hRep.2.2.2.1 k q h)
  have n' : ∀ k q, jD true w' k q → ph' k q ≠ po + 1 := fun k q h => by
    rcases hE.2.1 k q h with h1 | h1
    · rw [(hE.1 k q h1).2]; exact hn k q h1
    · omega
  have ec : ∀ n, cnd F H' n = cnd F H n := fun n => cnd_ex hT eC hk n
  refine ⟨o, w', H', ph', hp', hX, ⟨⟨hR', gAll.mix hG, T', cJ.mix hT' hR'.2.2.2.2.2.2.2⟩, fun n a b => ⟨rfl, (hf n a b).2⟩, fun n m a b a' b' he => hd n m a b a' b' ?_, (hFr 0 hRep.2.2.2.2.2.2.2.1 hpos).trans h0, (hFr (po + 1) hlt hn).trans ho, n', Nat.lt_of_lt_of_le hlt hE.2.2, ?_, ?_⟩, (hE.1 11 0 jDr).2, q, ec, fun h6 n a b => ?_⟩
  · have he : cnd F H' n = cnd F H' m := he
    rw [ec, ec] at he
    exact he
  · show cRm F w' H' ≤ _
    omega
  · show cRs F w' H' ≤ _
    omega
  · rw [cfl_ex hT eC h6 hk]
    exact (hf n a b).1
/-- a call of the reference -/
theorem l_ref {K : Nat} {as : List jV} {vs : List Value} {Q : Option jV → jH → Prop} (hI : lIn F L xs po fz gz g C ph w H hp) (has : as.map (jm ph) = vs) (hJ : J true d K (wNo w) (0, jargs 0 as, [], H) (jN fun v w' H' => w' = wNo w ∧ gAll H' ∧ Q v H')) (hQ : ∀ v H', Q v H' → ∀ p1 p2, jmo p1 (.inl v) = jmo p2 (.inl v)) :
    ∃ v H' hp', X d K (0, lv_args 0 vs, [], hp, w.2.2) (jmo ph (.inl v), hp', w.2.2) ∧ lIn F L xs po fz (H'.2.2.1 79 0) g C ph w (hMix H' H) hp' ∧ Q v H' := by
  obtain ⟨⟨hRep, hG, T, hT⟩, hf, hd, h0, ho, hn, hlt, r1, r2⟩ := hI
  obtain ⟨o, w1, H1, ph1, hp1, hX1, hR1, hE1, hF1, v, rfl, hw1, hG1, q⟩ := hJ ph hp hRep.no
  have e := jargs_ok ph as 0
  rw [has] at e
  rw [← e] at hX1
  subst hw1
  have hM := r_mix hRep hR1 rfl hE1 hF1
  have up : ∀ {k q}, jD true (wNo w) k q → jD true w k q := fun {k q} h => (jD_c (wNo_D h).1).mpr ⟨rfl, (wNo_D h).2⟩
  have n1 : ∀ k q, jD true (wNo w) k q → ph k q ≠ po + 1 := fun k q h => hn k q (up h)
  have z1 : ∀ k q, jD true (wNo w) k q → ph k q ≠ 0 := fun k q h => Nat.pos_iff_ne_zero.mp (hRep.2.2.2.1 k q (up h))
  have hl0 : 0 < (wNo w).2.1 := hRep.2.2.2.2.2.2.2.1
  refine ⟨v, H1, hp1, ?_, ⟨⟨hM, gAll.mix hG1, T, cJ.mix hT hRep.2.2.2.2.2.2.2⟩, fun n a b => ⟨(hf n a b).1, rfl⟩, hd, (hF1 0 hl0 z1).trans h0, (hF1 (po + 1) hlt n1).trans ho, hn, hlt, r1, r2⟩, q⟩
  rw [hQ v H1 q ph ph1]
  exact hX1
/-- what a small method of the law gives -/
def sOut (d Ks : Nat) (F : cG) (L : Nat) (xs : Nat → Int32) (po : Nat) (fz gz : Int → Int) (C : Nat) (ph : Nat → Nat → Nat) (w : jW) (hp : List xC) (vs : List Value) : Prop :=
  ∃ k w' H' ph' hp' g', X d Ks (0, lv_args 0 vs, [], hp, w.2.2) (.inl (some (.int k)), hp', w'.2.2) ∧ lIn F L xs po fz gz g' (C + 1700) ph' w' H' hp' ∧ ph' 11 0 = ph 11 0
end TK
