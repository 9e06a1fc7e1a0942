section JP
variable {b : Bool} {w : jW} {H : jH} {Post : jO → jW → jH → Prop} {d k pc : Nat} {q : xMt} {lv : jL} {st : List jV}
theorem jstP.nil : jstP b w [] [] := ⟨fun _ h => (nomatch h), fun _ h => (nomatch h)⟩
theorem jstP.cons {i : Nat} {v : jV} (hv : jtkP b w v) (h : jstP b w lv st) : jstP b w ((i, v) :: lv) st := by
  refine ⟨fun q hq => ?_, h.2⟩
  rcases List.mem_cons.mp hq with rfl | hq
  · exact hv
  · exact h.1 q hq
theorem jstP.push {v : jV} (hv : jtkP b w v) (h : jstP b w lv st) : jstP b w lv (v :: st) := by
  refine ⟨h.1, fun q hq => ?_⟩
  rcases List.mem_cons.mp hq with rfl | hq
  · exact hv
  · exact h.2 q hq
/-- a call where tokens stay by what is there -/
theorem J.invP {k' ix c p : Nat} {q' : xMt} {as rest : List jV} {Q : Option jV → jW → jH → Prop} (hq : xmts[k]? = some q) (hi : xat k pc = some (.invokevirtual ix, 3)) (hl : xlk xivs q.1 ix = some (0, k')) (hq' : xmts[k']? = some q') (htk : jtk (q'.2.2.2.2.2 - 1) st = some (as, .inr (some (c, p)) :: rest)) (hc : q'.1 = c) (hD : jD b w c p) (hk : Nat.ble 170 k' = false) (hci : Nat.ble c 11 = true) (hr : Nat.ble rest.length 8 = true) (hw : Nat.ble (as.length + 1) q'.2.2.2.1 = true) (hst : jstP b w lv rest)
    (h1 : J b d k' w (0, jargs 0 (.inr (some (c, p)) :: as), [], H) (jN Q)) (h2 : ∀ v w' H', Q v w' H' → J b (d + 1) k w' (pc + 3, lv, v.toList ++ rest, H') Post) : J b (d + 1) k w (pc, lv, st, H) Post := by
  intro ph hp hR
  have hR : jRep b ph w H hp := hR
  obtain ⟨o, w1, H1, ph1, hp1, hX1, hR1, hE1, hF1, v, rfl, hQ⟩ := h1 ph hp hR
  obtain ⟨o2, w2, H2, ph2, hp2, hX2, hR2, hE2, hF2, hP2⟩ := h2 v w1 H1 hQ ph1 hp1 hR1
  refine ⟨o2, w2, H2, ph2, hp2, ?_, hR2, hE1.trans hE2, jF.trans hE1 hF1 hF2, hP2⟩
  have hcell := hR.1 c p (Nat.lt_succ_of_le (Nat.le_of_ble_eq_true hci)) hD
  have hs := jstP_ok hR hR1 hE1 hst
  have hX1' : X d k' (0, lv_args 0 (.ref (ph c p) :: as.map (jm ph)), [], hp, w.2.2) (.inl (v.map (jm ph1)), hp1, w1.2.2) := by
    have := jargs_ok ph (.inr (some (c, p)) :: as) 0
    simp only [List.map_cons, jm] at this
    rw [this]
    exact hX1
  have e2 : (v.toList ++ rest).map (jm ph1) = (v.map (jm ph1)).toList ++ rest.map (jm ph) := by
    rw [List.map_append, hs.2]
    cases v <;> rfl
  have hX2' : X (d + 1) k (pc + 3, jml ph lv, (v.map (jm ph1)).toList ++ rest.map (jm ph), hp1, w1.2.2) (jmo ph2 o2, hp2, w2.2.2) := by
    rw [← hs.1, ← e2]
    exact hX2
  refine X.inv hq hi hl hq' (jtk_ok ph htk) (by rw [hc]; exact hcell) hk (by rw [hc]; exact hci) ?_ ?_ hX1' hX2'
  · rw [jcat_ok]; exact hr
  · have := jcat_ok ph (.inr (some (c, p)) :: as)
    simp only [List.map_cons, jm] at this
    rw [this]
    exact hw
end JP
