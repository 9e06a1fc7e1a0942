/-! the reference's constructor: all -/
section SG
theorem X.obj {d k pc ks ix a : Nat} {q : xMt} {lv : xL} {st : List Value} {hp : List xC} {r : xO × List xC × Nat} (hq : xmts[k]? = some q) (hi : xat k pc = some (.invokespecial ix, 3)) (hl : xlk xivs q.1 ix = some (6, 0)) (hr : xcat st ≤ 8) (hx : X d k (pc + 3, lv, st, hp, ks) r) : X d k (pc, lv, .ref a :: st, hp, ks) r := by
  refine X.one ?_ hx
  have h1 : xs q.1 q.2.2.2.1 (decide (q.2.1.name = "<init>")) (.invokespecial ix) 3 (pc, lv, Value.ref a :: st, hp, ks) = none := by
    simp only [xs, xs1, xs6, xs5, xs4, xs7, xs8, show ¬ ((3 : Nat) = 1) by decide, if_false]
  have h9 : xs9 q.1 (.invokespecial ix) 3 (Value.ref a :: st) hp = some (st, hp) := by
    simp only [xs9, hl]
    rw [if_pos ⟨trivial, trivial, hr⟩]
  show xst k (pc, lv, Value.ref a :: st, hp, ks) = _
  simp only [xst, hq, hi, h1, h9]
theorem r_init {d : Nat} {ph : Nat → Nat → Nat} {w : jW} {H : jH} {hp : List xC} {F : cF} {z : zT} (hR : jRep false ph w H hp) (hC : cRest F w z H) : ∃ ph' w' H' hp', X (d + 9) 113 (0, [(0, .ref hp.length)], [], hp ++ [.inr (11, rF0)], w.2.2 + 66) (.inl none, hp', w'.2.2) ∧ jRep true ph' w' H' hp' ∧ rInv (zc 16) H' ∧ (∀ a c, cRoom (fGr F a c) w' z → cRest (fGr F a c) w' z H') ∧ w' = (w.1, w.2.1 + 58, w.2.2 + 66 + 370739) ∧ ph' 11 0 = hp.length ∧ (∀ k, jcn k = false → ph' k = ph k) ∧ ∀ p, p < hp.length → hp'[p]? = hp[p]? := by
  have hpos : 0 < hp.length := by rw [← hR.2.2.2.2.2.1]; exact hR.2.2.2.2.2.2.2.1
  obtain ⟨a, ha⟩ : ∃ a, hp.length = a + 1 := ⟨hp.length - 1, by omega⟩
  have hR1 := r_rep hR (s := w.2.2 + 66 + 370739) ha
  obtain ⟨o, w2, H2, ph2, hp2, hX, hR2, hE, hF, v, rfl, rfl, rfl, hI⟩ := r_tail (d := d) (w := wNo (w.1, w.2.1 + 58, w.2.2 + 66 + 370739)) (H := H) _ _ hR1.no
  have e11 : rPh ph hp.length 11 0 = hp.length := rPh_c rfl _ _
  refine ⟨rPh ph hp.length, _, hMix H2 (rH H), hp2, ?_, r_mix hR1 hR2 rfl hE hF, rInv.mix hI, fun a c hr => hC.gr mix_k (fun _ _ h => h) hr, rfl, e11, fun k hc => rPh_o hc _, fun p hlt => ?_⟩
  rotate_left
  · refine (hF p ?_ fun k q hD he => ?_).trans (List.getElem?_append_left hlt)
    · show p < w.2.1 + 58
      rw [hR.2.2.2.2.2.1]
      omega
    · have h9 := wNo_D hD
      rw [rPh_c h9.1] at he
      omega
  rw [ha]
  refine X.run 1 rfl ?_
  refine X.obj rfl rfl rfl (show xcat [] ≤ 8 by decide) ?_
  refine r_rows ha ?_
  have e : jml (rPh ph hp.length) [(0, jT)] = [(0, .ref (a + 1))] := by
    show [(0, Value.ref (rPh ph hp.length 11 0))] = _
    rw [e11, ha]
  have h9 := hX
  dsimp only at h9
  rw [e] at h9
  exact h9
end SG
