/-! the law: its beginning -/
section TZ
variable {d : Nat}
theorem cJ.up {F : cG} {T : cP} {w w' : jW} {H : jH} (h : cJ F T w H) (hw : ∀ k p, w.1 k p → w'.1 k p) : cJ F T w' H := cJ.same h cEx.refl hw
/-- the reference's constructor, all -/
theorem r_new {ph : Nat → Nat → Nat} {w : jW} {H : jH} {hp : List xC} {F : cG} {T : cP} (hR : jRep false ph w H hp) (hC : cJ F T w H) : ∃ ph' H' hp', X (d + 306) 113 (0, [(0, .ref hp.length)], [], hp ++ [.inr (11, rF0)], w.2.2 + 66) (.inl none, hp', w.2.2 + 66 + 370739) ∧ jRep true ph' (w.1, w.2.1 + 58, w.2.2 + 66 + 370739) (hMix H' H) hp' ∧ gAll (hMix H' H) ∧ (∀ i, (hMix H' H).2.2.1 79 0 i = 0) ∧ cJ F T (w.1, w.2.1 + 58, w.2.2 + 66 + 370739) (hMix H' H) ∧ ph' 11 0 = hp.length ∧ ∀ p, p < hp.length → hp'[p]? = hp[p]? := by
  have hpos : 0 < hp.length := by rw [← hR.2.2.2.2.2.1]; exact hR.2.2.2.2.2.2.2.1
  obtain ⟨a, ha⟩ : ∃ a, hp.length = a + 1 := ⟨hp.length - 1, by omega⟩
  have hR1 := r_rep hR (s := w.2.2 + 66 + 370739) ha
  obtain ⟨o, w2, H2, ph2, hp2, hX, hR2, hE, hF, v, rfl, rfl, rfl, hG, hz⟩ := g_tail (d := d) (w := wNo (w.1, w.2.1 + 58, w.2.2 + 66 + 370739)) (H := H) _ _ hR1.no
  have e11 : rPh ph hp.length 11 0 = hp.length := rPh_c rfl _ _
  have hM := r_mix hR1 hR2 rfl hE hF
  have eM : hMix H2 (rH H) = hMix H2 H := by
    unfold hMix rH
    refine Prod.ext (funext fun c => ?_) (Prod.ext rfl (Prod.ext (funext fun k => ?_) rfl))
    · dsimp only
      cases Nat.beq c 11 <;> rfl
    · dsimp only
      cases jcn k <;> rfl
  rw [eM] at hM
  refine ⟨rPh ph hp.length, H2, hp2, ?_, hM, gAll.mix hG, fun i => hz i, cJ.mix (hC.up fun _ _ h => h) hM.2.2.2.2.2.2.2, e11, fun p hlt => ?_⟩
  rotate_left
  · refine (hF p ?_ fun k q hD he => ?_).trans (List.getElem?_append_left hlt)
    · show p < w.2.1 + 58
      rw [hR.2.2.2.2.2.1]
      omega
    · have h9 := wNo_D hD
      rw [rPh_c h9.1] at he
      omega
  rw [ha]
  refine X.run 1 rfl ?_
  refine X.obj rfl rfl rfl (show xcat [] ≤ 8 by decide) ?_
  refine r_rows ha ?_
  have e : jml (rPh ph hp.length) [(0, jT)] = [(0, .ref (a + 1))] := by
    show [(0, Value.ref (rPh ph hp.length 11 0))] = _
    rw [e11, ha]
  have h9 := hX
  dsimp only at h9
  rw [e] at h9
  exact h9
/-- the picture of the script and one new object of the class -/
def w10 : jW := (fun k p => k = 10 ∧ p = 1, 2, jfn 10)
def h00 : jH := (fun _ _ _ => 0, fun _ _ _ => none, fun _ _ _ => 0, fun _ _ _ => none, fun _ _ _ => 0)
def ph10 : Nat → Nat → Nat := fun k p => if jdr k = true then p else 0
theorem jRep.two (x : xC) {z : vw_C} {ty : Nat → FieldType} (hz : xcl[10]? = some z) (hty : xtys[10]? = some ty) (hn : z.2.2 = jfn 10) : jRep false ph10 w10 h00 ([x] ++ [.inr (10, (List.range z.2.2).map fun j => defaultValue (ty j))]) := by
  have one : ∀ {k p}, jD false w10 k p → k = 10 ∧ p = 1 := fun {k p} h => by
    unfold jD at h
    split at h
    · cases h.1
    · exact h
  have hcell : (List.range z.2.2).map (fun j => defaultValue (ty j)) = (List.range (jfn 10)).map (jfv ph10 h00 10 1) := by
    rw [hn]
    exact List.map_congr_left fun j hj => jdef_ok rfl hty (List.mem_range.mp hj) ⟨rfl, rfl, rfl⟩ fun k h1 h2 => by
      unfold ph10
      rw [if_neg (by rw [h1]; decide)]
  refine ⟨fun c p _ h => ?_, fun k p t n tk hk h => ?_, fun k p k' p' h h' _ => ?_, fun k p h => ?_, fun k p h => if_pos h, rfl, fun p h => absurd h.1 (by decide), by decide, fun k p h => ?_⟩
  · obtain ⟨rfl, rfl⟩ := one h
    show some (Sum.inr (10, (List.range z.2.2).map fun j => defaultValue (ty j)) : xC) = _
    rw [hcell]
  · obtain ⟨rfl, rfl⟩ := one h
    cases hk
  · obtain ⟨rfl, rfl⟩ := one h
    obtain ⟨rfl, rfl⟩ := one h'
    exact ⟨rfl, rfl⟩
  · obtain ⟨rfl, rfl⟩ := one h
    decide
  · obtain ⟨rfl, rfl⟩ := h
    exact ⟨by decide, rfl⟩
set_option maxRecDepth 20000 in
theorem l_start (L : Nat) (xs : Nat → Int32) : ∃ (F : cG) (po : Nat) (g : Nat → Int64) (ph : Nat → Nat → Nat) (w : jW) (H : jH) (hp : List xC), lIn F L xs po (fun _ => 0) (fun _ => 0) g 0 ph w H hp ∧ ∀ r, X 650 191 (23, [(4, .int (Int32.ofInt 0)), (3, .ref (po + 1)), (2, .ref (ph 11 0)), (1, .ref F.1), (0, .ref 0)], [], hp, w.2.2) r → X 650 191 (0, [(0, .ref 0)], [], [.inl (0, L, .inl xs)], 0) r := by
  have hR2 := jRep.two (.inl (0, L, .inl xs)) (z := (xcl[10]?).get rfl) (ty := (xtys[10]?).get rfl) rfl rfl rfl
  obtain ⟨o, w1, H1, ph1, hp1, hX1, hR1, hE1, hF1, v, rfl, rfl, F, T, e1, hT, hfl, hdi, m1, m2⟩ := c_new (d := 643) (w := w10) (H := h00) (x := 1) ⟨rfl, rfl⟩ (by decide) (fun k h => h.1) ph10 _ hR2
  have hj : jfn 10 = 4 := rfl
  have a1 : w10.2.1 = 2 := rfl
  have a2 : w10.2.2 = jfn 10 := rfl
  have s0 : hp1[0]? = some (.inl (0, L, .inl xs)) := by
    refine (hF1 0 (by decide) fun k q h he => ?_).trans rfl
    have := hR2.2.2.2.1 k q h
    omega
  obtain ⟨ph2, H2, hp2, hX2, hR2', hG, hz, hC, e11, hold⟩ := r_new (d := 343) hR1 hT
  have l1 : w1.2.1 = hp1.length := hR1.2.2.2.2.2.1
  have l2 : w1.2.1 + 58 = hp2.length := hR2'.2.2.2.2.2.1
  have p1 : 0 < w1.2.1 := hR1.2.2.2.2.2.2.2.1
  obtain ⟨po, hpo⟩ : ∃ po, hp2.length = po + 1 := ⟨hp2.length - 1, by omega⟩
  have hR3 := hR2'.skip (.inl (2, 1, .inr (.inl fun _ => 0))) (w1.2.2 + 66 + 370739 + 1)
  refine ⟨F, po, fun _ => 0, ph2, (w1.1, w1.2.1 + 58 + 1, w1.2.2 + 66 + 370739 + 1), hMix H2 H1, hp2 ++ [.inl (2, 1, .inr (.inl fun _ => 0))], ⟨⟨hR3, hG, T, hC.up fun _ _ h => h⟩, fun n a b => ⟨hfl n a b, hz n⟩, hdi, ?_, ?_, fun k q h he => ?_, ?_, ?_, ?_⟩, fun r hr => ?_⟩
  · rw [List.getElem?_append_left (by omega), hold 0 (by omega)]
    exact s0
  · rw [← hpo, List.getElem?_append_right (Nat.le_refl _), Nat.sub_self]
    rfl
  · have h9 := hR2'.lt (k := k) (p := q) h
    omega
  · show po + 1 < w1.2.1 + 58 + 1
    omega
  · have m1 : ((w1.2.1 : Nat) : Int) - 2 * H1.1 7 4 F.2.2.1 - 13 * H1.1 3 1 F.2.1 - H1.1 3 3 F.2.1 ≤ w10.2.1 + 400 := m1
    show ((w1.2.1 + 58 + 1 : Nat) : Int) - 2 * H1.1 7 4 F.2.2.1 - 13 * H1.1 3 1 F.2.1 - H1.1 3 3 F.2.1 ≤ 2000 + ((0 : Nat) : Int)
    omega
  · have m2 : ((w1.2.2 : Nat) : Int) - 18 * H1.1 7 4 F.2.2.1 - 700 * H1.1 3 1 F.2.1 - 6 * H1.1 3 3 F.2.1 ≤ w10.2.2 + 40000 := m2
    show ((w1.2.2 + 66 + 370739 + 1 : Nat) : Int) - 18 * H1.1 7 4 F.2.2.1 - 700 * H1.1 3 1 F.2.1 - 6 * H1.1 3 3 F.2.1 ≤ 500000 + 10 * ((0 : Nat) : Int)
    omega
  · refine X.nw rfl rfl rfl rfl rfl ?_
    refine X.run 1 rfl ?_
    refine X.ini rfl rfl rfl (by decide) rfl rfl rfl rfl rfl rfl hX1 ?_
    refine X.run 1 rfl ?_
    refine X.nw rfl rfl rfl rfl rfl ?_
    refine X.run 1 rfl ?_
    refine X.ini rfl rfl rfl (by decide) rfl rfl rfl rfl rfl rfl hX2 ?_
    refine X.run 1 rfl ?_
    refine X.run 1 rfl ?_
    refine X.nal rfl rfl (by decide) (by decide) ?_
    refine X.run 1 rfl ?_
    refine X.run 2 rfl ?_
    rw [e11, ← hpo, e1] at hr
    exact hr
/-- the law -/
theorem x_law448 (L : Nat) (xs : Nat → Int32) (hL : L ≤ 448) : ∃ (hp' : List xC) (ks' : Nat), X 650 191 (0, [(0, .ref 0)], [], [.inl (0, L, .inl xs)], 0) (.inl (some (.int 1)), hp', ks') ∧ hp'.length - 1 ≤ 600128 ∧ ks' ≤ 7301098 := by
  obtain ⟨F, po, g, ph, w, H, hp, hI, hgo⟩ := l_start L xs
  obtain ⟨hp', ks', hX, b1, b2⟩ := l_loop (a := ph 11 0) hL 64 0 (by omega) (by omega) _ _ _ _ _ _ (Int32.ofInt 0) _ hI rfl rfl (Or.inl rfl)
  exact ⟨hp', ks', hgo _ hX, b1, b2⟩
end TZ
