/-! a row is cloned -/
section JCL
variable {b : Bool} {d k : Nat} {w : jW} {H : jH} {pc : Nat} {lv : jL} {st : List jV} {q : xMt} {Post : jO → jW → jH → Prop}
def jNc (H' H : jH) (p : Nat) (n : Int) (f : Int → Int) : Prop := (∀ c j p', ¬ (c = 42 ∧ p' = p) → H'.1 c j p' = H.1 c j p') ∧ (H'.1 42 0 p = n) ∧ H'.2.1 = H.2.1 ∧ H'.2.2.2.2 = H.2.2.2.2 ∧ H'.2.2.2.1 = H.2.2.2.1 ∧ (∀ k' p', ¬ (k' = 42 ∧ p' = p) → H'.2.2.1 k' p' = H.2.2.1 k' p') ∧ H'.2.2.1 42 p = f
theorem J.cln {k1 p1 tk1 : Nat} {n1 n : Int} (hq : xmts[k]? = some q) (hi : xat k pc = some (.invokevirtual 316, 3)) (hi2 : xat k (pc + 3) = some (.checkcast 317, 3)) (hoc : q.1 = 13) (hl : xlk xivs q.1 316 = none) (ht : xthr k pc = none) (ht2 : xthr k (pc + 3) = none) (h1 : jrk k1 = some (0, n1, tk1)) (hD1 : jD b w k1 p1) (hn : jlen H k1 p1 n1 = n) (h0 : 0 ≤ n ∧ n ≤ 1000000) (hr : Nat.ble st.length 8 = true) (hst : jstP b w lv st)
    (hx : ∀ H', jNc H' H w.2.1 n (H.2.2.1 k1 p1) → jwc w → J b d k (jwA w 42 w.2.1 n.toNat) (pc + 3 + 3, lv, .inr (some (42, w.2.1)) :: st, H') Post) : J b d k w (pc, lv, .inr (some (k1, p1)) :: st, H) Post := by
  intro ph hp hR
  have hR : jRep b ph w H hp := hR
  have hwc := hR.2.2.2.2.2.2.2
  have hle := hR.2.2.2.2.2.1
  have hN : jNc (jupF H.1 42 0 w.2.1 n, H.2.1, jsetR H.2.2.1 42 w.2.1 (H.2.2.1 k1 p1), H.2.2.2) H w.2.1 n (H.2.2.1 k1 p1) :=
    ⟨fun c j p' h => jupF_ne fun z => h ⟨z.1, z.2.2⟩, if_pos rfl, rfl, rfl, rfl, fun k' p' h => jsetR_ne h, if_pos rfl⟩
  generalize hH' : (jupF H.1 42 0 w.2.1 n, H.2.1, jsetR H.2.2.1 42 w.2.1 (H.2.2.1 k1 p1), H.2.2.2) = H' at hN
  have hpc : ph 42 w.2.1 = hp.length := by rw [hR.2.2.2.2.1 42 _ rfl, hle]
  have hold : ∀ {k' p'}, jD b w k' p' → ¬ (k' = 42 ∧ p' = w.2.1) := fun {k' p'} h e => by
    have := (hwc.2 k' p' ((jD_w (by rw [e.1]; rfl)).mp h)).1
    omega
  have hrow : ∀ t m tk, jrk 42 = some (t, m, tk) → jrw ph H' 42 w.2.1 t m tk = .inl (0, n.toNat, .inl fun i => Int32.ofInt (H.2.2.1 k1 p1 i)) := by
    intro t m tk hk
    cases hk
    show Sum.inl (0, (H'.1 42 0 w.2.1).toNat, Sum.inl fun i : Nat => Int32.ofInt (H'.2.2.1 42 w.2.1 i)) = _
    rw [hN.2.1, hN.2.2.2.2.2.2]
  have hc0 : hp[ph k1 p1]? = some (.inl (0, n.toNat, .inl fun i => Int32.ofInt (H.2.2.1 k1 p1 i))) := by
    have h9 := hR.2.1 k1 p1 0 n1 tk1 h1 hD1
    rw [h9]
    show some (Sum.inl (0, (jlen H k1 p1 n1).toNat, _)) = _
    rw [hn]
  have hadd := hR.add (kd := 42) (p0 := w.2.1) (s := n.toNat) (hp' := hp ++ [.inl (0, n.toNat, .inl fun i => Int32.ofInt (H.2.2.1 k1 p1 i))]) (H' := H') (ph' := ph) rfl rfl (Nat.le_refl _) hpc (fun _ _ _ => rfl) (fun _ _ _ => rfl) (fun _ => hle) (by rw [List.length_append]; rfl) ?_ ?_ ?_ ?_ ?_
  · obtain ⟨hR', hE⟩ := hadd
    obtain ⟨o, w2, H2, ph2, hp2, hX, hR2, hE2, hF2, hP⟩ := hx H' hN hwc ph _ hR'
    have hF : jF b ph w hp (hp ++ [.inl (0, n.toNat, .inl fun i => Int32.ofInt (H.2.2.1 k1 p1 i))]) := fun p hp0 _ => List.getElem?_append_left (by rw [← hle]; exact hp0)
    refine ⟨o, w2, H2, ph2, hp2, ?_, hR2, hE.trans hE2, jF.trans hE hF hF2, hP⟩
    obtain ⟨a, ha⟩ : ∃ a, ph k1 p1 = a + 1 := ⟨ph k1 p1 - 1, by have := hR.2.2.2.1 k1 p1 hD1; omega⟩
    obtain ⟨a2, ha2⟩ : ∃ a, hp.length = a + 1 := ⟨hp.length - 1, by have := hwc.1; omega⟩
    rw [ha] at hc0
    have hcat : xcat (st.map (jm ph)) ≤ 8 := by rw [jcat_ok]; exact Nat.le_of_ble_eq_true hr
    refine X.cln (g := (pc, jml ph lv, .ref (ph k1 p1) :: st.map (jm ph), hp, w.2.2)) (q := q) (i := .invokevirtual 316) (len := 3) (st' := .ref hp.length :: st.map (jm ph)) (rows := [.inl (0, n.toNat, .inl fun i => Int32.ofInt (H.2.2.1 k1 p1 i))]) (n1 := n.toNat) ⟨hq, hi, ?_, ?_⟩ ?_ ?_ ht ?_ ?_
    · simp only [xs, xs1, xs6, xs5, xs4, xs7, xs8, show ¬ ((3 : Nat) = 1) by decide, if_false]
    · simp only [xs9]
    · simp only [xret]
    · simp only [xcall, hl]
    · rw [ha]
      simp only [xsA]
      rw [if_pos ⟨trivial, hoc, trivial, hcat⟩, hc0]
      rfl
    refine X.cln (g := (pc + 3, jml ph lv, .ref hp.length :: st.map (jm ph), hp ++ [.inl (0, n.toNat, .inl fun i => Int32.ofInt (H.2.2.1 k1 p1 i))], w.2.2 + n.toNat)) (q := q) (i := .checkcast 317) (len := 3) (st' := .ref hp.length :: st.map (jm ph)) (rows := []) (n1 := 0) ⟨hq, hi2, ?_, ?_⟩ ?_ ?_ ht2 ?_ ?_
    · simp only [xs, xs1, xs6, xs5, xs4, xs7, xs8, show ¬ ((3 : Nat) = 1) by decide, if_false]
    · simp only [xs9]
    · simp only [xret]
    · simp only [xcall]
    · have hc1 : (hp ++ [.inl (0, n.toNat, .inl fun i => Int32.ofInt (H.2.2.1 k1 p1 i))] : List xC)[a2 + 1]? = some (.inl (0, n.toNat, .inl fun i => Int32.ofInt (H.2.2.1 k1 p1 i))) := by
        rw [← ha2, List.getElem?_append_right (Nat.le_refl _), Nat.sub_self]
        rfl
      show xsA q.1 (.checkcast 317) 3 (.ref hp.length :: _) _ = _
      rw [ha2]
      simp only [xsA]
      rw [if_pos ⟨trivial, hoc, trivial⟩, hc1]
      rfl
    try dsimp only
    rw [List.append_nil, Nat.add_zero, ← hpc]
    exact hX
  · intro c' p' hc' hD
    rw [List.getElem?_append_left (hR.lt hD), hR.1 c' p' hc' hD]
    have e : jfv ph H' c' p' = jfv ph H c' p' := jfv_eq (fun j => ⟨hN.1 c' j p' fun z => by omega, by rw [hN.2.2.1], by rw [hN.2.2.2.1]⟩) (fun _ _ _ => rfl) (fun _ _ => rfl)
    rw [e]
  · intro k' p' t m tk hk hD
    rw [List.getElem?_append_left (hR.lt hD), hR.2.1 k' p' t m tk hk hD]
    by_cases h42 : k' = 42
    · have hp' : ¬ p' = w.2.1 := fun e => by
        rw [h42] at hD
        have := (hwc.2 42 p' ((jD_w rfl).mp hD)).1
        omega
      rw [jrw_eq hk ⟨hN.1 42 0 p' fun z => hp' z.2, hN.2.2.2.2.2.1 k' p' (hold hD), by rw [hN.2.2.2.2.1]⟩ (fun _ _ => rfl)]
    · have e1 : Nat.beq k' 42 = false := by
        cases h : Nat.beq k' 42 with
        | false => rfl
        | true => exact absurd (Nat.eq_of_beq_eq_true h) h42
      unfold jrw jlen
      rw [e1, hN.2.2.2.2.2.1 k' p' (hold hD), hN.2.2.2.2.1]
  · intro h; omega
  · intro t m tk hk
    rw [List.getElem?_append_right (Nat.le_refl _), Nat.sub_self, hrow t m tk hk]
    rfl
  · rintro p (h | ⟨h, h2⟩)
    · have hlt := (hwc.2 42 p h).1
      rw [hN.1 42 0 p fun z => by omega]
      exact hR.2.2.2.2.2.2.1 p h
    · rw [h2, hN.2.1]
      omega
end JCL
