/-! the picture of a new reference -/
section RY
variable {ph : Nat → Nat → Nat} {w : jW} {H : jH} {hp : List xC}
def rOffT : List Nat := [1, 2, 3, 4, 0, 5, 6, 7, 8, 9, 10, 11, 0, 12, 13, 14, 15, 16, 17, 0, 18, 19, 20, 21, 22, 23, 24, 25, 26, 27, 28, 29, 30, 31, 32, 33, 34, 35, 36, 37, 38, 39, 40, 41, 42, 0, 0, 0, 0, 43, 44, 45, 46, 47, 48, 49, 0, 0, 50, 51, 52, 53, 54, 55, 56, 57]
def rOff (k : Nat) : Nat := match Nat.ble 50 k with
  | true => (match rOffT[k - 50]? with
    | some x => x
    | none => 0)
  | false => 0
def rPh (ph : Nat → Nat → Nat) (n : Nat) : Nat → Nat → Nat := fun k p => match jcn k with
  | true => n + rOff k
  | false => ph k p
def rH (H : jH) : jH := (fun c j p => match Nat.beq c 11 with
  | true => (match Nat.beq j 48 with
    | true => -1
    | false => 0)
  | false => H.1 c j p, H.2.1, fun k p i => match jcn k with
  | true => 0
  | false => H.2.2.1 k p i, H.2.2.2.1, H.2.2.2.2)
/-- what the table of rows says -/
def rCk : Bool := (List.range jrt.length).all fun k => match jcn k, jrk k with
  | true, some (t, n, _) => Nat.ble t 1 && Nat.ble 1 (rOff k) && (match rT[rOff k - 1]? with
    | some z => Nat.beq z.2.1 t && decide ((z.2.2 : Int) = n) && !(Nat.beq k 42) && Nat.ble 50 k
    | none => false)
  | true, none => Nat.beq k 11
  | _, _ => true
set_option maxRecDepth 20000 in
theorem rCk_ok : rCk = true := by decide +kernel
def rCi : Bool := (List.range jrt.length).all fun k => (List.range jrt.length).all fun k' => !(jcn k && jcn k' && Nat.beq (rOff k) (rOff k')) || Nat.beq k k'
set_option maxRecDepth 20000 in
theorem rCi_ok : rCi = true := by decide +kernel
theorem jcn_lt {k : Nat} (h : jcn k = true) : k < jrt.length := by
  unfold jcn at h
  rw [Bool.or_eq_true] at h
  rcases h with h | h
  · rw [Nat.eq_of_beq_eq_true h]
    decide
  · rw [Bool.and_eq_true] at h
    obtain ⟨z, hz⟩ := Option.isSome_iff_exists.mp h.2
    unfold jrk at hz
    split at hz
    · rename_i z' h'
      exact (List.getElem?_eq_some_iff.mp h').1
    · cases hz
theorem rPh_c {k : Nat} (h : jcn k = true) (n p : Nat) : rPh ph n k p = n + rOff k := by
  unfold rPh
  rw [h]
theorem rPh_o {k : Nat} (h : jcn k = false) (n : Nat) : rPh ph n k = ph k := by
  funext p
  unfold rPh
  rw [h]
theorem jD_c {b : Bool} {k p : Nat} (h : jcn k = true) : jD b w k p ↔ b = true ∧ p = 0 := by
  unfold jD
  rw [h]
theorem jdr_cn {k : Nat} (h : jdr k = true) : jcn k = false := by
  cases hc : jcn k with
  | false => rfl
  | true =>
    exfalso
    unfold jdr at h
    unfold jcn at hc
    simp only [Bool.or_eq_true, Bool.and_eq_true] at h hc
    have h1 : k ≤ 10 ∨ k = 42 ∨ k = 43 := by
      rcases h with (h | h) | h
      · exact Or.inl (Nat.le_of_ble_eq_true h)
      · exact Or.inr (Or.inl (Nat.eq_of_beq_eq_true h))
      · exact Or.inr (Or.inr (Nat.eq_of_beq_eq_true h))
    have h2 : k = 11 ∨ 50 ≤ k := by
      rcases hc with h | h
      · exact Or.inl (Nat.eq_of_beq_eq_true h)
      · exact Or.inr (Nat.le_of_ble_eq_true h.1)
    omega
theorem rFs_ok (a : Nat) : rF8 a = (List.range (jfn 11)).map (jfv (rPh ph (a + 1)) (rH H) 11 0) := rfl
theorem r_rep (hR : jRep false ph w H hp) {a s : Nat} (ha : hp.length = a + 1) : jRep true (rPh ph hp.length) (w.1, w.2.1 + 58, s) (rH H) (hp ++ .inr (11, rF8 a) :: rRows) := by
  obtain ⟨r1, r2, r3, r4, r5, r6, r7, r8⟩ := hR
  have hlt : ∀ {k p}, jD false w k p → ph k p < hp.length := fun h => jRep.lt ⟨r1, r2, r3, r4, r5, r6, r7, r8⟩ h
  have old : ∀ {k p}, jcn k = false → jD true (w.1, w.2.1 + 58, s) k p → jD false w k p := fun {k p} hc h => (jD_w hc).mpr ((jD_w hc).mp h)
  have hck := fun k (h : jcn k = true) => List.all_eq_true.mp rCk_ok k (List.mem_range.mpr (jcn_lt h))
  refine ⟨fun c p hc hD => ?_, fun k p t n tk hk hD => ?_, fun k p k' p' hD hD' he => ?_, fun k p hD => ?_, fun k p hk => ?_, ?_, fun p hp42 => ?_, ?_⟩
  · by_cases h11 : c = 11
    · subst h11
      obtain ⟨-, rfl⟩ := (jD_c rfl).mp hD
      rw [rPh_c rfl, List.getElem?_append_right (Nat.le_add_right _ _), Nat.add_sub_cancel_left, ha, ← rFs_ok a]
      rfl
    · have hcn := jcn_lo (c := c) (Nat.ble_eq_true_of_le (by omega))
      have hD0 := old hcn hD
      rw [rPh_o hcn, List.getElem?_append_left (hlt hD0), r1 c p hc hD0]
      congr 3
      congr 1
      symm
      refine jfv_eq (fun j => ⟨?_, rfl, rfl⟩) (fun j k hj => ?_) (fun k hk => rPh_o (jdr_cn hk) _)
      · show (match Nat.beq c 11 with
          | true => (match Nat.beq j 48 with
            | true => -1
            | false => 0)
          | false => H.1 c j p) = _
        have : Nat.beq c 11 = false := by
          cases hb : Nat.beq c 11 with
          | false => rfl
          | true => exact absurd (Nat.eq_of_beq_eq_true hb) h11
        rw [this]
      · have h9 := jT2_at hj
        rw [hj] at h9
        have hb : Nat.beq c 11 = false := by
          cases hb : Nat.beq c 11 with
          | false => rfl
          | true => exact absurd (Nat.eq_of_beq_eq_true hb) h11
        simp only [hb, Bool.false_or, Bool.and_eq_true, Bool.not_eq_true'] at h9
        rw [rPh_o h9.2]
  · cases hc : jcn k with
    | true =>
      obtain ⟨-, rfl⟩ := (jD_c hc).mp hD
      have h9 := hck k hc
      rw [hc, hk] at h9
      simp only [Bool.and_eq_true] at h9
      obtain ⟨⟨g1, g2⟩, g3⟩ := h9
      have g1 := Nat.le_of_ble_eq_true g1
      have g2 := Nat.le_of_ble_eq_true g2
      cases hz : rT[rOff k - 1]? with
      | none => rw [hz] at g3; cases g3
      | some z =>
        rw [hz] at g3
        simp only [Bool.and_eq_true, decide_eq_true_eq, Bool.not_eq_true'] at g3
        obtain ⟨⟨⟨g4, g5⟩, g6⟩, g7⟩ := g3
        have g4 := Nat.eq_of_beq_eq_true g4
        rw [rPh_c hc, List.getElem?_append_right (Nat.le_add_right _ _), Nat.add_sub_cancel_left, show rOff k = (rOff k - 1) + 1 by omega, List.getElem?_cons_succ]
        unfold rRows
        rw [List.getElem?_map, hz]
        have ev : (fun i : Nat => Int32.ofInt ((rH H).2.2.1 k 0 i)) = fun _ => (0 : Int32) := by
          funext i
          show Int32.ofInt (match jcn k with
            | true => 0
            | false => H.2.2.1 k 0 i) = 0
          rw [hc]
          rfl
        have el : (jlen (rH H) k 0 n).toNat = z.2.2 := by
          unfold jlen
          rw [g6]
          show n.toNat = _
          omega
        show some (Sum.inl (z.2.1, z.2.2, Sum.inl fun _ => (0 : Int32))) = some (jrw (rPh ph hp.length) (rH H) k 0 t n tk)
        have ht : t = 0 ∨ t = 1 := by omega
        rcases ht with rfl | rfl
        · show _ = some (Sum.inl (0, (jlen (rH H) k 0 n).toNat, Sum.inl fun i : Nat => Int32.ofInt ((rH H).2.2.1 k 0 i)))
          rw [ev, el, g4]
        · show _ = some (Sum.inl (1, (jlen (rH H) k 0 n).toNat, Sum.inl fun i : Nat => Int32.ofInt ((rH H).2.2.1 k 0 i)))
          rw [ev, el, g4]
    | false =>
      have hD0 := old hc hD
      rw [rPh_o hc, List.getElem?_append_left (hlt hD0), r2 k p t n tk hk hD0]
      congr 1
      symm
      refine jrw_eq hk ⟨rfl, ?_, rfl⟩ (fun k hk => rPh_o (jdr_cn hk) _)
      funext i
      show (match jcn k with
        | true => 0
        | false => H.2.2.1 k p i) = _
      rw [hc]
  · cases hc : jcn k with
    | true =>
      cases hc' : jcn k' with
      | true =>
        obtain ⟨-, rfl⟩ := (jD_c hc).mp hD
        obtain ⟨-, rfl⟩ := (jD_c hc').mp hD'
        rw [rPh_c hc, rPh_c hc'] at he
        have h9 := List.all_eq_true.mp (List.all_eq_true.mp rCi_ok k (List.mem_range.mpr (jcn_lt hc))) k' (List.mem_range.mpr (jcn_lt hc'))
        have e : rOff k = rOff k' := by omega
        rw [hc, hc', e] at h9
        simp at h9
        exact ⟨h9, rfl⟩
      | false =>
        have := hlt (old hc' hD')
        rw [rPh_c hc, rPh_o hc'] at he
        omega
    | false =>
      cases hc' : jcn k' with
      | true =>
        have := hlt (old hc hD)
        rw [rPh_o hc, rPh_c hc'] at he
        omega
      | false =>
        rw [rPh_o hc, rPh_o hc'] at he
        exact r3 k p k' p' (old hc hD) (old hc' hD') he
  · cases hc : jcn k with
    | true => rw [rPh_c hc]; omega
    | false => rw [rPh_o hc]; exact r4 k p (old hc hD)
  · rw [rPh_o (jdr_cn hk)]
    exact r5 k p hk
  · show w.2.1 + 58 = _
    rw [List.length_append, List.length_cons, r6]
    rfl
  · exact r7 p hp42
  · exact ⟨Nat.lt_of_lt_of_le r8.1 (Nat.le_add_right _ _), fun k p h => ⟨Nat.lt_of_lt_of_le (r8.2 k p h).1 (Nat.le_add_right _ _), (r8.2 k p h).2⟩⟩
end RY
