/-! the law: its beginning, its end -/
section TG
variable {d : Nat} {hp : List xC} {ks : Nat} {xs : Nat → Int32}
theorem lg_self (x : Int64) : lg_cmp x x = 0 := by
  unfold lg_cmp
  simp
set_option maxRecDepth 20000 in
theorem l_end {r1 r2 r3 : Nat} {i5 i6 : Int32} (h0 : hp[0]? = some (.inl (0, 7, .inl xs))) (lv : xL) (hlv : lv = [(6, .int i6), (5, .int i5), (4, .int (Int32.ofInt 0)), (3, .ref r3), (2, .ref r2), (1, .ref r1), (0, .ref 0)] ∨ lv = [(5, .int i5), (4, .int (Int32.ofInt 0)), (3, .ref r3), (2, .ref r2), (1, .ref r1), (0, .ref 0)] ∨ lv = [(4, .int (Int32.ofInt 0)), (3, .ref r3), (2, .ref r2), (1, .ref r1), (0, .ref 0)]) : X (d + 1) 191 (1334, lv, [], hp, ks) (.inl (some (.int 1)), hp, ks) := by
  rcases hlv with rfl | rfl | rfl
  all_goals
    refine X.run 1 rfl ?_
    refine X.run 1 rfl ?_
    refine X.run 1 rfl ?_
    refine X.run 1 rfl ?_
    refine X.len rfl rfl h0 (by decide) ?_
    refine X.run 2 rfl ?_
    refine X.icmp rfl rfl rfl (fun _ => ?_) (fun hc => absurd hc (by decide))
    refine X.run 1 rfl ?_
    exact X.ret (q := (xmts[191]?).get rfl) ⟨rfl, rfl, rfl, rfl⟩ rfl
theorem and31 (x : Int32) : ∃ n : Nat, n < 32 ∧ (x &&& (Int8.ofInt 31).toInt32).toInt = (n : Int) := by
  refine ⟨(x &&& (Int8.ofInt 31).toInt32).toBitVec.toNat, ?_, ?_⟩
  · show (x.toBitVec &&& 31#32).toNat < 32
    rw [BitVec.toNat_and]
    exact Nat.lt_of_le_of_lt Nat.and_le_right (by decide)
  · show (x.toBitVec &&& 31#32).toInt = ((x.toBitVec &&& 31#32).toNat : Int)
    refine BitVec.toInt_eq_toNat_of_lt ?_
    rw [BitVec.toNat_and]
    have h : x.toBitVec.toNat &&& (31#32).toNat ≤ 31 := Nat.and_le_right
    omega
/-- the picture of the script and one new object of the class -/
def w10 : jW := (fun k p => k = 10 ∧ p = 1, 2, jfn 10)
def h00 : jH := (fun _ _ _ => 0, fun _ _ _ => none, fun _ _ _ => 0, fun _ _ _ => none, fun _ _ _ => 0)
def ph10 : Nat → Nat → Nat := fun k p => if jdr k = true then p else 0
theorem jRep.two (x : xC) {z : vw_C} {ty : Nat → FieldType} (hz : xcl[10]? = some z) (hty : xtys[10]? = some ty) (hn : z.2.2 = jfn 10) : jRep false ph10 w10 h00 ([x] ++ [.inr (10, (List.range z.2.2).map fun j => defaultValue (ty j))]) := by
  have one : ∀ {k p}, jD false w10 k p → k = 10 ∧ p = 1 := fun {k p} h => by
    unfold jD at h
    split at h
    · cases h.1
    · exact h
  have hcell : (List.range z.2.2).map (fun j => defaultValue (ty j)) = (List.range (jfn 10)).map (jfv ph10 h00 10 1) := by
    rw [hn]
    exact List.map_congr_left fun j hj => jdef_ok rfl hty (List.mem_range.mp hj) ⟨rfl, rfl, rfl⟩ fun k h1 h2 => by
      unfold ph10
      rw [if_neg (by rw [h1]; decide)]
  refine ⟨fun c p _ h => ?_, fun k p t n tk hk h => ?_, fun k p k' p' h h' _ => ?_, fun k p h => ?_, fun k p h => if_pos h, rfl, fun p h => absurd h.1 (by decide), by decide, fun k p h => ?_⟩
  · obtain ⟨rfl, rfl⟩ := one h
    show some (Sum.inr (10, (List.range z.2.2).map fun j => defaultValue (ty j)) : xC) = _
    rw [hcell]
  · obtain ⟨rfl, rfl⟩ := one h
    cases hk
  · obtain ⟨rfl, rfl⟩ := one h
    obtain ⟨rfl, rfl⟩ := one h'
    exact ⟨rfl, rfl⟩
  · obtain ⟨rfl, rfl⟩ := one h
    decide
  · obtain ⟨rfl, rfl⟩ := h
    exact ⟨by decide, rfl⟩
set_option maxRecDepth 20000 in
theorem l_start (L : Nat) (xs : Nat → Int32) : ∃ (F : cF) (ph : Nat → Nat → Nat) (w : jW) (H : jH) (hp : List xC) (po : Nat) (g : Nat → Int64), lRy ph w H hp L xs po g ∧ fRm F ∧ cRest F w (zc 16) H ∧ ∀ r, X 100 191 (23, [(4, .int (Int32.ofInt 0)), (3, .ref (po + 1)), (2, .ref (ph 11 0)), (1, .ref (fX F)), (0, .ref 0)], [], hp, w.2.2) r → X 100 191 (0, [(0, .ref 0)], [], [.inl (0, L, .inl xs)], 0) r := by
  have hz0 := zc_inv 16 (Nat.le_refl _)
  have hR2 := jRep.two (.inl (0, L, .inl xs)) (z := (xcl[10]?).get rfl) (ty := (xtys[10]?).get rfl) rfl rfl rfl
  obtain ⟨o, w1, H1, ph1, hp1, hX1, hR1, hE1, hF1, v, rfl, rfl, F, e1, e2, e3, hC1⟩ := c_init (b := false) (d := 93) (w := w10) (H := h00) (x := 1) ⟨rfl, rfl⟩ (fun k h => h.1) ph10 _ hR2
  have hrm : w1.2.1 ≤ 246 ∧ w1.2.2 ≤ 42044 + jfn 10 := by
    obtain ⟨je, ⟨mp, bp, sp, hP⟩, -⟩ := hC1
    obtain ⟨r1, r2⟩ := hP.2.2.2.2
    rw [e2, zM16, zB16] at r1
    rw [e3, zM16, zB16] at r2
    have a1 : w10.2.1 = 2 := rfl
    have a2 : w10.2.2 = jfn 10 := rfl
    omega
  have hj : jfn 10 = 4 := rfl
  have s0 : hp1[0]? = some (.inl (0, L, .inl xs)) := by
    refine (hF1 0 (by decide) fun k q h he => ?_).trans rfl
    have := hR2.2.2.2.1 k q h
    omega
  obtain ⟨ph2, w2, H2, hp2, hX2, hR2', hI2, hC2, rfl, e11, ho, hold⟩ := r_init (d := 90) hR1 hC1
  have l1 : w1.2.1 = hp1.length := hR1.2.2.2.2.2.1
  have l2 : w1.2.1 + 58 = hp2.length := hR2'.2.2.2.2.2.1
  have p1 : 0 < w1.2.1 := hR1.2.2.2.2.2.2.2.1
  obtain ⟨po, hpo⟩ : ∃ po, hp2.length = po + 1 := ⟨hp2.length - 1, by omega⟩
  have f17 : ∀ G : cF, fO (fGr G 2000 500000) 17 = 2000 := fun _ => rfl
  have f16 : ∀ G : cF, fO (fGr G 2000 500000) 16 = 500000 := fun _ => rfl
  have hC3 := hC2 2000 500000 ⟨by rw [f17]; show w1.2.1 + 58 ≤ _; omega, by rw [f16]; show w1.2.2 + 66 + 370739 ≤ _; omega⟩
  have hC4 := hC3.gr (a := 2000) (c := 500000) (w' := (w1.1, w1.2.1 + 58 + 1, w1.2.2 + 66 + 370739 + 1)) (H' := H2) (jK.refl _ _ _) (fun _ _ h => h) ⟨by rw [f17]; show w1.2.1 + 58 + 1 ≤ _; omega, by rw [f16]; show w1.2.2 + 66 + 370739 + 1 ≤ _; omega⟩
  have hR3 := hR2'.skip (.inl (2, 1, .inr (.inl fun _ => 0))) (w1.2.2 + 66 + 370739 + 1)
  refine ⟨_, ph2, _, H2, hp2 ++ [.inl (2, 1, .inr (.inl fun _ => 0))], po, fun _ => 0, ⟨⟨hR3, hI2⟩, ?_, ?_, fun k q h he => ?_, ?_⟩, ⟨Nat.le_refl _, Nat.le_refl _⟩, hC4, fun r hr => ?_⟩
  · rw [List.getElem?_append_left (by omega), hold 0 (by omega)]
    exact s0
  · rw [← hpo, List.getElem?_append_right (Nat.le_refl _), Nat.sub_self]
    rfl
  · have h9 := hR2'.lt (k := k) (p := q) h
    omega
  · show po + 1 < w1.2.1 + 58 + 1
    omega
  · refine X.nw rfl rfl rfl rfl rfl ?_
    refine X.run 1 rfl ?_
    refine X.ini rfl rfl rfl (by decide) rfl rfl rfl rfl rfl rfl hX1 ?_
    refine X.run 1 rfl ?_
    refine X.nw rfl rfl rfl rfl rfl ?_
    refine X.run 1 rfl ?_
    refine X.ini rfl rfl rfl (by decide) rfl rfl rfl rfl rfl rfl hX2 ?_
    refine X.run 1 rfl ?_
    refine X.run 1 rfl ?_
    refine X.nal rfl rfl (by decide) (by decide) ?_
    refine X.run 1 rfl ?_
    refine X.run 2 rfl ?_
    rw [e11, ← hpo, show fX (fGr (fGr F 2000 500000) 2000 500000) = 1 from e1] at hr
    exact hr
end TG
