/-! the law's cases (printed by gen_cases.py) -/
section TH
variable {d : Nat} {w : jW} {H : jH}
theorem j_deliver_ {m n : Int} (hI : rInv (zc 16) H) (bm : jR m) (bn : jR n) : J true (d + 10) 149 w (0, jargs 0 [jT, .inl m, .inl n], [], H) (jN (rOut w (if isV m n then 0 else 1) ((zM (zcame (zc 16) m.toNat n.toNat) : Int) - zM (zc 16)))) := by
  refine J.post (j_deliver (zc_inv 16 (Nat.le_refl _)) hI bm bn) ?_
  rintro o w' H' ⟨v, rfl, hE⟩
  have e : ((0 ≤ m ∧ m ≤ (zM (zc 16) : Int) - 1) ∧ 0 ≤ n ∧ n ≤ 15) ↔ isV m n := by
    rw [zM16]
    omega
  refine ⟨v, rfl, ?_⟩
  by_cases h : isV m n
  · rw [if_pos (e.mpr h), if_pos (e.mpr h)] at hE
    rw [if_pos h]
    exact hE.out fun _ => rfl
  · rw [if_neg (fun z => h (e.mp z)), if_neg (fun z => h (e.mp z))] at hE
    rw [if_neg h]
    exact hE.out fun z => absurd z (by decide)
theorem j_spread_ {m many mask : Int} (hI : rInv (zc 16) H) (bm : jR m) (bn : jR many) (_ : jR mask) : J true (d + 10) 150 w (0, jargs 0 [jT, .inl m, .inl many, .inl mask], [], H) (jN (rOut w (sprK m many) ((zspr mask m.toNat many.toNat 0 (zc 16)).1 : Int))) := by
  refine J.post (j_spread (mask := mask) (zc_inv 16 (Nat.le_refl _)) hI bm bn) ?_
  rintro o w' H' ⟨v, rfl, hE⟩
  refine ⟨v, rfl, ?_⟩
  have hE' : rEnd w (if (1 ≤ many ∧ many ≤ 100) ∧ 0 ≤ m ∧ m ≤ zM (zc 16) then some ((zspr mask m.toNat many.toNat 0 (zc 16)).1 : Int) else none) (sprK m many) v w' H' := hE
  refine hE'.out fun hk => ?_
  unfold sprK at hk
  by_cases h1 : isS1 many
  · rw [if_pos h1] at hk
    by_cases h2 : isS2 m
    · exact if_pos ⟨h1, h2⟩
    · rw [if_neg h2] at hk
      cases hk
  · rw [if_neg h1] at hk
    cases hk
end TH
section TI
variable {d : Nat} {ph : Nat → Nat → Nat} {w : jW} {H : jH} {hp : List xC} {F : cF} {xs : Nat → Int32} {po : Nat} {g : Nat → Int64}
/-- the law's locals at a case -/
abbrev lv0 (F : cF) (ph : Nat → Nat → Nat) (po : Nat) : xL := [(4, .int (Int32.ofInt 0)), (3, .ref (po + 1)), (2, .ref (ph 11 0)), (1, .ref (fX F)), (0, .ref 0)]
/-- the case ends well -/
def lFin (d pc : Nat) (F : cF) (ph : Nat → Nat → Nat) (w : jW) (hp : List xC) (po : Nat) : Prop := ∃ (hp' : List xC) (ks' : Nat), X d 191 (pc, lv0 F ph po, [], hp, w.2.2) (.inl (some (.int 1)), hp', ks') ∧ hp'.length - 1 ≤ 30000 ∧ ks' ≤ 1000000
set_option maxRecDepth 20000 in
theorem lc_submit (hR : lRy ph w H hp 7 xs po g) (hF : fRm F) (hC : cRest F w (zc 16) H) : lFin (d + 11) 124 F ph w hp po := by
  obtain ⟨je, ⟨mp, bp, sp, hP⟩, -⟩ := id hC
  have hx : w.1 10 (fX F) := hP.1.1.1
  have hkc : ∃ k : Int, k = (if isT (xs ((Int32.ofInt 0 + Int32.ofInt 1).toNatClampNeg)).toInt (xs ((Int32.ofInt 0 + Int32.ofInt 2).toNatClampNeg)).toInt (xs ((Int32.ofInt 0 + Int32.ofInt 3).toNatClampNeg)).toInt (xs ((Int32.ofInt 0 + Int32.ofInt 4).toNatClampNeg)).toInt then 0 else 1) ∧ (k = 0 ∨ k = 1) := by
    refine ⟨_, rfl, ?_⟩
    by_cases h : isT (xs ((Int32.ofInt 0 + Int32.ofInt 1).toNatClampNeg)).toInt (xs ((Int32.ofInt 0 + Int32.ofInt 2).toNatClampNeg)).toInt (xs ((Int32.ofInt 0 + Int32.ofInt 3).toNatClampNeg)).toInt (xs ((Int32.ofInt 0 + Int32.ofInt 4).toNatClampNeg)).toInt
    · exact Or.inl (by rw [if_pos h])
    · exact Or.inr (by rw [if_neg h])
  obtain ⟨k, ek, hkc⟩ := hkc
  have hJ1 := c_submit (d := d + 3) hF hP (b := true) (i32R (xs ((Int32.ofInt 0 + Int32.ofInt 1).toNatClampNeg))) (i32R (xs ((Int32.ofInt 0 + Int32.ofInt 2).toNatClampNeg))) (i32R (xs ((Int32.ofInt 0 + Int32.ofInt 3).toNatClampNeg))) (i32R (xs ((Int32.ofInt 0 + Int32.ofInt 4).toNatClampNeg)))
  have hJ2 := fun (w : jW) (H : jH) (hI : rInv (zc 16) H) => j_submit (d := d) (w := w) (H := H) hI (i32R (xs ((Int32.ofInt 0 + Int32.ofInt 1).toNatClampNeg))) (i32R (xs ((Int32.ofInt 0 + Int32.ofInt 2).toNatClampNeg))) (i32R (xs ((Int32.ofInt 0 + Int32.ofInt 3).toNatClampNeg))) (i32R (xs ((Int32.ofInt 0 + Int32.ofInt 4).toNatClampNeg)))
  rw [← ek] at hJ1 hJ2
  have hh : k ≠ 0 → xhnd 174 9 12 = some (Int32.ofInt k) := fun hk => by
    rcases hkc with h | h
    · exact absurd h hk
    · rw [h]; rfl
  obtain ⟨w', H', ph', hp', g', hX1, hR', hg, e11, r1, r2⟩ := s_submit (d := d + 9) hR hx hJ1 hh
  obtain ⟨y, hp1, hp2, hX2, hy, ⟨fs1, h1⟩, hX3, z0, zo, zl, z1⟩ := l_ref (vs := [.ref (ph' 11 0), .int (xs ((Int32.ofInt 0 + Int32.ofInt 1).toNatClampNeg)), .int (xs ((Int32.ofInt 0 + Int32.ofInt 2).toNatClampNeg)), .int (xs ((Int32.ofInt 0 + Int32.ofInt 3).toNatClampNeg)), .int (xs ((Int32.ofInt 0 + Int32.ofInt 4).toNatClampNeg))]) hR' (by simp only [List.map_cons, List.map_nil, i32m]; rfl) (hJ2 _ _ hR'.1.2)
  obtain ⟨fs0, h11⟩ := hR'.at11
  rw [e11] at h1 h11 hX2 hX3
  have z7 : hp2[0]? = some (.inl (0, 7, .inl xs)) := z0.trans hR'.2.1
  refine ⟨hp2, w'.2.2, ?_, by rw [zl]; omega, r2⟩
  refine X.run 1 rfl ?_
  refine X.run 4 rfl ?_
  refine X.ial rfl rfl hR.2.1 rfl ?_
  refine X.run 4 rfl ?_
  refine X.ial rfl rfl hR.2.1 rfl ?_
  refine X.run 4 rfl ?_
  refine X.ial rfl rfl hR.2.1 rfl ?_
  refine X.run 4 rfl ?_
  refine X.ial rfl rfl hR.2.1 rfl ?_
  refine X.run 1 rfl ?_
  refine X.insL rfl rfl rfl (by decide) rfl rfl (by decide) rfl rfl rfl hX1 ?_
  refine X.run 2 rfl ?_
  refine X.run 4 rfl ?_
  refine X.ial rfl rfl hR'.2.1 rfl ?_
  refine X.run 4 rfl ?_
  refine X.ial rfl rfl hR'.2.1 rfl ?_
  refine X.run 4 rfl ?_
  refine X.ial rfl rfl hR'.2.1 rfl ?_
  refine X.run 4 rfl ?_
  refine X.ial rfl rfl hR'.2.1 rfl ?_
  refine X.inv rfl rfl rfl rfl rfl h11 rfl rfl rfl rfl hX2 ?_
  refine X.run 2 rfl ?_
  refine X.inv rfl rfl rfl rfl rfl h1 rfl rfl rfl rfl hX3 ?_
  refine X.run 1 rfl ?_
  refine X.icmp rfl rfl rfl (fun _ => ?_) (fun hc => absurd hc (by simp [xcmp]))
  refine X.run 1 rfl ?_
  rcases hkc with h | h
  · have e1 : g' 0 = (Int32.ofInt y).toInt64 := by rw [hy h]; exact hg h
    have e2 : lg_cmp (g' (Int32.ofInt 0).toNatClampNeg) ((Int32.ofInt y).toInt64) = 0 := by
      show lg_cmp (g' 0) _ = 0
      rw [e1]
      exact lg_self _
    rw [h]
    refine X.ifc rfl rfl rfl (fun hc => absurd hc (by decide)) (fun _ => ?_)
    refine X.run 2 rfl ?_
    refine X.lal rfl rfl (zo.trans hR'.2.2.1) rfl ?_
    refine X.run 3 rfl ?_
    refine X.ifc rfl rfl rfl (fun _ => ?_) (fun hc => absurd hc (by rw [e2]; decide))
    refine X.run 1 rfl ?_
    exact l_end z7 _ (Or.inl rfl)
  · rw [h]
    refine X.ifc rfl rfl rfl (fun _ => ?_) (fun hc => absurd hc (by decide))
    refine X.run 1 rfl ?_
    exact l_end z7 _ (Or.inl rfl)
set_option maxRecDepth 20000 in
theorem lc_fault (hR : lRy ph w H hp 7 xs po g) (hF : fRm F) (hC : cRest F w (zc 16) H) : lFin (d + 11) 216 F ph w hp po := by
  obtain ⟨je, ⟨mp, bp, sp, hP⟩, -⟩ := id hC
  have hx : w.1 10 (fX F) := hP.1.1.1
  have hkc : ∃ k : Int, k = (if 0 ≤ (xs ((Int32.ofInt 0 + Int32.ofInt 1).toNatClampNeg)).toInt ∧ (xs ((Int32.ofInt 0 + Int32.ofInt 1).toNatClampNeg)).toInt ≤ 15 then 0 else 1) ∧ (k = 0 ∨ k = 1) := by
    refine ⟨_, rfl, ?_⟩
    by_cases h : 0 ≤ (xs ((Int32.ofInt 0 + Int32.ofInt 1).toNatClampNeg)).toInt ∧ (xs ((Int32.ofInt 0 + Int32.ofInt 1).toNatClampNeg)).toInt ≤ 15
    · exact Or.inl (by rw [if_pos h])
    · exact Or.inr (by rw [if_neg h])
  obtain ⟨k, ek, hkc⟩ := hkc
  have hJ1 := c_fault (d := d + 3) hF hP (b := true) (i32R (xs ((Int32.ofInt 0 + Int32.ofInt 1).toNatClampNeg)))
  have hJ2 := fun (w : jW) (H : jH) (hI : rInv (zc 16) H) => j_fault (d := d) (w := w) (H := H) hI (i32R (xs ((Int32.ofInt 0 + Int32.ofInt 1).toNatClampNeg)))
  rw [← ek] at hJ1 hJ2
  have hh : k ≠ 0 → xhnd 175 4 14 = some (Int32.ofInt k) := fun hk => by
    rcases hkc with h | h
    · exact absurd h hk
    · rw [h]; rfl
  obtain ⟨w', H', ph', hp', g', hX1, hR', hg, e11, r1, r2⟩ := s_fault (d := d + 9) hR hx hJ1 hh
  obtain ⟨y, hp1, hp2, hX2, hy, ⟨fs1, h1⟩, hX3, z0, zo, zl, z1⟩ := l_ref (vs := [.ref (ph' 11 0), .int (xs ((Int32.ofInt 0 + Int32.ofInt 1).toNatClampNeg))]) hR' (by simp only [List.map_cons, List.map_nil, i32m]; rfl) (hJ2 _ _ hR'.1.2)
  obtain ⟨fs0, h11⟩ := hR'.at11
  rw [e11] at h1 h11 hX2 hX3
  have z7 : hp2[0]? = some (.inl (0, 7, .inl xs)) := z0.trans hR'.2.1
  refine ⟨hp2, w'.2.2, ?_, by rw [zl]; omega, r2⟩
  refine X.run 1 rfl ?_
  refine X.run 4 rfl ?_
  refine X.ial rfl rfl hR.2.1 rfl ?_
  refine X.run 1 rfl ?_
  refine X.insL rfl rfl rfl (by decide) rfl rfl (by decide) rfl rfl rfl hX1 ?_
  refine X.run 2 rfl ?_
  refine X.run 4 rfl ?_
  refine X.ial rfl rfl hR'.2.1 rfl ?_
  refine X.inv rfl rfl rfl rfl rfl h11 rfl rfl rfl rfl hX2 ?_
  refine X.run 2 rfl ?_
  refine X.inv rfl rfl rfl rfl rfl h1 rfl rfl rfl rfl hX3 ?_
  refine X.run 1 rfl ?_
  refine X.icmp rfl rfl rfl (fun _ => ?_) (fun hc => absurd hc (by simp [xcmp]))
  refine X.run 1 rfl ?_
  rcases hkc with h | h
  · have e1 : g' 0 = (Int32.ofInt y).toInt64 := by rw [hy h]; exact hg h
    have e2 : lg_cmp (g' (Int32.ofInt 0).toNatClampNeg) ((Int32.ofInt y).toInt64) = 0 := by
      show lg_cmp (g' 0) _ = 0
      rw [e1]
      exact lg_self _
    rw [h]
    refine X.ifc rfl rfl rfl (fun hc => absurd hc (by decide)) (fun _ => ?_)
    refine X.run 2 rfl ?_
    refine X.lal rfl rfl (zo.trans hR'.2.2.1) rfl ?_
    refine X.run 3 rfl ?_
    refine X.ifc rfl rfl rfl (fun _ => ?_) (fun hc => absurd hc (by rw [e2]; decide))
    refine X.run 1 rfl ?_
    exact l_end z7 _ (Or.inl rfl)
  · rw [h]
    refine X.ifc rfl rfl rfl (fun _ => ?_) (fun hc => absurd hc (by decide))
    refine X.run 1 rfl ?_
    exact l_end z7 _ (Or.inl rfl)
set_option maxRecDepth 20000 in
theorem lc_deliver (hR : lRy ph w H hp 7 xs po g) (hF : fRm F) (hC : cRest F w (zc 16) H) : lFin (d + 11) 272 F ph w hp po := by
  obtain ⟨je, ⟨mp, bp, sp, hP⟩, -⟩ := id hC
  have hx : w.1 10 (fX F) := hP.1.1.1
  have hkc : ∃ k : Int, k = (if isV (xs ((Int32.ofInt 0 + Int32.ofInt 1).toNatClampNeg)).toInt (xs ((Int32.ofInt 0 + Int32.ofInt 2).toNatClampNeg)).toInt then 0 else 1) ∧ (k = 0 ∨ k = 1) := by
    refine ⟨_, rfl, ?_⟩
    by_cases h : isV (xs ((Int32.ofInt 0 + Int32.ofInt 1).toNatClampNeg)).toInt (xs ((Int32.ofInt 0 + Int32.ofInt 2).toNatClampNeg)).toInt
    · exact Or.inl (by rw [if_pos h])
    · exact Or.inr (by rw [if_neg h])
  obtain ⟨k, ek, hkc⟩ := hkc
  have hJ1 := c_deliver (d := d + 3) hF hC (b := true) (i32R (xs ((Int32.ofInt 0 + Int32.ofInt 1).toNatClampNeg))) (i32R (xs ((Int32.ofInt 0 + Int32.ofInt 2).toNatClampNeg)))
  have hJ2 := fun (w : jW) (H : jH) (hI : rInv (zc 16) H) => j_deliver_ (d := d) (w := w) (H := H) hI (i32R (xs ((Int32.ofInt 0 + Int32.ofInt 1).toNatClampNeg))) (i32R (xs ((Int32.ofInt 0 + Int32.ofInt 2).toNatClampNeg)))
  rw [← ek] at hJ1 hJ2
  have hh : k ≠ 0 → xhnd 176 5 14 = some (Int32.ofInt k) := fun hk => by
    rcases hkc with h | h
    · exact absurd h hk
    · rw [h]; rfl
  obtain ⟨w', H', ph', hp', g', hX1, hR', hg, e11, r1, r2⟩ := s_deliver (d := d + 9) hR hx hJ1 hh
  obtain ⟨y, hp1, hp2, hX2, hy, ⟨fs1, h1⟩, hX3, z0, zo, zl, z1⟩ := l_ref (vs := [.ref (ph' 11 0), .int (xs ((Int32.ofInt 0 + Int32.ofInt 1).toNatClampNeg)), .int (xs ((Int32.ofInt 0 + Int32.ofInt 2).toNatClampNeg))]) hR' (by simp only [List.map_cons, List.map_nil, i32m]; rfl) (hJ2 _ _ hR'.1.2)
  obtain ⟨fs0, h11⟩ := hR'.at11
  rw [e11] at h1 h11 hX2 hX3
  have z7 : hp2[0]? = some (.inl (0, 7, .inl xs)) := z0.trans hR'.2.1
  refine ⟨hp2, w'.2.2, ?_, by rw [zl]; omega, r2⟩
  refine X.run 1 rfl ?_
  refine X.run 4 rfl ?_
  refine X.ial rfl rfl hR.2.1 rfl ?_
  refine X.run 4 rfl ?_
  refine X.ial rfl rfl hR.2.1 rfl ?_
  refine X.run 1 rfl ?_
  refine X.insL rfl rfl rfl (by decide) rfl rfl (by decide) rfl rfl rfl hX1 ?_
  refine X.run 2 rfl ?_
  refine X.run 4 rfl ?_
  refine X.ial rfl rfl hR'.2.1 rfl ?_
  refine X.run 4 rfl ?_
  refine X.ial rfl rfl hR'.2.1 rfl ?_
  refine X.inv rfl rfl rfl rfl rfl h11 rfl rfl rfl rfl hX2 ?_
  refine X.run 2 rfl ?_
  refine X.inv rfl rfl rfl rfl rfl h1 rfl rfl rfl rfl hX3 ?_
  refine X.run 1 rfl ?_
  refine X.icmp rfl rfl rfl (fun _ => ?_) (fun hc => absurd hc (by simp [xcmp]))
  refine X.run 1 rfl ?_
  rcases hkc with h | h
  · have e1 : g' 0 = (Int32.ofInt y).toInt64 := by rw [hy h]; exact hg h
    have e2 : lg_cmp (g' (Int32.ofInt 0).toNatClampNeg) ((Int32.ofInt y).toInt64) = 0 := by
      show lg_cmp (g' 0) _ = 0
      rw [e1]
      exact lg_self _
    rw [h]
    refine X.ifc rfl rfl rfl (fun hc => absurd hc (by decide)) (fun _ => ?_)
    refine X.run 2 rfl ?_
    refine X.lal rfl rfl (zo.trans hR'.2.2.1) rfl ?_
    refine X.run 3 rfl ?_
    refine X.ifc rfl rfl rfl (fun _ => ?_) (fun hc => absurd hc (by rw [e2]; decide))
    refine X.run 1 rfl ?_
    exact l_end z7 _ (Or.inl rfl)
  · rw [h]
    refine X.ifc rfl rfl rfl (fun _ => ?_) (fun hc => absurd hc (by decide))
    refine X.run 1 rfl ?_
    exact l_end z7 _ (Or.inl rfl)
set_option maxRecDepth 20000 in
theorem lc_spread (hR : lRy ph w H hp 7 xs po g) (hF : fRm F) (hC : cRest F w (zc 16) H) : lFin (d + 11) 340 F ph w hp po := by
  obtain ⟨je, ⟨mp, bp, sp, hP⟩, -⟩ := id hC
  have hx : w.1 10 (fX F) := hP.1.1.1
  have hkc : ∃ (k : Int) (c : Nat), k = (sprK (xs ((Int32.ofInt 0 + Int32.ofInt 1).toNatClampNeg)).toInt (xs ((Int32.ofInt 0 + Int32.ofInt 2).toNatClampNeg)).toInt) ∧ c = (if isS1 (xs ((Int32.ofInt 0 + Int32.ofInt 2).toNatClampNeg)).toInt then 14 else 12) ∧ (k = 0 ∨ (k = 2 ∧ c = 14) ∨ (k = 1 ∧ c = 12)) := by
    refine ⟨_, _, rfl, rfl, ?_⟩
    by_cases h : isS1 (xs ((Int32.ofInt 0 + Int32.ofInt 2).toNatClampNeg)).toInt
    · by_cases h2 : isS2 (xs ((Int32.ofInt 0 + Int32.ofInt 1).toNatClampNeg)).toInt
      · exact Or.inl (by unfold sprK; rw [if_pos h, if_pos h2])
      · exact Or.inr (Or.inl ⟨by unfold sprK; rw [if_pos h, if_neg h2], by rw [if_pos h]⟩)
    · exact Or.inr (Or.inr ⟨by unfold sprK; rw [if_neg h], by rw [if_neg h]⟩)
  obtain ⟨k, c, ek, ec, hkc⟩ := hkc
  have hJ1 := c_spread_ (d := d + 3) (mask := (xs ((Int32.ofInt 0 + Int32.ofInt 3).toNatClampNeg)).toInt) hF hC (b := true) (i32R (xs ((Int32.ofInt 0 + Int32.ofInt 1).toNatClampNeg))) (i32R (xs ((Int32.ofInt 0 + Int32.ofInt 2).toNatClampNeg)))
  have hJ2 := fun (w : jW) (H : jH) (hI : rInv (zc 16) H) => j_spread_ (mask := (xs ((Int32.ofInt 0 + Int32.ofInt 3).toNatClampNeg)).toInt) (d := d) (w := w) (H := H) hI (i32R (xs ((Int32.ofInt 0 + Int32.ofInt 1).toNatClampNeg))) (i32R (xs ((Int32.ofInt 0 + Int32.ofInt 2).toNatClampNeg))) (i32R (xs ((Int32.ofInt 0 + Int32.ofInt 3).toNatClampNeg)))
  rw [← ek, ← ec] at hJ1
  rw [← ek] at hJ2
  have hh : k ≠ 0 → xhnd 177 7 c = some (Int32.ofInt k) := fun hk => by
    rcases hkc with h | ⟨h, h'⟩ | ⟨h, h'⟩
    · exact absurd h hk
    · rw [h, h']; rfl
    · rw [h, h']; rfl
  obtain ⟨w', H', ph', hp', g', hX1, hR', hg, e11, r1, r2⟩ := s_spread (d := d + 9) hR hx hJ1 hh
  obtain ⟨y, hp1, hp2, hX2, hy, ⟨fs1, h1⟩, hX3, z0, zo, zl, z1⟩ := l_ref (vs := [.ref (ph' 11 0), .int (xs ((Int32.ofInt 0 + Int32.ofInt 1).toNatClampNeg)), .int (xs ((Int32.ofInt 0 + Int32.ofInt 2).toNatClampNeg)), .int (xs ((Int32.ofInt 0 + Int32.ofInt 3).toNatClampNeg))]) hR' (by simp only [List.map_cons, List.map_nil, i32m]; rfl) (hJ2 _ _ hR'.1.2)
  obtain ⟨fs0, h11⟩ := hR'.at11
  rw [e11] at h1 h11 hX2 hX3
  have z7 : hp2[0]? = some (.inl (0, 7, .inl xs)) := z0.trans hR'.2.1
  refine ⟨hp2, w'.2.2, ?_, by rw [zl]; omega, r2⟩
  refine X.run 1 rfl ?_
  refine X.run 4 rfl ?_
  refine X.ial rfl rfl hR.2.1 rfl ?_
  refine X.run 4 rfl ?_
  refine X.ial rfl rfl hR.2.1 rfl ?_
  refine X.run 4 rfl ?_
  refine X.ial rfl rfl hR.2.1 rfl ?_
  refine X.run 1 rfl ?_
  refine X.insL rfl rfl rfl (by decide) rfl rfl (by decide) rfl rfl rfl hX1 ?_
  refine X.run 2 rfl ?_
  refine X.run 4 rfl ?_
  refine X.ial rfl rfl hR'.2.1 rfl ?_
  refine X.run 4 rfl ?_
  refine X.ial rfl rfl hR'.2.1 rfl ?_
  refine X.run 4 rfl ?_
  refine X.ial rfl rfl hR'.2.1 rfl ?_
  refine X.inv rfl rfl rfl rfl rfl h11 rfl rfl rfl rfl hX2 ?_
  refine X.run 2 rfl ?_
  refine X.inv rfl rfl rfl rfl rfl h1 rfl rfl rfl rfl hX3 ?_
  refine X.run 1 rfl ?_
  refine X.icmp rfl rfl rfl (fun _ => ?_) (fun hc => absurd hc (by simp [xcmp]))
  refine X.run 1 rfl ?_
  rcases hkc with h | ⟨h, -⟩ | ⟨h, -⟩
  · have e1 : g' 0 = (Int32.ofInt y).toInt64 := by rw [hy h]; exact hg h
    have e2 : lg_cmp (g' (Int32.ofInt 0).toNatClampNeg) ((Int32.ofInt y).toInt64) = 0 := by
      show lg_cmp (g' 0) _ = 0
      rw [e1]
      exact lg_self _
    rw [h]
    refine X.ifc rfl rfl rfl (fun hc => absurd hc (by decide)) (fun _ => ?_)
    refine X.run 2 rfl ?_
    refine X.lal rfl rfl (zo.trans hR'.2.2.1) rfl ?_
    refine X.run 3 rfl ?_
    refine X.ifc rfl rfl rfl (fun _ => ?_) (fun hc => absurd hc (by rw [e2]; decide))
    refine X.run 1 rfl ?_
    exact l_end z7 _ (Or.inl rfl)
  · rw [h]
    refine X.ifc rfl rfl rfl (fun _ => ?_) (fun hc => absurd hc (by decide))
    refine X.run 1 rfl ?_
    exact l_end z7 _ (Or.inl rfl)
  · rw [h]
    refine X.ifc rfl rfl rfl (fun _ => ?_) (fun hc => absurd hc (by decide))
    refine X.run 1 rfl ?_
    exact l_end z7 _ (Or.inl rfl)
set_option maxRecDepth 20000 in
theorem lc_expire (hR : lRy ph w H hp 7 xs po g) (hF : fRm F) (hC : cRest F w (zc 16) H) : lFin (d + 11) 420 F ph w hp po := by
  obtain ⟨je, ⟨mp, bp, sp, hP⟩, -⟩ := id hC
  have hx : w.1 10 (fX F) := hP.1.1.1
  have hkc : ∃ k : Int, k = (if 0 ≤ (xs ((Int32.ofInt 0 + Int32.ofInt 1).toNatClampNeg)).toInt ∧ (xs ((Int32.ofInt 0 + Int32.ofInt 1).toNatClampNeg)).toInt ≤ 15 then 0 else 1) ∧ (k = 0 ∨ k = 1) := by
    refine ⟨_, rfl, ?_⟩
    by_cases h : 0 ≤ (xs ((Int32.ofInt 0 + Int32.ofInt 1).toNatClampNeg)).toInt ∧ (xs ((Int32.ofInt 0 + Int32.ofInt 1).toNatClampNeg)).toInt ≤ 15
    · exact Or.inl (by rw [if_pos h])
    · exact Or.inr (by rw [if_neg h])
  obtain ⟨k, ek, hkc⟩ := hkc
  have hJ1 := c_expire (d := d + 3) hF hC (b := true) (i32R (xs ((Int32.ofInt 0 + Int32.ofInt 1).toNatClampNeg)))
  have hJ2 := fun (w : jW) (H : jH) (hI : rInv (zc 16) H) => j_expire (d := d) (w := w) (H := H) hI (i32R (xs ((Int32.ofInt 0 + Int32.ofInt 1).toNatClampNeg)))
  rw [← ek] at hJ1 hJ2
  have hh : k ≠ 0 → xhnd 178 4 14 = some (Int32.ofInt k) := fun hk => by
    rcases hkc with h | h
    · exact absurd h hk
    · rw [h]; rfl
  obtain ⟨w', H', ph', hp', g', hX1, hR', hg, e11, r1, r2⟩ := s_expire (d := d + 9) hR hx hJ1 hh
  obtain ⟨y, hp1, hp2, hX2, hy, ⟨fs1, h1⟩, hX3, z0, zo, zl, z1⟩ := l_ref (vs := [.ref (ph' 11 0), .int (xs ((Int32.ofInt 0 + Int32.ofInt 1).toNatClampNeg))]) hR' (by simp only [List.map_cons, List.map_nil, i32m]; rfl) (hJ2 _ _ hR'.1.2)
  obtain ⟨fs0, h11⟩ := hR'.at11
  rw [e11] at h1 h11 hX2 hX3
  have z7 : hp2[0]? = some (.inl (0, 7, .inl xs)) := z0.trans hR'.2.1
  refine ⟨hp2, w'.2.2, ?_, by rw [zl]; omega, r2⟩
  refine X.run 1 rfl ?_
  refine X.run 4 rfl ?_
  refine X.ial rfl rfl hR.2.1 rfl ?_
  refine X.run 1 rfl ?_
  refine X.insL rfl rfl rfl (by decide) rfl rfl (by decide) rfl rfl rfl hX1 ?_
  refine X.run 2 rfl ?_
  refine X.run 4 rfl ?_
  refine X.ial rfl rfl hR'.2.1 rfl ?_
  refine X.inv rfl rfl rfl rfl rfl h11 rfl rfl rfl rfl hX2 ?_
  refine X.run 2 rfl ?_
  refine X.inv rfl rfl rfl rfl rfl h1 rfl rfl rfl rfl hX3 ?_
  refine X.run 1 rfl ?_
  refine X.icmp rfl rfl rfl (fun _ => ?_) (fun hc => absurd hc (by simp [xcmp]))
  refine X.run 1 rfl ?_
  rcases hkc with h | h
  · have e1 : g' 0 = (Int32.ofInt y).toInt64 := by rw [hy h]; exact hg h
    have e2 : lg_cmp (g' (Int32.ofInt 0).toNatClampNeg) ((Int32.ofInt y).toInt64) = 0 := by
      show lg_cmp (g' 0) _ = 0
      rw [e1]
      exact lg_self _
    rw [h]
    refine X.ifc rfl rfl rfl (fun hc => absurd hc (by decide)) (fun _ => ?_)
    refine X.run 2 rfl ?_
    refine X.lal rfl rfl (zo.trans hR'.2.2.1) rfl ?_
    refine X.run 3 rfl ?_
    refine X.ifc rfl rfl rfl (fun _ => ?_) (fun hc => absurd hc (by rw [e2]; decide))
    refine X.run 1 rfl ?_
    exact l_end z7 _ (Or.inl rfl)
  · rw [h]
    refine X.ifc rfl rfl rfl (fun _ => ?_) (fun hc => absurd hc (by decide))
    refine X.run 1 rfl ?_
    exact l_end z7 _ (Or.inl rfl)
set_option maxRecDepth 20000 in
theorem lc_forge (hR : lRy ph w H hp 7 xs po g) (hF : fRm F) (hC : cRest F w (zc 16) H) : lFin (d + 11) 476 F ph w hp po := by
  obtain ⟨je, ⟨mp, bp, sp, hP⟩, -⟩ := id hC
  have hx : w.1 10 (fX F) := hP.1.1.1
  have hkc : ∃ (k : Int) (c : Nat), k = (if isF (xs ((Int32.ofInt 0 + Int32.ofInt 2).toNatClampNeg)).toInt (xs ((Int32.ofInt 0 + Int32.ofInt 3).toNatClampNeg)).toInt (xs ((Int32.ofInt 0 + Int32.ofInt 4).toNatClampNeg)).toInt (xs ((Int32.ofInt 0 + Int32.ofInt 5).toNatClampNeg)).toInt (xs ((Int32.ofInt 0 + (Int8.ofInt 6).toInt32).toNatClampNeg)).toInt then 2 else 1) ∧ c = (if isF (xs ((Int32.ofInt 0 + Int32.ofInt 2).toNatClampNeg)).toInt (xs ((Int32.ofInt 0 + Int32.ofInt 3).toNatClampNeg)).toInt (xs ((Int32.ofInt 0 + Int32.ofInt 4).toNatClampNeg)).toInt (xs ((Int32.ofInt 0 + Int32.ofInt 5).toNatClampNeg)).toInt (xs ((Int32.ofInt 0 + (Int8.ofInt 6).toInt32).toNatClampNeg)).toInt then 13 else 12) ∧ ((k = 2 ∧ c = 13) ∨ (k = 1 ∧ c = 12)) := by
    refine ⟨_, _, rfl, rfl, ?_⟩
    by_cases h : isF (xs ((Int32.ofInt 0 + Int32.ofInt 2).toNatClampNeg)).toInt (xs ((Int32.ofInt 0 + Int32.ofInt 3).toNatClampNeg)).toInt (xs ((Int32.ofInt 0 + Int32.ofInt 4).toNatClampNeg)).toInt (xs ((Int32.ofInt 0 + Int32.ofInt 5).toNatClampNeg)).toInt (xs ((Int32.ofInt 0 + (Int8.ofInt 6).toInt32).toNatClampNeg)).toInt
    · exact Or.inl ⟨by rw [if_pos h], by rw [if_pos h]⟩
    · exact Or.inr ⟨by rw [if_neg h], by rw [if_neg h]⟩
  obtain ⟨k, c, ek, ec, hkc⟩ := hkc
  have hJ1 := c_forge (d := d + 3) hF hP (b := true) (i32R (xs ((Int32.ofInt 0 + Int32.ofInt 1).toNatClampNeg))) (i32R (xs ((Int32.ofInt 0 + Int32.ofInt 2).toNatClampNeg))) (i32R (xs ((Int32.ofInt 0 + Int32.ofInt 3).toNatClampNeg))) (i32R (xs ((Int32.ofInt 0 + Int32.ofInt 4).toNatClampNeg))) (i32R (xs ((Int32.ofInt 0 + Int32.ofInt 5).toNatClampNeg))) (i32R (xs ((Int32.ofInt 0 + (Int8.ofInt 6).toInt32).toNatClampNeg)))
  have hJ2 := fun (w : jW) (H : jH) (hI : rInv (zc 16) H) => j_forge (d := d) (w := w) (H := H) hI (i32R (xs ((Int32.ofInt 0 + Int32.ofInt 1).toNatClampNeg))) (i32R (xs ((Int32.ofInt 0 + Int32.ofInt 2).toNatClampNeg))) (i32R (xs ((Int32.ofInt 0 + Int32.ofInt 3).toNatClampNeg))) (i32R (xs ((Int32.ofInt 0 + Int32.ofInt 4).toNatClampNeg))) (i32R (xs ((Int32.ofInt 0 + Int32.ofInt 5).toNatClampNeg))) (i32R (xs ((Int32.ofInt 0 + (Int8.ofInt 6).toInt32).toNatClampNeg)))
  rw [← ek, ← ec] at hJ1
  rw [← ek] at hJ2
  have hh : k ≠ 0 → xhnd 179 13 c = some (Int32.ofInt k) := fun hk => by
    rcases hkc with ⟨h, h'⟩ | ⟨h, h'⟩
    · rw [h, h']; rfl
    · rw [h, h']; rfl
  obtain ⟨w', H', ph', hp', g', hX1, hR', hg, e11, r1, r2⟩ := s_forge (d := d + 9) hR hx hJ1 hh
  obtain ⟨y, hp1, hp2, hX2, hy, ⟨fs1, h1⟩, hX3, z0, zo, zl, z1⟩ := l_ref (vs := [.ref (ph' 11 0), .int (xs ((Int32.ofInt 0 + Int32.ofInt 1).toNatClampNeg)), .int (xs ((Int32.ofInt 0 + Int32.ofInt 2).toNatClampNeg)), .int (xs ((Int32.ofInt 0 + Int32.ofInt 3).toNatClampNeg)), .int (xs ((Int32.ofInt 0 + Int32.ofInt 4).toNatClampNeg)), .int (xs ((Int32.ofInt 0 + Int32.ofInt 5).toNatClampNeg)), .int (xs ((Int32.ofInt 0 + (Int8.ofInt 6).toInt32).toNatClampNeg))]) hR' (by simp only [List.map_cons, List.map_nil, i32m]; rfl) (hJ2 _ _ hR'.1.2)
  obtain ⟨fs0, h11⟩ := hR'.at11
  rw [e11] at h1 h11 hX2 hX3
  have z7 : hp2[0]? = some (.inl (0, 7, .inl xs)) := z0.trans hR'.2.1
  refine ⟨hp2, w'.2.2, ?_, by rw [zl]; omega, r2⟩
  refine X.run 1 rfl ?_
  refine X.run 4 rfl ?_
  refine X.ial rfl rfl hR.2.1 rfl ?_
  refine X.run 4 rfl ?_
  refine X.ial rfl rfl hR.2.1 rfl ?_
  refine X.run 4 rfl ?_
  refine X.ial rfl rfl hR.2.1 rfl ?_
  refine X.run 4 rfl ?_
  refine X.ial rfl rfl hR.2.1 rfl ?_
  refine X.run 4 rfl ?_
  refine X.ial rfl rfl hR.2.1 rfl ?_
  refine X.run 4 rfl ?_
  refine X.ial rfl rfl hR.2.1 rfl ?_
  refine X.run 1 rfl ?_
  refine X.insL rfl rfl rfl (by decide) rfl rfl (by decide) rfl rfl rfl hX1 ?_
  refine X.run 2 rfl ?_
  refine X.run 4 rfl ?_
  refine X.ial rfl rfl hR'.2.1 rfl ?_
  refine X.run 4 rfl ?_
  refine X.ial rfl rfl hR'.2.1 rfl ?_
  refine X.run 4 rfl ?_
  refine X.ial rfl rfl hR'.2.1 rfl ?_
  refine X.run 4 rfl ?_
  refine X.ial rfl rfl hR'.2.1 rfl ?_
  refine X.run 4 rfl ?_
  refine X.ial rfl rfl hR'.2.1 rfl ?_
  refine X.run 4 rfl ?_
  refine X.ial rfl rfl hR'.2.1 rfl ?_
  refine X.inv rfl rfl rfl rfl rfl h11 rfl rfl rfl rfl hX2 ?_
  refine X.run 2 rfl ?_
  refine X.inv rfl rfl rfl rfl rfl h1 rfl rfl rfl rfl hX3 ?_
  refine X.run 1 rfl ?_
  refine X.icmp rfl rfl rfl (fun _ => ?_) (fun hc => absurd hc (by simp [xcmp]))
  refine X.run 1 rfl ?_
  rcases hkc with ⟨h, -⟩ | ⟨h, -⟩
  · rw [h]
    refine X.ifc rfl rfl rfl (fun _ => ?_) (fun hc => absurd hc (by decide))
    refine X.run 1 rfl ?_
    exact l_end z7 _ (Or.inl rfl)
  · rw [h]
    refine X.ifc rfl rfl rfl (fun _ => ?_) (fun hc => absurd hc (by decide))
    refine X.run 1 rfl ?_
    exact l_end z7 _ (Or.inl rfl)
set_option maxRecDepth 20000 in
theorem lc_block (hR : lRy ph w H hp 7 xs po g) (hF : fRm F) (hC : cRest F w (zc 16) H) : lFin (d + 11) 594 F ph w hp po := by
  obtain ⟨je, ⟨mp, bp, sp, hP⟩, -⟩ := id hC
  have hx : w.1 10 (fX F) := hP.1.1.1
  have hkc : ∃ (k : Int) (c : Nat), k = (if isB (xs ((Int32.ofInt 0 + Int32.ofInt 2).toNatClampNeg)).toInt (xs ((Int32.ofInt 0 + Int32.ofInt 3).toNatClampNeg)).toInt (xs ((Int32.ofInt 0 + Int32.ofInt 4).toNatClampNeg)).toInt (xs ((Int32.ofInt 0 + Int32.ofInt 5).toNatClampNeg)).toInt then 2 else 1) ∧ c = (if isB (xs ((Int32.ofInt 0 + Int32.ofInt 2).toNatClampNeg)).toInt (xs ((Int32.ofInt 0 + Int32.ofInt 3).toNatClampNeg)).toInt (xs ((Int32.ofInt 0 + Int32.ofInt 4).toNatClampNeg)).toInt (xs ((Int32.ofInt 0 + Int32.ofInt 5).toNatClampNeg)).toInt then 13 else 12) ∧ ((k = 2 ∧ c = 13) ∨ (k = 1 ∧ c = 12)) := by
    refine ⟨_, _, rfl, rfl, ?_⟩
    by_cases h : isB (xs ((Int32.ofInt 0 + Int32.ofInt 2).toNatClampNeg)).toInt (xs ((Int32.ofInt 0 + Int32.ofInt 3).toNatClampNeg)).toInt (xs ((Int32.ofInt 0 + Int32.ofInt 4).toNatClampNeg)).toInt (xs ((Int32.ofInt 0 + Int32.ofInt 5).toNatClampNeg)).toInt
    · exact Or.inl ⟨by rw [if_pos h], by rw [if_pos h]⟩
    · exact Or.inr ⟨by rw [if_neg h], by rw [if_neg h]⟩
  obtain ⟨k, c, ek, ec, hkc⟩ := hkc
  have hJ1 := c_block (d := d + 3) hF hP (b := true) (i32R (xs ((Int32.ofInt 0 + Int32.ofInt 1).toNatClampNeg))) (i32R (xs ((Int32.ofInt 0 + Int32.ofInt 2).toNatClampNeg))) (i32R (xs ((Int32.ofInt 0 + Int32.ofInt 3).toNatClampNeg))) (i32R (xs ((Int32.ofInt 0 + Int32.ofInt 4).toNatClampNeg))) (i32R (xs ((Int32.ofInt 0 + Int32.ofInt 5).toNatClampNeg)))
  have hJ2 := fun (w : jW) (H : jH) (hI : rInv (zc 16) H) => j_block (d := d) (w := w) (H := H) hI (i32R (xs ((Int32.ofInt 0 + Int32.ofInt 1).toNatClampNeg))) (i32R (xs ((Int32.ofInt 0 + Int32.ofInt 2).toNatClampNeg))) (i32R (xs ((Int32.ofInt 0 + Int32.ofInt 3).toNatClampNeg))) (i32R (xs ((Int32.ofInt 0 + Int32.ofInt 4).toNatClampNeg))) (i32R (xs ((Int32.ofInt 0 + Int32.ofInt 5).toNatClampNeg)))
  rw [← ek, ← ec] at hJ1
  rw [← ek] at hJ2
  have hh : k ≠ 0 → xhnd 180 11 c = some (Int32.ofInt k) := fun hk => by
    rcases hkc with ⟨h, h'⟩ | ⟨h, h'⟩
    · rw [h, h']; rfl
    · rw [h, h']; rfl
  obtain ⟨w', H', ph', hp', g', hX1, hR', hg, e11, r1, r2⟩ := s_block (d := d + 9) hR hx hJ1 hh
  obtain ⟨y, hp1, hp2, hX2, hy, ⟨fs1, h1⟩, hX3, z0, zo, zl, z1⟩ := l_ref (vs := [.ref (ph' 11 0), .int (xs ((Int32.ofInt 0 + Int32.ofInt 1).toNatClampNeg)), .int (xs ((Int32.ofInt 0 + Int32.ofInt 2).toNatClampNeg)), .int (xs ((Int32.ofInt 0 + Int32.ofInt 3).toNatClampNeg)), .int (xs ((Int32.ofInt 0 + Int32.ofInt 4).toNatClampNeg)), .int (xs ((Int32.ofInt 0 + Int32.ofInt 5).toNatClampNeg))]) hR' (by simp only [List.map_cons, List.map_nil, i32m]; rfl) (hJ2 _ _ hR'.1.2)
  obtain ⟨fs0, h11⟩ := hR'.at11
  rw [e11] at h1 h11 hX2 hX3
  have z7 : hp2[0]? = some (.inl (0, 7, .inl xs)) := z0.trans hR'.2.1
  refine ⟨hp2, w'.2.2, ?_, by rw [zl]; omega, r2⟩
  refine X.run 1 rfl ?_
  refine X.run 4 rfl ?_
  refine X.ial rfl rfl hR.2.1 rfl ?_
  refine X.run 4 rfl ?_
  refine X.ial rfl rfl hR.2.1 rfl ?_
  refine X.run 4 rfl ?_
  refine X.ial rfl rfl hR.2.1 rfl ?_
  refine X.run 4 rfl ?_
  refine X.ial rfl rfl hR.2.1 rfl ?_
  refine X.run 4 rfl ?_
  refine X.ial rfl rfl hR.2.1 rfl ?_
  refine X.run 1 rfl ?_
  refine X.insL rfl rfl rfl (by decide) rfl rfl (by decide) rfl rfl rfl hX1 ?_
  refine X.run 2 rfl ?_
  refine X.run 4 rfl ?_
  refine X.ial rfl rfl hR'.2.1 rfl ?_
  refine X.run 4 rfl ?_
  refine X.ial rfl rfl hR'.2.1 rfl ?_
  refine X.run 4 rfl ?_
  refine X.ial rfl rfl hR'.2.1 rfl ?_
  refine X.run 4 rfl ?_
  refine X.ial rfl rfl hR'.2.1 rfl ?_
  refine X.run 4 rfl ?_
  refine X.ial rfl rfl hR'.2.1 rfl ?_
  refine X.inv rfl rfl rfl rfl rfl h11 rfl rfl rfl rfl hX2 ?_
  refine X.run 2 rfl ?_
  refine X.inv rfl rfl rfl rfl rfl h1 rfl rfl rfl rfl hX3 ?_
  refine X.run 1 rfl ?_
  refine X.icmp rfl rfl rfl (fun _ => ?_) (fun hc => absurd hc (by simp [xcmp]))
  refine X.run 1 rfl ?_
  rcases hkc with ⟨h, -⟩ | ⟨h, -⟩
  · rw [h]
    refine X.ifc rfl rfl rfl (fun _ => ?_) (fun hc => absurd hc (by decide))
    refine X.run 1 rfl ?_
    exact l_end z7 _ (Or.inl rfl)
  · rw [h]
    refine X.ifc rfl rfl rfl (fun _ => ?_) (fun hc => absurd hc (by decide))
    refine X.run 1 rfl ?_
    exact l_end z7 _ (Or.inl rfl)
set_option maxRecDepth 20000 in
theorem lc_sync (hR : lRy ph w H hp 7 xs po g) (hF : fRm F) (hC : cRest F w (zc 16) H) : lFin (d + 11) 698 F ph w hp po := by
  obtain ⟨je, ⟨mp, bp, sp, hP⟩, -⟩ := id hC
  have hx : w.1 10 (fX F) := hP.1.1.1
  have hkc : ∃ k : Int, k = (if isY (xs ((Int32.ofInt 0 + Int32.ofInt 1).toNatClampNeg)).toInt (xs ((Int32.ofInt 0 + Int32.ofInt 2).toNatClampNeg)).toInt then 0 else 1) ∧ (k = 0 ∨ k = 1) := by
    refine ⟨_, rfl, ?_⟩
    by_cases h : isY (xs ((Int32.ofInt 0 + Int32.ofInt 1).toNatClampNeg)).toInt (xs ((Int32.ofInt 0 + Int32.ofInt 2).toNatClampNeg)).toInt
    · exact Or.inl (by rw [if_pos h])
    · exact Or.inr (by rw [if_neg h])
  obtain ⟨k, ek, hkc⟩ := hkc
  have hJ1 := c_sync (d := d + 3) hF hP (b := true) (i32R (xs ((Int32.ofInt 0 + Int32.ofInt 1).toNatClampNeg))) (i32R (xs ((Int32.ofInt 0 + Int32.ofInt 2).toNatClampNeg)))
  have hJ2 := fun (w : jW) (H : jH) (hI : rInv (zc 16) H) => j_sync (d := d) (w := w) (H := H) hI (i32R (xs ((Int32.ofInt 0 + Int32.ofInt 1).toNatClampNeg))) (i32R (xs ((Int32.ofInt 0 + Int32.ofInt 2).toNatClampNeg)))
  rw [← ek] at hJ1 hJ2
  have hh : k ≠ 0 → xhnd 181 5 14 = some (Int32.ofInt k) := fun hk => by
    rcases hkc with h | h
    · exact absurd h hk
    · rw [h]; rfl
  obtain ⟨w', H', ph', hp', g', hX1, hR', hg, e11, r1, r2⟩ := s_sync (d := d + 9) hR hx hJ1 hh
  obtain ⟨y, hp1, hp2, hX2, hy, ⟨fs1, h1⟩, hX3, z0, zo, zl, z1⟩ := l_ref (vs := [.ref (ph' 11 0), .int (xs ((Int32.ofInt 0 + Int32.ofInt 1).toNatClampNeg)), .int (xs ((Int32.ofInt 0 + Int32.ofInt 2).toNatClampNeg))]) hR' (by simp only [List.map_cons, List.map_nil, i32m]; rfl) (hJ2 _ _ hR'.1.2)
  obtain ⟨fs0, h11⟩ := hR'.at11
  rw [e11] at h1 h11 hX2 hX3
  have z7 : hp2[0]? = some (.inl (0, 7, .inl xs)) := z0.trans hR'.2.1
  refine ⟨hp2, w'.2.2, ?_, by rw [zl]; omega, r2⟩
  refine X.run 1 rfl ?_
  refine X.run 4 rfl ?_
  refine X.ial rfl rfl hR.2.1 rfl ?_
  refine X.run 4 rfl ?_
  refine X.ial rfl rfl hR.2.1 rfl ?_
  refine X.run 1 rfl ?_
  refine X.insL rfl rfl rfl (by decide) rfl rfl (by decide) rfl rfl rfl hX1 ?_
  refine X.run 2 rfl ?_
  refine X.run 4 rfl ?_
  refine X.ial rfl rfl hR'.2.1 rfl ?_
  refine X.run 4 rfl ?_
  refine X.ial rfl rfl hR'.2.1 rfl ?_
  refine X.inv rfl rfl rfl rfl rfl h11 rfl rfl rfl rfl hX2 ?_
  refine X.run 2 rfl ?_
  refine X.inv rfl rfl rfl rfl rfl h1 rfl rfl rfl rfl hX3 ?_
  refine X.run 1 rfl ?_
  refine X.icmp rfl rfl rfl (fun _ => ?_) (fun hc => absurd hc (by simp [xcmp]))
  refine X.run 1 rfl ?_
  rcases hkc with h | h
  · have e1 : g' 0 = (Int32.ofInt y).toInt64 := by rw [hy h]; exact hg h
    have e2 : lg_cmp (g' (Int32.ofInt 0).toNatClampNeg) ((Int32.ofInt y).toInt64) = 0 := by
      show lg_cmp (g' 0) _ = 0
      rw [e1]
      exact lg_self _
    rw [h]
    refine X.ifc rfl rfl rfl (fun hc => absurd hc (by decide)) (fun _ => ?_)
    refine X.run 2 rfl ?_
    refine X.lal rfl rfl (zo.trans hR'.2.2.1) rfl ?_
    refine X.run 3 rfl ?_
    refine X.ifc rfl rfl rfl (fun _ => ?_) (fun hc => absurd hc (by rw [e2]; decide))
    refine X.run 1 rfl ?_
    exact l_end z7 _ (Or.inl rfl)
  · rw [h]
    refine X.ifc rfl rfl rfl (fun _ => ?_) (fun hc => absurd hc (by decide))
    refine X.run 1 rfl ?_
    exact l_end z7 _ (Or.inl rfl)
set_option maxRecDepth 20000 in
theorem lc_start (hR : lRy ph w H hp 7 xs po g) (hF : fRm F) (hC : cRest F w (zc 16) H) : lFin (d + 11) 814 F ph w hp po := by
  obtain ⟨je, ⟨mp, bp, sp, hP⟩, -⟩ := id hC
  have hx : w.1 10 (fX F) := hP.1.1.1
  have hkc : ∃ (k : Int) (c : Nat), k = (if 0 ≤ (xs ((Int32.ofInt 0 + Int32.ofInt 1).toNatClampNeg)).toInt ∧ (xs ((Int32.ofInt 0 + Int32.ofInt 1).toNatClampNeg)).toInt ≤ 15 then 2 else 1) ∧ c = (if 0 ≤ (xs ((Int32.ofInt 0 + Int32.ofInt 1).toNatClampNeg)).toInt ∧ (xs ((Int32.ofInt 0 + Int32.ofInt 1).toNatClampNeg)).toInt ≤ 15 then 13 else 14) ∧ ((k = 2 ∧ c = 13) ∨ (k = 1 ∧ c = 14)) := by
    refine ⟨_, _, rfl, rfl, ?_⟩
    by_cases h : 0 ≤ (xs ((Int32.ofInt 0 + Int32.ofInt 1).toNatClampNeg)).toInt ∧ (xs ((Int32.ofInt 0 + Int32.ofInt 1).toNatClampNeg)).toInt ≤ 15
    · exact Or.inl ⟨by rw [if_pos h], by rw [if_pos h]⟩
    · exact Or.inr ⟨by rw [if_neg h], by rw [if_neg h]⟩
  obtain ⟨k, c, ek, ec, hkc⟩ := hkc
  have hJ1 := c_start (d := d + 3) hF hP (b := true) (i32R (xs ((Int32.ofInt 0 + Int32.ofInt 1).toNatClampNeg)))
  have hJ2 := fun (w : jW) (H : jH) (hI : rInv (zc 16) H) => j_start (d := d) (w := w) (H := H) hI (i32R (xs ((Int32.ofInt 0 + Int32.ofInt 1).toNatClampNeg)))
  rw [← ek, ← ec] at hJ1
  rw [← ek] at hJ2
  have hh : k ≠ 0 → xhnd 183 4 c = some (Int32.ofInt k) := fun hk => by
    rcases hkc with ⟨h, h'⟩ | ⟨h, h'⟩
    · rw [h, h']; rfl
    · rw [h, h']; rfl
  obtain ⟨w', H', ph', hp', g', hX1, hR', hg, e11, r1, r2⟩ := s_start (d := d + 9) hR hx hJ1 hh
  obtain ⟨y, hp1, hp2, hX2, hy, ⟨fs1, h1⟩, hX3, z0, zo, zl, z1⟩ := l_ref (vs := [.ref (ph' 11 0), .int (xs ((Int32.ofInt 0 + Int32.ofInt 1).toNatClampNeg))]) hR' (by simp only [List.map_cons, List.map_nil, i32m]; rfl) (hJ2 _ _ hR'.1.2)
  obtain ⟨fs0, h11⟩ := hR'.at11
  rw [e11] at h1 h11 hX2 hX3
  have z7 : hp2[0]? = some (.inl (0, 7, .inl xs)) := z0.trans hR'.2.1
  refine ⟨hp2, w'.2.2, ?_, by rw [zl]; omega, r2⟩
  refine X.run 1 rfl ?_
  refine X.run 4 rfl ?_
  refine X.ial rfl rfl hR.2.1 rfl ?_
  refine X.run 1 rfl ?_
  refine X.insL rfl rfl rfl (by decide) rfl rfl (by decide) rfl rfl rfl hX1 ?_
  refine X.run 2 rfl ?_
  refine X.run 4 rfl ?_
  refine X.ial rfl rfl hR'.2.1 rfl ?_
  refine X.inv rfl rfl rfl rfl rfl h11 rfl rfl rfl rfl hX2 ?_
  refine X.run 2 rfl ?_
  refine X.inv rfl rfl rfl rfl rfl h1 rfl rfl rfl rfl hX3 ?_
  refine X.run 1 rfl ?_
  refine X.icmp rfl rfl rfl (fun _ => ?_) (fun hc => absurd hc (by simp [xcmp]))
  refine X.run 1 rfl ?_
  rcases hkc with ⟨h, -⟩ | ⟨h, -⟩
  · rw [h]
    refine X.ifc rfl rfl rfl (fun _ => ?_) (fun hc => absurd hc (by decide))
    refine X.run 1 rfl ?_
    exact l_end z7 _ (Or.inl rfl)
  · rw [h]
    refine X.ifc rfl rfl rfl (fun _ => ?_) (fun hc => absurd hc (by decide))
    refine X.run 1 rfl ?_
    exact l_end z7 _ (Or.inl rfl)
set_option maxRecDepth 20000 in
theorem lc_told (hR : lRy ph w H hp 7 xs po g) (hF : fRm F) (hC : cRest F w (zc 16) H) : lFin (d + 11) 870 F ph w hp po := by
  obtain ⟨je, ⟨mp, bp, sp, hP⟩, -⟩ := id hC
  have hx : w.1 10 (fX F) := hP.1.1.1
  have hkc : ∃ (k : Int) (c : Nat), k = (tolK (xs ((Int32.ofInt 0 + Int32.ofInt 1).toNatClampNeg)).toInt (xs ((Int32.ofInt 0 + Int32.ofInt 2).toNatClampNeg)).toInt) ∧ c = (if isN (xs ((Int32.ofInt 0 + Int32.ofInt 1).toNatClampNeg)).toInt then 12 else 14) ∧ (k = 0 ∨ (k = 2 ∧ c = 12) ∨ (k = 1 ∧ c = 14)) := by
    refine ⟨_, _, rfl, rfl, ?_⟩
    by_cases h : isN (xs ((Int32.ofInt 0 + Int32.ofInt 1).toNatClampNeg)).toInt
    · by_cases h2 : 0 ≤ (xs ((Int32.ofInt 0 + Int32.ofInt 2).toNatClampNeg)).toInt ∧ (xs ((Int32.ofInt 0 + Int32.ofInt 2).toNatClampNeg)).toInt ≤ 11
      · exact Or.inl (by unfold tolK; rw [if_pos h, if_pos h2])
      · exact Or.inr (Or.inl ⟨by unfold tolK; rw [if_pos h, if_neg h2], by rw [if_pos h]⟩)
    · exact Or.inr (Or.inr ⟨by unfold tolK; rw [if_neg h], by rw [if_neg h]⟩)
  obtain ⟨k, c, ek, ec, hkc⟩ := hkc
  have hJ1 := c_told (d := d + 3) hF hP (b := true) (i32R (xs ((Int32.ofInt 0 + Int32.ofInt 1).toNatClampNeg))) (i32R (xs ((Int32.ofInt 0 + Int32.ofInt 2).toNatClampNeg)))
  have hJ2 := fun (w : jW) (H : jH) (hI : rInv (zc 16) H) => j_told (d := d) (w := w) (H := H) hI (i32R (xs ((Int32.ofInt 0 + Int32.ofInt 1).toNatClampNeg))) (i32R (xs ((Int32.ofInt 0 + Int32.ofInt 2).toNatClampNeg)))
  rw [← ek, ← ec] at hJ1
  rw [← ek] at hJ2
  have hh : k ≠ 0 → xhnd 184 5 c = some (Int32.ofInt k) := fun hk => by
    rcases hkc with h | ⟨h, h'⟩ | ⟨h, h'⟩
    · exact absurd h hk
    · rw [h, h']; rfl
    · rw [h, h']; rfl
  obtain ⟨w', H', ph', hp', g', hX1, hR', hg, e11, r1, r2⟩ := s_told (d := d + 9) hR hx hJ1 hh
  obtain ⟨y, hp1, hp2, hX2, hy, ⟨fs1, h1⟩, hX3, z0, zo, zl, z1⟩ := l_ref (vs := [.ref (ph' 11 0), .int (xs ((Int32.ofInt 0 + Int32.ofInt 1).toNatClampNeg)), .int (xs ((Int32.ofInt 0 + Int32.ofInt 2).toNatClampNeg))]) hR' (by simp only [List.map_cons, List.map_nil, i32m]; rfl) (hJ2 _ _ hR'.1.2)
  obtain ⟨fs0, h11⟩ := hR'.at11
  rw [e11] at h1 h11 hX2 hX3
  have z7 : hp2[0]? = some (.inl (0, 7, .inl xs)) := z0.trans hR'.2.1
  refine ⟨hp2, w'.2.2, ?_, by rw [zl]; omega, r2⟩
  refine X.run 1 rfl ?_
  refine X.run 4 rfl ?_
  refine X.ial rfl rfl hR.2.1 rfl ?_
  refine X.run 4 rfl ?_
  refine X.ial rfl rfl hR.2.1 rfl ?_
  refine X.run 1 rfl ?_
  refine X.insL rfl rfl rfl (by decide) rfl rfl (by decide) rfl rfl rfl hX1 ?_
  refine X.run 2 rfl ?_
  refine X.run 4 rfl ?_
  refine X.ial rfl rfl hR'.2.1 rfl ?_
  refine X.run 4 rfl ?_
  refine X.ial rfl rfl hR'.2.1 rfl ?_
  refine X.inv rfl rfl rfl rfl rfl h11 rfl rfl rfl rfl hX2 ?_
  refine X.run 2 rfl ?_
  refine X.inv rfl rfl rfl rfl rfl h1 rfl rfl rfl rfl hX3 ?_
  refine X.run 1 rfl ?_
  refine X.icmp rfl rfl rfl (fun _ => ?_) (fun hc => absurd hc (by simp [xcmp]))
  refine X.run 1 rfl ?_
  rcases hkc with h | ⟨h, -⟩ | ⟨h, -⟩
  · have e1 : g' 0 = (Int32.ofInt y).toInt64 := by rw [hy h]; exact hg h
    have e2 : lg_cmp (g' (Int32.ofInt 0).toNatClampNeg) ((Int32.ofInt y).toInt64) = 0 := by
      show lg_cmp (g' 0) _ = 0
      rw [e1]
      exact lg_self _
    rw [h]
    refine X.ifc rfl rfl rfl (fun hc => absurd hc (by decide)) (fun _ => ?_)
    refine X.run 2 rfl ?_
    refine X.lal rfl rfl (zo.trans hR'.2.2.1) rfl ?_
    refine X.run 3 rfl ?_
    refine X.ifc rfl rfl rfl (fun _ => ?_) (fun hc => absurd hc (by rw [e2]; decide))
    refine X.run 1 rfl ?_
    exact l_end z7 _ (Or.inl rfl)
  · rw [h]
    refine X.ifc rfl rfl rfl (fun _ => ?_) (fun hc => absurd hc (by decide))
    refine X.run 1 rfl ?_
    exact l_end z7 _ (Or.inl rfl)
  · rw [h]
    refine X.ifc rfl rfl rfl (fun _ => ?_) (fun hc => absurd hc (by decide))
    refine X.run 1 rfl ?_
    exact l_end z7 _ (Or.inl rfl)
set_option maxRecDepth 20000 in
theorem lc_message (hR : lRy ph w H hp 7 xs po g) (hF : fRm F) (hC : cRest F w (zc 16) H) : lFin (d + 11) 938 F ph w hp po := by
  obtain ⟨je, ⟨mp, bp, sp, hP⟩, -⟩ := id hC
  have hx : w.1 10 (fX F) := hP.1.1.1
  have hkc : ∃ (k : Int) (c : Nat), k = (msgK (xs ((Int32.ofInt 0 + Int32.ofInt 1).toNatClampNeg)).toInt (xs ((Int32.ofInt 0 + Int32.ofInt 2).toNatClampNeg)).toInt) ∧ c = (if 0 ≤ (xs ((Int32.ofInt 0 + Int32.ofInt 1).toNatClampNeg)).toInt ∧ (xs ((Int32.ofInt 0 + Int32.ofInt 1).toNatClampNeg)).toInt ≤ 1 then 12 else 14) ∧ (k = 0 ∨ (k = 2 ∧ c = 12) ∨ (k = 1 ∧ c = 14)) := by
    refine ⟨_, _, rfl, rfl, ?_⟩
    by_cases h : 0 ≤ (xs ((Int32.ofInt 0 + Int32.ofInt 1).toNatClampNeg)).toInt ∧ (xs ((Int32.ofInt 0 + Int32.ofInt 1).toNatClampNeg)).toInt ≤ 1
    · by_cases h2 : 0 ≤ (xs ((Int32.ofInt 0 + Int32.ofInt 2).toNatClampNeg)).toInt ∧ (xs ((Int32.ofInt 0 + Int32.ofInt 2).toNatClampNeg)).toInt ≤ 5
      · exact Or.inl (by unfold msgK; rw [if_pos h, if_pos h2])
      · exact Or.inr (Or.inl ⟨by unfold msgK; rw [if_pos h, if_neg h2], by rw [if_pos h]⟩)
    · exact Or.inr (Or.inr ⟨by unfold msgK; rw [if_neg h], by rw [if_neg h]⟩)
  obtain ⟨k, c, ek, ec, hkc⟩ := hkc
  have hJ1 := c_message_ (d := d + 3) hF hP (b := true) (i32R (xs ((Int32.ofInt 0 + Int32.ofInt 1).toNatClampNeg))) (i32R (xs ((Int32.ofInt 0 + Int32.ofInt 2).toNatClampNeg)))
  have hJ2 := fun (w : jW) (H : jH) (hI : rInv (zc 16) H) => j_message (d := d) (w := w) (H := H) hI (i32R (xs ((Int32.ofInt 0 + Int32.ofInt 1).toNatClampNeg))) (i32R (xs ((Int32.ofInt 0 + Int32.ofInt 2).toNatClampNeg)))
  rw [← ek, ← ec] at hJ1
  rw [← ek] at hJ2
  have hh : k ≠ 0 → xhnd 185 5 c = some (Int32.ofInt k) := fun hk => by
    rcases hkc with h | ⟨h, h'⟩ | ⟨h, h'⟩
    · exact absurd h hk
    · rw [h, h']; rfl
    · rw [h, h']; rfl
  obtain ⟨w', H', ph', hp', g', hX1, hR', hg, e11, r1, r2⟩ := s_message (d := d + 9) hR hx hJ1 hh
  obtain ⟨y, hp1, hp2, hX2, hy, ⟨fs1, h1⟩, hX3, z0, zo, zl, z1⟩ := l_ref (vs := [.ref (ph' 11 0), .int (xs ((Int32.ofInt 0 + Int32.ofInt 1).toNatClampNeg)), .int (xs ((Int32.ofInt 0 + Int32.ofInt 2).toNatClampNeg))]) hR' (by simp only [List.map_cons, List.map_nil, i32m]; rfl) (hJ2 _ _ hR'.1.2)
  obtain ⟨fs0, h11⟩ := hR'.at11
  rw [e11] at h1 h11 hX2 hX3
  have z7 : hp2[0]? = some (.inl (0, 7, .inl xs)) := z0.trans hR'.2.1
  refine ⟨hp2, w'.2.2, ?_, by rw [zl]; omega, r2⟩
  refine X.run 1 rfl ?_
  refine X.run 4 rfl ?_
  refine X.ial rfl rfl hR.2.1 rfl ?_
  refine X.run 4 rfl ?_
  refine X.ial rfl rfl hR.2.1 rfl ?_
  refine X.run 1 rfl ?_
  refine X.insL rfl rfl rfl (by decide) rfl rfl (by decide) rfl rfl rfl hX1 ?_
  refine X.run 2 rfl ?_
  refine X.run 4 rfl ?_
  refine X.ial rfl rfl hR'.2.1 rfl ?_
  refine X.run 4 rfl ?_
  refine X.ial rfl rfl hR'.2.1 rfl ?_
  refine X.inv rfl rfl rfl rfl rfl h11 rfl rfl rfl rfl hX2 ?_
  refine X.run 2 rfl ?_
  refine X.inv rfl rfl rfl rfl rfl h1 rfl rfl rfl rfl hX3 ?_
  refine X.run 1 rfl ?_
  refine X.icmp rfl rfl rfl (fun _ => ?_) (fun hc => absurd hc (by simp [xcmp]))
  refine X.run 1 rfl ?_
  rcases hkc with h | ⟨h, -⟩ | ⟨h, -⟩
  · have e1 : g' 0 = (Int32.ofInt y).toInt64 := by rw [hy h]; exact hg h
    have e2 : lg_cmp (g' (Int32.ofInt 0).toNatClampNeg) ((Int32.ofInt y).toInt64) = 0 := by
      show lg_cmp (g' 0) _ = 0
      rw [e1]
      exact lg_self _
    rw [h]
    refine X.ifc rfl rfl rfl (fun hc => absurd hc (by decide)) (fun _ => ?_)
    refine X.run 2 rfl ?_
    refine X.lal rfl rfl (zo.trans hR'.2.2.1) rfl ?_
    refine X.run 3 rfl ?_
    refine X.ifc rfl rfl rfl (fun _ => ?_) (fun hc => absurd hc (by rw [e2]; decide))
    refine X.run 1 rfl ?_
    exact l_end z7 _ (Or.inl rfl)
  · rw [h]
    refine X.ifc rfl rfl rfl (fun _ => ?_) (fun hc => absurd hc (by decide))
    refine X.run 1 rfl ?_
    exact l_end z7 _ (Or.inl rfl)
  · rw [h]
    refine X.ifc rfl rfl rfl (fun _ => ?_) (fun hc => absurd hc (by decide))
    refine X.run 1 rfl ?_
    exact l_end z7 _ (Or.inl rfl)
set_option maxRecDepth 20000 in
theorem lc_of (hR : lRy ph w H hp 7 xs po g) (hF : fRm F) (hC : cRest F w (zc 16) H) : lFin (d + 11) 1006 F ph w hp po := by
  obtain ⟨je, ⟨mp, bp, sp, hP⟩, -⟩ := id hC
  have hx : w.1 10 (fX F) := hP.1.1.1
  have hkc : ∃ (k : Int) (c : Nat), k = (ofK (xs ((Int32.ofInt 0 + Int32.ofInt 1).toNatClampNeg)).toInt (xs ((Int32.ofInt 0 + Int32.ofInt 2).toNatClampNeg)).toInt) ∧ c = (if 0 ≤ (xs ((Int32.ofInt 0 + Int32.ofInt 1).toNatClampNeg)).toInt ∧ (xs ((Int32.ofInt 0 + Int32.ofInt 1).toNatClampNeg)).toInt ≤ 1 then 12 else 14) ∧ (k = 0 ∨ (k = 2 ∧ c = 12) ∨ (k = 1 ∧ c = 14)) := by
    refine ⟨_, _, rfl, rfl, ?_⟩
    by_cases h : 0 ≤ (xs ((Int32.ofInt 0 + Int32.ofInt 1).toNatClampNeg)).toInt ∧ (xs ((Int32.ofInt 0 + Int32.ofInt 1).toNatClampNeg)).toInt ≤ 1
    · by_cases h2 : 0 ≤ (xs ((Int32.ofInt 0 + Int32.ofInt 2).toNatClampNeg)).toInt ∧ (xs ((Int32.ofInt 0 + Int32.ofInt 2).toNatClampNeg)).toInt ≤ 32
      · exact Or.inl (by unfold ofK; rw [if_pos h, if_pos h2])
      · exact Or.inr (Or.inl ⟨by unfold ofK; rw [if_pos h, if_neg h2], by rw [if_pos h]⟩)
    · exact Or.inr (Or.inr ⟨by unfold ofK; rw [if_neg h], by rw [if_neg h]⟩)
  obtain ⟨k, c, ek, ec, hkc⟩ := hkc
  have hJ1 := c_of (d := d + 3) hF hP (b := true) (i32R (xs ((Int32.ofInt 0 + Int32.ofInt 1).toNatClampNeg))) (i32R (xs ((Int32.ofInt 0 + Int32.ofInt 2).toNatClampNeg)))
  have hJ2 := fun (w : jW) (H : jH) (hI : rInv (zc 16) H) => j_of (d := d) (w := w) (H := H) hI (i32R (xs ((Int32.ofInt 0 + Int32.ofInt 1).toNatClampNeg))) (i32R (xs ((Int32.ofInt 0 + Int32.ofInt 2).toNatClampNeg)))
  rw [← ek, ← ec] at hJ1
  rw [← ek] at hJ2
  have hh : k ≠ 0 → xhnd 186 5 c = some (Int32.ofInt k) := fun hk => by
    rcases hkc with h | ⟨h, h'⟩ | ⟨h, h'⟩
    · exact absurd h hk
    · rw [h, h']; rfl
    · rw [h, h']; rfl
  obtain ⟨w', H', ph', hp', g', hX1, hR', hg, e11, r1, r2⟩ := s_of (d := d + 9) hR hx hJ1 hh
  obtain ⟨y, hp1, hp2, hX2, hy, ⟨fs1, h1⟩, hX3, z0, zo, zl, z1⟩ := l_ref (vs := [.ref (ph' 11 0), .int (xs ((Int32.ofInt 0 + Int32.ofInt 1).toNatClampNeg)), .int (xs ((Int32.ofInt 0 + Int32.ofInt 2).toNatClampNeg))]) hR' (by simp only [List.map_cons, List.map_nil, i32m]; rfl) (hJ2 _ _ hR'.1.2)
  obtain ⟨fs0, h11⟩ := hR'.at11
  rw [e11] at h1 h11 hX2 hX3
  have z7 : hp2[0]? = some (.inl (0, 7, .inl xs)) := z0.trans hR'.2.1
  refine ⟨hp2, w'.2.2, ?_, by rw [zl]; omega, r2⟩
  refine X.run 1 rfl ?_
  refine X.run 4 rfl ?_
  refine X.ial rfl rfl hR.2.1 rfl ?_
  refine X.run 4 rfl ?_
  refine X.ial rfl rfl hR.2.1 rfl ?_
  refine X.run 1 rfl ?_
  refine X.insL rfl rfl rfl (by decide) rfl rfl (by decide) rfl rfl rfl hX1 ?_
  refine X.run 2 rfl ?_
  refine X.run 4 rfl ?_
  refine X.ial rfl rfl hR'.2.1 rfl ?_
  refine X.run 4 rfl ?_
  refine X.ial rfl rfl hR'.2.1 rfl ?_
  refine X.inv rfl rfl rfl rfl rfl h11 rfl rfl rfl rfl hX2 ?_
  refine X.run 2 rfl ?_
  refine X.inv rfl rfl rfl rfl rfl h1 rfl rfl rfl rfl hX3 ?_
  refine X.run 1 rfl ?_
  refine X.icmp rfl rfl rfl (fun _ => ?_) (fun hc => absurd hc (by simp [xcmp]))
  refine X.run 1 rfl ?_
  rcases hkc with h | ⟨h, -⟩ | ⟨h, -⟩
  · have e1 : g' 0 = (Int32.ofInt y).toInt64 := by rw [hy h]; exact hg h
    have e2 : lg_cmp (g' (Int32.ofInt 0).toNatClampNeg) ((Int32.ofInt y).toInt64) = 0 := by
      show lg_cmp (g' 0) _ = 0
      rw [e1]
      exact lg_self _
    rw [h]
    refine X.ifc rfl rfl rfl (fun hc => absurd hc (by decide)) (fun _ => ?_)
    refine X.run 2 rfl ?_
    refine X.lal rfl rfl (zo.trans hR'.2.2.1) rfl ?_
    refine X.run 3 rfl ?_
    refine X.ifc rfl rfl rfl (fun _ => ?_) (fun hc => absurd hc (by rw [e2]; decide))
    refine X.run 1 rfl ?_
    exact l_end z7 _ (Or.inl rfl)
  · rw [h]
    refine X.ifc rfl rfl rfl (fun _ => ?_) (fun hc => absurd hc (by decide))
    refine X.run 1 rfl ?_
    exact l_end z7 _ (Or.inl rfl)
  · rw [h]
    refine X.ifc rfl rfl rfl (fun _ => ?_) (fun hc => absurd hc (by decide))
    refine X.run 1 rfl ?_
    exact l_end z7 _ (Or.inl rfl)
set_option maxRecDepth 20000 in
theorem lc_account (hR : lRy ph w H hp 7 xs po g) (hF : fRm F) (hC : cRest F w (zc 16) H) : lFin (d + 11) 1074 F ph w hp po := by
  obtain ⟨je, ⟨mp, bp, sp, hP⟩, -⟩ := id hC
  have hx : w.1 10 (fX F) := hP.1.1.1
  have hkc : ∃ (k : Int) (c : Nat), k = (accK (xs ((Int32.ofInt 0 + Int32.ofInt 1).toNatClampNeg)).toInt (xs ((Int32.ofInt 0 + Int32.ofInt 2).toNatClampNeg)).toInt (xs ((Int32.ofInt 0 + Int32.ofInt 3).toNatClampNeg)).toInt) ∧ c = (if isA (xs ((Int32.ofInt 0 + Int32.ofInt 1).toNatClampNeg)).toInt (xs ((Int32.ofInt 0 + Int32.ofInt 2).toNatClampNeg)).toInt then 12 else 14) ∧ (k = 0 ∨ (k = 3 ∧ c = 12) ∨ (k = 1 ∧ c = 14)) := by
    refine ⟨_, _, rfl, rfl, ?_⟩
    by_cases h : isA (xs ((Int32.ofInt 0 + Int32.ofInt 1).toNatClampNeg)).toInt (xs ((Int32.ofInt 0 + Int32.ofInt 2).toNatClampNeg)).toInt
    · by_cases h2 : 0 ≤ (xs ((Int32.ofInt 0 + Int32.ofInt 3).toNatClampNeg)).toInt ∧ (xs ((Int32.ofInt 0 + Int32.ofInt 3).toNatClampNeg)).toInt ≤ 17
      · exact Or.inl (by unfold accK; rw [if_pos h, if_pos h2])
      · exact Or.inr (Or.inl ⟨by unfold accK; rw [if_pos h, if_neg h2], by rw [if_pos h]⟩)
    · exact Or.inr (Or.inr ⟨by unfold accK; rw [if_neg h], by rw [if_neg h]⟩)
  obtain ⟨k, c, ek, ec, hkc⟩ := hkc
  have hJ1 := c_account (d := d + 3) hF hP (b := true) (i32R (xs ((Int32.ofInt 0 + Int32.ofInt 1).toNatClampNeg))) (i32R (xs ((Int32.ofInt 0 + Int32.ofInt 2).toNatClampNeg))) (i32R (xs ((Int32.ofInt 0 + Int32.ofInt 3).toNatClampNeg)))
  have hJ2 := fun (w : jW) (H : jH) (hI : rInv (zc 16) H) => j_account (d := d) (w := w) (H := H) hI (i32R (xs ((Int32.ofInt 0 + Int32.ofInt 1).toNatClampNeg))) (i32R (xs ((Int32.ofInt 0 + Int32.ofInt 2).toNatClampNeg))) (i32R (xs ((Int32.ofInt 0 + Int32.ofInt 3).toNatClampNeg)))
  rw [← ek, ← ec] at hJ1
  rw [← ek] at hJ2
  have hh : k ≠ 0 → xhnd 187 7 c = some (Int32.ofInt k) := fun hk => by
    rcases hkc with h | ⟨h, h'⟩ | ⟨h, h'⟩
    · exact absurd h hk
    · rw [h, h']; rfl
    · rw [h, h']; rfl
  obtain ⟨w', H', ph', hp', g', hX1, hR', hg, e11, r1, r2⟩ := s_account (d := d + 9) hR hx hJ1 hh
  obtain ⟨y, hp1, hp2, hX2, hy, ⟨fs1, h1⟩, hX3, z0, zo, zl, z1⟩ := l_ref (vs := [.ref (ph' 11 0), .int (xs ((Int32.ofInt 0 + Int32.ofInt 1).toNatClampNeg)), .int (xs ((Int32.ofInt 0 + Int32.ofInt 2).toNatClampNeg)), .int (xs ((Int32.ofInt 0 + Int32.ofInt 3).toNatClampNeg))]) hR' (by simp only [List.map_cons, List.map_nil, i32m]; rfl) (hJ2 _ _ hR'.1.2)
  obtain ⟨fs0, h11⟩ := hR'.at11
  rw [e11] at h1 h11 hX2 hX3
  have z7 : hp2[0]? = some (.inl (0, 7, .inl xs)) := z0.trans hR'.2.1
  refine ⟨hp2, w'.2.2, ?_, by rw [zl]; omega, r2⟩
  refine X.run 1 rfl ?_
  refine X.run 4 rfl ?_
  refine X.ial rfl rfl hR.2.1 rfl ?_
  refine X.run 4 rfl ?_
  refine X.ial rfl rfl hR.2.1 rfl ?_
  refine X.run 4 rfl ?_
  refine X.ial rfl rfl hR.2.1 rfl ?_
  refine X.run 1 rfl ?_
  refine X.insL rfl rfl rfl (by decide) rfl rfl (by decide) rfl rfl rfl hX1 ?_
  refine X.run 2 rfl ?_
  refine X.run 4 rfl ?_
  refine X.ial rfl rfl hR'.2.1 rfl ?_
  refine X.run 4 rfl ?_
  refine X.ial rfl rfl hR'.2.1 rfl ?_
  refine X.run 4 rfl ?_
  refine X.ial rfl rfl hR'.2.1 rfl ?_
  refine X.inv rfl rfl rfl rfl rfl h11 rfl rfl rfl rfl hX2 ?_
  refine X.run 2 rfl ?_
  refine X.inv rfl rfl rfl rfl rfl h1 rfl rfl rfl rfl hX3 ?_
  refine X.run 1 rfl ?_
  refine X.icmp rfl rfl rfl (fun _ => ?_) (fun hc => absurd hc (by simp [xcmp]))
  refine X.run 1 rfl ?_
  rcases hkc with h | ⟨h, -⟩ | ⟨h, -⟩
  · have e1 : g' 0 = (Int32.ofInt y).toInt64 := by rw [hy h]; exact hg h
    have e2 : lg_cmp (g' (Int32.ofInt 0).toNatClampNeg) ((Int32.ofInt y).toInt64) = 0 := by
      show lg_cmp (g' 0) _ = 0
      rw [e1]
      exact lg_self _
    rw [h]
    refine X.ifc rfl rfl rfl (fun hc => absurd hc (by decide)) (fun _ => ?_)
    refine X.run 2 rfl ?_
    refine X.lal rfl rfl (zo.trans hR'.2.2.1) rfl ?_
    refine X.run 3 rfl ?_
    refine X.ifc rfl rfl rfl (fun _ => ?_) (fun hc => absurd hc (by rw [e2]; decide))
    refine X.run 1 rfl ?_
    exact l_end z7 _ (Or.inl rfl)
  · rw [h]
    refine X.ifc rfl rfl rfl (fun _ => ?_) (fun hc => absurd hc (by decide))
    refine X.run 1 rfl ?_
    exact l_end z7 _ (Or.inl rfl)
  · rw [h]
    refine X.ifc rfl rfl rfl (fun _ => ?_) (fun hc => absurd hc (by decide))
    refine X.run 1 rfl ?_
    exact l_end z7 _ (Or.inl rfl)
set_option maxRecDepth 20000 in
theorem lc_sum (hR : lRy ph w H hp 7 xs po g) (hF : fRm F) (hC : cRest F w (zc 16) H) : lFin (d + 11) 1154 F ph w hp po := by
  obtain ⟨je, ⟨mp, bp, sp, hP⟩, -⟩ := id hC
  have hx : w.1 10 (fX F) := hP.1.1.1
  have hkc : ∃ (k : Int) (c : Nat), k = (sumK (xs ((Int32.ofInt 0 + Int32.ofInt 1).toNatClampNeg)).toInt (xs ((Int32.ofInt 0 + Int32.ofInt 2).toNatClampNeg)).toInt) ∧ c = (if 0 ≤ (xs ((Int32.ofInt 0 + Int32.ofInt 1).toNatClampNeg)).toInt ∧ (xs ((Int32.ofInt 0 + Int32.ofInt 1).toNatClampNeg)).toInt ≤ 1 then 12 else 14) ∧ (k = 0 ∨ (k = 3 ∧ c = 12) ∨ (k = 1 ∧ c = 14)) := by
    refine ⟨_, _, rfl, rfl, ?_⟩
    by_cases h : 0 ≤ (xs ((Int32.ofInt 0 + Int32.ofInt 1).toNatClampNeg)).toInt ∧ (xs ((Int32.ofInt 0 + Int32.ofInt 1).toNatClampNeg)).toInt ≤ 1
    · by_cases h2 : 0 ≤ (xs ((Int32.ofInt 0 + Int32.ofInt 2).toNatClampNeg)).toInt ∧ (xs ((Int32.ofInt 0 + Int32.ofInt 2).toNatClampNeg)).toInt ≤ 20
      · exact Or.inl (by unfold sumK; rw [if_pos h, if_pos h2])
      · exact Or.inr (Or.inl ⟨by unfold sumK; rw [if_pos h, if_neg h2], by rw [if_pos h]⟩)
    · exact Or.inr (Or.inr ⟨by unfold sumK; rw [if_neg h], by rw [if_neg h]⟩)
  obtain ⟨k, c, ek, ec, hkc⟩ := hkc
  have hJ1 := c_sum (d := d + 3) hF hP (b := true) (i32R (xs ((Int32.ofInt 0 + Int32.ofInt 1).toNatClampNeg))) (i32R (xs ((Int32.ofInt 0 + Int32.ofInt 2).toNatClampNeg)))
  have hJ2 := fun (w : jW) (H : jH) (hI : rInv (zc 16) H) => j_sum (d := d) (w := w) (H := H) hI (i32R (xs ((Int32.ofInt 0 + Int32.ofInt 1).toNatClampNeg))) (i32R (xs ((Int32.ofInt 0 + Int32.ofInt 2).toNatClampNeg)))
  rw [← ek, ← ec] at hJ1
  rw [← ek] at hJ2
  have hh : k ≠ 0 → xhnd 188 5 c = some (Int32.ofInt k) := fun hk => by
    rcases hkc with h | ⟨h, h'⟩ | ⟨h, h'⟩
    · exact absurd h hk
    · rw [h, h']; rfl
    · rw [h, h']; rfl
  obtain ⟨w', H', ph', hp', g', hX1, hR', hg, e11, r1, r2⟩ := s_sum (d := d + 9) hR hx hJ1 hh
  obtain ⟨y, hp1, hp2, hX2, hy, ⟨fs1, h1⟩, hX3, z0, zo, zl, z1⟩ := l_ref (vs := [.ref (ph' 11 0), .int (xs ((Int32.ofInt 0 + Int32.ofInt 1).toNatClampNeg)), .int (xs ((Int32.ofInt 0 + Int32.ofInt 2).toNatClampNeg))]) hR' (by simp only [List.map_cons, List.map_nil, i32m]; rfl) (hJ2 _ _ hR'.1.2)
  obtain ⟨fs0, h11⟩ := hR'.at11
  rw [e11] at h1 h11 hX2 hX3
  have z7 : hp2[0]? = some (.inl (0, 7, .inl xs)) := z0.trans hR'.2.1
  refine ⟨hp2, w'.2.2, ?_, by rw [zl]; omega, r2⟩
  refine X.run 1 rfl ?_
  refine X.run 4 rfl ?_
  refine X.ial rfl rfl hR.2.1 rfl ?_
  refine X.run 4 rfl ?_
  refine X.ial rfl rfl hR.2.1 rfl ?_
  refine X.run 1 rfl ?_
  refine X.insL rfl rfl rfl (by decide) rfl rfl (by decide) rfl rfl rfl hX1 ?_
  refine X.run 2 rfl ?_
  refine X.run 4 rfl ?_
  refine X.ial rfl rfl hR'.2.1 rfl ?_
  refine X.run 4 rfl ?_
  refine X.ial rfl rfl hR'.2.1 rfl ?_
  refine X.inv rfl rfl rfl rfl rfl h11 rfl rfl rfl rfl hX2 ?_
  refine X.run 2 rfl ?_
  refine X.inv rfl rfl rfl rfl rfl h1 rfl rfl rfl rfl hX3 ?_
  refine X.run 1 rfl ?_
  refine X.icmp rfl rfl rfl (fun _ => ?_) (fun hc => absurd hc (by simp [xcmp]))
  refine X.run 1 rfl ?_
  rcases hkc with h | ⟨h, -⟩ | ⟨h, -⟩
  · have e1 : g' 0 = (Int32.ofInt y).toInt64 := by rw [hy h]; exact hg h
    have e2 : lg_cmp (g' (Int32.ofInt 0).toNatClampNeg) ((Int32.ofInt y).toInt64) = 0 := by
      show lg_cmp (g' 0) _ = 0
      rw [e1]
      exact lg_self _
    rw [h]
    refine X.ifc rfl rfl rfl (fun hc => absurd hc (by decide)) (fun _ => ?_)
    refine X.run 2 rfl ?_
    refine X.lal rfl rfl (zo.trans hR'.2.2.1) rfl ?_
    refine X.run 3 rfl ?_
    refine X.ifc rfl rfl rfl (fun _ => ?_) (fun hc => absurd hc (by rw [e2]; decide))
    refine X.run 1 rfl ?_
    exact l_end z7 _ (Or.inl rfl)
  · rw [h]
    refine X.ifc rfl rfl rfl (fun _ => ?_) (fun hc => absurd hc (by decide))
    refine X.run 1 rfl ?_
    exact l_end z7 _ (Or.inl rfl)
  · rw [h]
    refine X.ifc rfl rfl rfl (fun _ => ?_) (fun hc => absurd hc (by decide))
    refine X.run 1 rfl ?_
    exact l_end z7 _ (Or.inl rfl)
set_option maxRecDepth 20000 in
theorem lc_follow (hR : lRy ph w H hp 7 xs po g) (hF : fRm F) (hC : cRest F w (zc 16) H) : lFin (d + 11) 1222 F ph w hp po := by
  obtain ⟨je, ⟨mp, bp, sp, hP⟩, -⟩ := id hC
  have hx : w.1 10 (fX F) := hP.1.1.1
  have hkc : ∃ k : Int, k = (if 0 ≤ (xs ((Int32.ofInt 0 + Int32.ofInt 1).toNatClampNeg)).toInt ∧ (xs ((Int32.ofInt 0 + Int32.ofInt 1).toNatClampNeg)).toInt ≤ 1 then 0 else 1) ∧ (k = 0 ∨ k = 1) := by
    refine ⟨_, rfl, ?_⟩
    by_cases h : 0 ≤ (xs ((Int32.ofInt 0 + Int32.ofInt 1).toNatClampNeg)).toInt ∧ (xs ((Int32.ofInt 0 + Int32.ofInt 1).toNatClampNeg)).toInt ≤ 1
    · exact Or.inl (by rw [if_pos h])
    · exact Or.inr (by rw [if_neg h])
  obtain ⟨k, ek, hkc⟩ := hkc
  have hJ1 := c_follow (d := d + 3) hF hP (b := true) (i32R (xs ((Int32.ofInt 0 + Int32.ofInt 1).toNatClampNeg)))
  have hJ2 := fun (w : jW) (H : jH) (hI : rInv (zc 16) H) => j_follow (d := d) (w := w) (H := H) hI (i32R (xs ((Int32.ofInt 0 + Int32.ofInt 1).toNatClampNeg)))
  rw [← ek] at hJ1 hJ2
  have hh : k ≠ 0 → xhnd 189 4 14 = some (Int32.ofInt k) := fun hk => by
    rcases hkc with h | h
    · exact absurd h hk
    · rw [h]; rfl
  obtain ⟨w', H', ph', hp', g', hX1, hR', hg, e11, r1, r2⟩ := s_follow (d := d + 9) hR hx hJ1 hh
  obtain ⟨y, hp1, hp2, hX2, hy, ⟨fs1, h1⟩, hX3, z0, zo, zl, z1⟩ := l_ref (vs := [.ref (ph' 11 0), .int (xs ((Int32.ofInt 0 + Int32.ofInt 1).toNatClampNeg))]) hR' (by simp only [List.map_cons, List.map_nil, i32m]; rfl) (hJ2 _ _ hR'.1.2)
  obtain ⟨fs0, h11⟩ := hR'.at11
  rw [e11] at h1 h11 hX2 hX3
  have z7 : hp2[0]? = some (.inl (0, 7, .inl xs)) := z0.trans hR'.2.1
  refine ⟨hp2, w'.2.2, ?_, by rw [zl]; omega, r2⟩
  refine X.run 1 rfl ?_
  refine X.run 4 rfl ?_
  refine X.ial rfl rfl hR.2.1 rfl ?_
  refine X.run 1 rfl ?_
  refine X.insL rfl rfl rfl (by decide) rfl rfl (by decide) rfl rfl rfl hX1 ?_
  refine X.run 2 rfl ?_
  refine X.run 4 rfl ?_
  refine X.ial rfl rfl hR'.2.1 rfl ?_
  refine X.inv rfl rfl rfl rfl rfl h11 rfl rfl rfl rfl hX2 ?_
  refine X.run 2 rfl ?_
  refine X.inv rfl rfl rfl rfl rfl h1 rfl rfl rfl rfl hX3 ?_
  refine X.run 1 rfl ?_
  refine X.icmp rfl rfl rfl (fun _ => ?_) (fun hc => absurd hc (by simp [xcmp]))
  refine X.run 1 rfl ?_
  rcases hkc with h | h
  · have e1 : g' 0 = (Int32.ofInt y).toInt64 := by rw [hy h]; exact hg h
    have e2 : lg_cmp (g' (Int32.ofInt 0).toNatClampNeg) ((Int32.ofInt y).toInt64) = 0 := by
      show lg_cmp (g' 0) _ = 0
      rw [e1]
      exact lg_self _
    rw [h]
    refine X.ifc rfl rfl rfl (fun hc => absurd hc (by decide)) (fun _ => ?_)
    refine X.run 2 rfl ?_
    refine X.lal rfl rfl (zo.trans hR'.2.2.1) rfl ?_
    refine X.run 3 rfl ?_
    refine X.ifc rfl rfl rfl (fun _ => ?_) (fun hc => absurd hc (by rw [e2]; decide))
    refine X.run 1 rfl ?_
    exact l_end z7 _ (Or.inl rfl)
  · rw [h]
    refine X.ifc rfl rfl rfl (fun _ => ?_) (fun hc => absurd hc (by decide))
    refine X.run 1 rfl ?_
    exact l_end z7 _ (Or.inl rfl)
set_option maxRecDepth 20000 in
theorem lc_count (hR : lRy ph w H hp 7 xs po g) (hF : fRm F) (hC : cRest F w (zc 16) H) : lFin (d + 11) 1278 F ph w hp po := by
  obtain ⟨je, ⟨mp, bp, sp, hP⟩, -⟩ := id hC
  have hx : w.1 10 (fX F) := hP.1.1.1
  have hkc : ∃ k : Int, k = (cntK (xs ((Int32.ofInt 0 + Int32.ofInt 1).toNatClampNeg)).toInt) ∧ (k = 0 ∨ k = 1) := by
    refine ⟨_, rfl, ?_⟩
    by_cases h : 0 ≤ (xs ((Int32.ofInt 0 + Int32.ofInt 1).toNatClampNeg)).toInt ∧ (xs ((Int32.ofInt 0 + Int32.ofInt 1).toNatClampNeg)).toInt ≤ 8
    · exact Or.inl (by unfold cntK; rw [if_pos h])
    · exact Or.inr (by unfold cntK; rw [if_neg h])
  obtain ⟨k, ek, hkc⟩ := hkc
  have hJ1 := c_count (d := d + 3) hF hP (i32R (xs ((Int32.ofInt 0 + Int32.ofInt 1).toNatClampNeg)))
  have hJ2 := fun (w : jW) (H : jH) (hI : rInv (zc 16) H) => j_count (d := d) (w := w) (H := H) hI (i32R (xs ((Int32.ofInt 0 + Int32.ofInt 1).toNatClampNeg)))
  rw [← ek] at hJ1 hJ2
  have hh : k ≠ 0 → xhnd 190 4 12 = some (Int32.ofInt k) := fun hk => by
    rcases hkc with h | h
    · exact absurd h hk
    · rw [h]; rfl
  obtain ⟨w', H', ph', hp', g', hX1, hR', hg, e11, r1, r2⟩ := s_count (d := d + 9) hR hx hJ1 hh
  obtain ⟨y, hp1, hp2, hX2, hy, ⟨fs1, h1⟩, hX3, z0, zo, zl, z1⟩ := l_ref (vs := [.ref (ph' 11 0), .int (xs ((Int32.ofInt 0 + Int32.ofInt 1).toNatClampNeg))]) hR' (by simp only [List.map_cons, List.map_nil, i32m]; rfl) (hJ2 _ _ hR'.1.2)
  obtain ⟨fs0, h11⟩ := hR'.at11
  rw [e11] at h1 h11 hX2 hX3
  have z7 : hp2[0]? = some (.inl (0, 7, .inl xs)) := z0.trans hR'.2.1
  refine ⟨hp2, w'.2.2, ?_, by rw [zl]; omega, r2⟩
  refine X.run 1 rfl ?_
  refine X.run 4 rfl ?_
  refine X.ial rfl rfl hR.2.1 rfl ?_
  refine X.run 1 rfl ?_
  refine X.insL rfl rfl rfl (by decide) rfl rfl (by decide) rfl rfl rfl hX1 ?_
  refine X.run 2 rfl ?_
  refine X.run 4 rfl ?_
  refine X.ial rfl rfl hR'.2.1 rfl ?_
  refine X.inv rfl rfl rfl rfl rfl h11 rfl rfl rfl rfl hX2 ?_
  refine X.run 2 rfl ?_
  refine X.inv rfl rfl rfl rfl rfl h1 rfl rfl rfl rfl hX3 ?_
  refine X.run 1 rfl ?_
  refine X.icmp rfl rfl rfl (fun _ => ?_) (fun hc => absurd hc (by simp [xcmp]))
  refine X.run 1 rfl ?_
  rcases hkc with h | h
  · have e1 : g' 0 = (Int32.ofInt y).toInt64 := by rw [hy h]; exact hg h
    have e2 : lg_cmp (g' (Int32.ofInt 0).toNatClampNeg) ((Int32.ofInt y).toInt64) = 0 := by
      show lg_cmp (g' 0) _ = 0
      rw [e1]
      exact lg_self _
    rw [h]
    refine X.ifc rfl rfl rfl (fun hc => absurd hc (by decide)) (fun _ => ?_)
    refine X.run 2 rfl ?_
    refine X.lal rfl rfl (zo.trans hR'.2.2.1) rfl ?_
    refine X.run 3 rfl ?_
    refine X.ifc rfl rfl rfl (fun _ => ?_) (fun hc => absurd hc (by rw [e2]; decide))
    refine X.run 1 rfl ?_
    exact l_end z7 _ (Or.inl rfl)
  · rw [h]
    refine X.ifc rfl rfl rfl (fun _ => ?_) (fun hc => absurd hc (by decide))
    refine X.run 1 rfl ?_
    exact l_end z7 _ (Or.inl rfl)
end TI
