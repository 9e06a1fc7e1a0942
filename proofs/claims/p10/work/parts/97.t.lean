/-! the class's calls on a new object: expire, all -/
section TC
variable {b : Bool} {d : Nat} {w : jW} {H : jH} {F : cF} {je mp bp sp : Nat → Nat}
/-- what is asked of NODE n before it votes for none -/
def kN (F : cF) (w : jW) (H : jH) (n q s : Nat) : Prop :=
  (n < 16 ∧ n ≠ 1 ∧ w.1 6 (fN F n) ∧ w.1 26 (fN F n) ∧ w.1 27 (fN F n) ∧ H.2.2.2.2 6 1 (fN F n) = q ∧ H.1 6 2 (fN F n) = 0 ∧ H.1 6 3 (fN F n) = 1 ∧ H.1 6 8 (fN F n) = 0 ∧ H.1 6 9 (fN F n) = 0 ∧ H.1 6 10 (fN F n) = 0 ∧ H.1 6 11 (fN F n) = 0) ∧
  (H.1 6 0 (fN F n) = (n : Int) ∧ ∀ i : Nat, i < 6000 → mb (H.2.2.1 27 (fN F n) ((i / 32 : Nat) : Int)) (i % 32) = false) ∧
  (0 < q ∧ w.1 0 q ∧ H.1 0 1 q = 0 ∧ H.2.1 0 6 q = some s ∧ w.1 8 s ∧ cSt2 w H s)
theorem k_learn {P m : Nat} {a2 : Option (Nat × Nat)} (ha2 : jtkP b w (.inr a2)) (h6 : w.1 6 P) (hh : w.1 26 P) (h5 : w.1 5 m) (hnum : H.1 5 0 m = ((2 : Nat) : Int)) (hk : H.1 5 1 m = 1) : J b d 42 w (0, jargs 0 [.inr (some (6, P)), .inr (some (5, m)), .inr a2], [], H) (jN fun r w' H' => r = none ∧ w' = w ∧ jK [6] [26] H' H ∧ (∀ j, j ≠ 16 → H'.1 6 j P = H.1 6 j P) ∧ H'.2.2.2.2 = H.2.2.2.2 ∧ mb (H'.2.2.1 26 P ((2 / 32 : Nat) : Int)) (2 % 32) = true) := by
  have ix := jidx (i := 2) (by decide)
  have i1 : 0 ≤ jushr (H.1 5 0 m) 5 := by rw [hnum, ix.1]; decide
  have i2 : jushr (H.1 5 0 m) 5 < 188 := by rw [hnum, ix.1]; decide
  refine J.run 24 rfl ⟨⟨h6, hh⟩, h5, ⟨hh, i1, i2⟩, h5, ⟨hh, i1, i2⟩, h6, h6, h5⟩ ?_
  try dsimp only
  refine J.gn fun H1 hH1 => ?_
  have hK1 : jK [6] [26] H1 H := by
    rw [hH1]
    refine jK.int ?_ (by decide)
    refine jK.row ?_ (by decide)
    exact jK.refl _ _ _
  have q2 : H1.2.2.1 26 P = jup (H.2.2.1 26 P) ((2 / 32 : Nat) : Int) (jor (H.2.2.1 26 P ((2 / 32 : Nat) : Int)) (jshl 1 ((2 % 32 : Nat) : Int))) := by
    rw [hH1]
    show jsetR H.2.2.1 26 P (jup (H.2.2.1 26 P) (jushr (H.1 5 0 m) 5) (jor (H.2.2.1 26 P (jushr (H.1 5 0 m) 5)) (jshl 1 (jand (H.1 5 0 m) 31)))) 26 P = _
    rw [jsetR_eq, hnum, ix.1, ix.2]
  have q4 : ∀ j, j ≠ 16 → H1.1 6 j P = H.1 6 j P := fun j h => by
    rw [hH1]
    show jupF H.1 6 16 P _ 6 j P = _
    exact jupF_ne fun z => h z.2.1
  have q5 : H1.2.2.2.2 = H.2.2.2.2 := by rw [hH1]
  clear hH1
  refine J.ifc rfl rfl rfl ⟨show -2147483648 ≤ H.1 5 1 m by rw [hk]; decide, show H.1 5 1 m ≤ 2147483647 by rw [hk]; decide⟩ (fun _ => ?_) (fun hc => absurd (show ¬ H.1 5 1 m = 0 by rw [hk]; decide) hc)
  refine J.retv rfl rfl rfl ⟨_, rfl, rfl, rfl, hK1, q4, q5, ?_⟩
  rw [q2]
  unfold jup
  rw [if_pos rfl, mb_or, mb_shl (by decide) (by decide)]
  simp
set_option maxRecDepth 8000 in
theorem k_sendRec {n q s e : Nat} (hT : cTop F w H) (hM : cMs F w (zc 16) H mp) (hN : kN F w H n q s) (h2 : w.1 2 e) (e1 : H.1 2 0 e = ((1 : Nat) : Int)) (e2 : H.1 2 1 e = -1) (e3 : H.1 2 2 e = -1) (e4 : H.1 2 3 e = 0) :
    J b (d + 2) 98 w (0, jargs 0 [.inr (some (10, fX F)), .inr (some (6, fN F n)), .inr (some (2, e))], [], H) (jN fun r w' H' => r = none ∧ w'.2.1 = w.2.1 + 1 ∧ w'.2.2 = w.2.2 + 8 ∧ jCl H' H ∧ H'.1 7 4 (fP F) = 3 ∧ kX F w' H' n q s (mp 0) (mp 1) w.2.1) := by
  have hz := zc_inv 16 (Nat.le_refl _)
  have hT0 := hT
  obtain ⟨⟨t1, t2, t3, t4, t5, t6, t7, t8⟩, -⟩ := hT0
  obtain ⟨⟨hn, hn1, n1, n2, n3, n4, n5, n6, n7, n8, n9, n10⟩, ⟨n11, n12⟩, q1, q2, q3, q4, q5, q6⟩ := hN
  have hM0 := hM
  obtain ⟨⟨a1, a2, a3, a4, a5⟩, bb, cc, dd, ee⟩ := hM0
  refine J.run 7 rfl ⟨⟨t1, by rw [t4]; exact t7⟩, h2, n1⟩ ?_
  try dsimp only
  try dsimp only
  rw [t4, e1, n11]
  refine J.inv rfl rfl rfl rfl rfl rfl ((jD_w rfl).mpr n1) rfl rfl rfl rfl rfl (c_height n1 n4 q1 q2) ?_
  rintro r w' H' ⟨rfl, rfl, rfl⟩
  rw [q3, show (0 : Int) + 1 = ((1 : Nat) : Int) from rfl]
  refine J.run 6 rfl ⟨h2, h2, h2⟩ ?_
  try dsimp only
  try dsimp only
  rw [e2, e3, e4]
  refine J.inv rfl rfl rfl rfl rfl rfl ((jD_w rfl).mpr a1) rfl rfl rfl rfl rfl (c_addR (kd := 1) (n := n) (h := 1) (bl := -1) hz hM (by rw [zM16]; decide) (by decide)) ?_
  rintro r w1 H1 ⟨rfl, rfl, hK1, hA1, s1, s2, s3, s4, s5, s6, s7, s8, s9, s10, hp0, hfr⟩
  rw [zM16] at s1 s4 hfr
  obtain ⟨f1, f2, f3, f4, f5, f6, f7⟩ := s4
  have g5 : (jwA w' 5 w'.2.1 8).1 5 w'.2.1 := Or.inr ⟨rfl, rfl⟩
  refine J.run0 3 rfl ?_
  try dsimp only
  refine J.run 3 rfl (Or.inl h2) ?_
  try dsimp only
  refine J.gn fun H2 hH2 => ?_
  have hK2 : jK [2] [] H2 H1 := by
    rw [hH2]
    refine jK.ref ?_ (by decide)
    exact jK.refl _ _ _
  clear hH2
  have k5 : H2.1 5 = H1.1 5 := (hK2.1 5 (by decide)).1
  have u1 : H2.2.2.2.2 10 1 (fX F) = fP F := by
    rw [(hK2.1 10 (by decide)).2.2, (hK1.1 10 (by decide)).2.2]
    exact t4
  refine J.run 8 rfl ⟨⟨Or.inl t1, by rw [u1]; exact t7⟩, g5, g5⟩ ?_
  try dsimp only
  try dsimp only
  rw [u1, show H2.1 5 3 w'.2.1 = ((1 : Nat) : Int) by rw [k5]; exact f4, show H2.1 5 4 w'.2.1 = 0 by rw [k5]; exact f5]
  have ef : H2.2.2.2.1 29 (fP F) (((1 : Nat) : Int) * 32 + 0) = some (mp 0) := by
    rw [(hK2.2 _ (fun h => by cases h)).2, s7 1 (by decide), lx16]
    rw [if_neg (fun z => absurd z.2 (by decide)), (ee 1 (by decide)).1, nxt16]
    rfl
  refine J.inv rfl rfl rfl rfl rfl rfl ((jD_w rfl).mpr (Or.inl a1)) rfl rfl rfl rfl rfl (c_firstOf (h := 1) (Or.inl a1) (Or.inl a3) (by decide)) ?_
  rintro r w2 H3 ⟨rfl, rfl, rfl⟩
  rw [ef]
  refine J.inv rfl rfl rfl rfl rfl rfl ((jD_w rfl).mpr (Or.inl n1)) rfl rfl rfl rfl rfl (k_learn (Or.inl rfl) (Or.inl n1) (Or.inl n2) g5 (by rw [k5]; exact f1) (by rw [k5]; exact f2)) ?_
  rintro r w3 H4 ⟨rfl, rfl, hK4, hJ4, hW4, hb4⟩
  have hKK : jK [2, 5, 6, 7] [28, 29, 30, 31, 26] H4 H' := hK4.trans (hK2.trans (hK1.mono (cs' := [2, 5, 6, 7]) (ks' := [28, 29, 30, 31, 26]) (by decide) (by decide)) (by decide) (by decide)) (by decide) (by decide)
  have hcl : jCl H4 H' := ⟨(hKK.1 11 (by decide)).1, fun k hk => (hKK.2 k fun z => by simp only [List.mem_cons, List.not_mem_nil, or_false] at z; omega).1, fun p i x h0 hx => by
    rw [(hK4.2 _ (by decide)).2, (hK2.2 _ (fun h => by cases h)).2]
    exact hA1 p i x h0 hx⟩
  have i5 : ∀ j p, p ≠ w'.2.1 → H4.1 5 j p = H'.1 5 j p := fun j p h => by
    rw [(hK4.1 5 (by decide)).1, k5]
    exact s3 j p h
  have x5 : H4.1 5 = H1.1 5 := by rw [(hK4.1 5 (by decide)).1, k5]
  have o5 : H4.2.1 5 = H1.2.1 5 := by rw [(hK4.1 5 (by decide)).2.1, (hK2.1 5 (by decide)).2.1]
  have i6 : ∀ j, j ≠ 16 → H4.1 6 j (fN F n) = H'.1 6 j (fN F n) := fun j h => by rw [hJ4 j h, (hK2.1 6 (by decide)).1, (hK1.1 6 (by decide)).1]
  obtain ⟨⟨d0, -, -⟩, ⟨d1, d2, d3, -⟩, d4⟩ := cc 0 (by rw [zM16]; decide)
  obtain ⟨⟨c0, -, -⟩, ⟨c1, c2, c3, -, -, c6, -⟩, -⟩ := cc 1 (by rw [zM16]; decide)
  have z0 : (zc 16).2.1 0 = (0, 1, 1) := zE_16.2.1
  have z1 : (zc 16).2.1 1 = (1, 1, 1) := zE_16.2.2.1
  unfold zk at d2 c2
  unfold zn at d3 c3
  unfold zh at c6
  rw [z0] at d2 d3
  rw [z1] at c2 c3 c6
  rw [zh16_m (by decide), nxt16] at d4
  have ne0 : mp 0 ≠ w'.2.1 := hfr 0 (by decide)
  have ne1 : mp 1 ≠ w'.2.1 := hfr 1 (by decide)
  have el : (lx (zM (zc 16)) (zh (zc 16)) 1).map mp = some (mp 1) := by rw [lx16]; rfl
  refine J.retv rfl rfl rfl ⟨_, rfl, rfl, rfl, rfl, hcl, ?_, ?_⟩
  · rw [(hK4.1 7 (by decide)).1, (hK2.1 7 (by decide)).1, s1]
    rfl
  refine ⟨⟨hT.mv (jwM.add w' 5 w'.2.1 8) hKK (by decide) (by decide), Or.inl a1, Or.inl a3, Or.inl a5, ?_, ?_⟩, ⟨Or.inl d0, ?_, ?_, ?_, ?_⟩, ⟨Or.inl c0, ?_, ?_, ?_, ?_, ?_⟩, ⟨g5, ?_, ?_, ?_, ?_, ?_⟩, ⟨hn, hn1, Or.inl n1, Or.inl n2, Or.inl n3, ?_, ?_, ?_, ?_, ?_, ?_, ?_⟩, ⟨hb4, fun i hi => ?_⟩, q1, Or.inl q2, ?_, ?_, Or.inl q5, ?_⟩
  · rw [(hK4.2 _ (by decide)).2]; exact ef
  · rw [(hK4.2 _ (by decide)).1, (hK2.2 _ (fun h => by cases h)).1, s9 1 (by decide), if_pos rfl]
  · rw [i5 _ _ ne0]; exact d1
  · rw [i5 _ _ ne0]; exact d2
  · rw [i5 _ _ ne0]; exact d3
  · rw [o5, s6 _ ne0, el, if_neg (fun z => absurd (dd.1 1 0 (by rw [zM16]; decide) (by rw [zM16]; decide) (Option.some.inj z)) (by decide))]
    exact d4
  · rw [i5 _ _ ne1]; exact c1
  · rw [i5 _ _ ne1]; exact c2
  · rw [i5 _ _ ne1]; exact c3
  · rw [i5 _ _ ne1]; exact c6
  · rw [o5, s6 _ ne1, el, if_pos rfl]
  · rw [x5]; exact f1
  · rw [x5]; exact f2
  · rw [x5]; exact f3
  · rw [x5]; exact f6
  · rw [o5]; exact s5
  · rw [hW4, (hK2.1 6 (by decide)).2.2, (hK1.1 6 (by decide)).2.2]; exact n4
  · rw [i6 _ (by decide)]; exact n5
  · rw [i6 _ (by decide)]; exact n6
  · rw [i6 _ (by decide)]; exact n7
  · rw [i6 _ (by decide)]; exact n8
  · rw [i6 _ (by decide)]; exact n9
  · rw [i6 _ (by decide)]; exact n10
  · rw [(hKK.2 _ (by decide)).1]; exact n12 i hi
  · rw [(hKK.1 0 (by decide)).1]; exact q3
  · rw [(hKK.1 0 (by decide)).2.1]; exact q4
  · obtain ⟨y1, y2, y3, y4⟩ := q6
    unfold cSt2
    rw [(hKK.1 8 (by decide)).1, (hKK.1 8 (by decide)).2.2, (hKK.2 43 (by decide)).1]
    exact ⟨y1, y2, Or.inl y3, y4⟩
set_option maxRecDepth 8000 in
theorem k_send {n q s : Nat} (hT : cTop F w H) (hM : cMs F w (zc 16) H mp) (hN : kN F w H n q s) (hL : w.1 4 (fO F n) ∧ 0 < fO F n ∧ w.1 25 (fO F n) ∧ H.2.2.2.2 6 13 (fN F n) = fO F n ∧ H.1 4 1 (fO F n) = ((0 : Nat) : Int) ∧ H.1 6 12 (fN F n) = 13) : J b (d + 3) 97 w (0, jargs 0 [.inr (some (10, fX F)), .inr (some (6, fN F n)), .inl 1, .inl (-1), .inl (-1)], [], H) (jN fun r w' H' => r = none ∧ w'.2.1 = w.2.1 + 2 ∧ w'.2.2 = w.2.2 + 18 ∧ jCl H' H ∧ H'.1 7 4 (fP F) = 3 ∧ kX F w' H' n q s (mp 0) (mp 1) (w.2.1 + 1)) := by
  have hT0 := hT
  obtain ⟨⟨t1, t2, t3, t4, t5, t6, t7, t8⟩, -⟩ := hT0
  obtain ⟨l1, l2, l3, l4, l5, l6⟩ := hL
  have hN0 := hN
  obtain ⟨⟨hn, hn1, n1, n2, n3, n4, n5, n6, n7, n8, n9, n10⟩, ⟨n11, n12⟩, q1, q2, q3, q4, q5, q6⟩ := hN0
  have es : H.1 7 4 (fP F) = ((2 : Nat) : Int) := by rw [hM.2.1, zM16]
  refine J.run 2 rfl ⟨t1, by rw [t4]; exact t7⟩ ?_
  try dsimp only
  try dsimp only
  rw [t4]
  refine J.inv rfl rfl rfl rfl rfl rfl ((jD_w rfl).mpr hM.1.1) rfl rfl rfl rfl rfl (c_postFull hM.1.1 es (by decide)) ?_
  rintro r w' H' ⟨rfl, rfl, rfl⟩
  rw [if_neg (by decide)]
  refine J.ifc rfl rfl rfl ⟨by decide, by decide⟩ (fun _ => ?_) (fun hc => absurd rfl hc)
  refine J.nw rfl rfl rfl rfl rfl rfl rfl (jstP.of rfl) fun H1 hN1 hwc => ?_
  have k1 : jK [2] [] H1 H' := (jK.refl _ _ _).new hN1 (by decide)
  refine J.run0 5 rfl ?_
  try dsimp only
  refine J.ini rfl rfl rfl (Or.inl rfl) rfl rfl rfl rfl rfl (jstP.of rfl) (c_entry (Or.inr ⟨rfl, rfl⟩) (Or.inl n1)) ?_
  rintro r w1 H2 ⟨rfl, rfl, hK2, e1, e2, e3, e4⟩
  have k2 : jK [2] [] H2 H' := hK2.trans k1 (by decide) (by decide)
  have s1 : H2.1 6 12 (fN F n) = 13 := by rw [(k2.1 6 (by decide)).1]; exact l6
  refine J.run 4 rfl (Or.inl n1) ?_
  try dsimp only
  try dsimp only
  rw [s1]
  refine J.icmp rfl rfl rfl ⟨⟨by decide, by decide⟩, by decide, by decide⟩ (fun _ => ?_) (fun hc => absurd (show (12 : Int) < 13 by decide) hc)
  have s2 : H2.2.2.2.2 6 13 (fN F n) = fO F n := by rw [(k2.1 6 (by decide)).2.2]; exact l4
  refine J.run 4 rfl ⟨Or.inl n1, by rw [s2]; exact l2⟩ ?_
  try dsimp only
  try dsimp only
  rw [s2]
  have s3 : H2.1 4 1 (fO F n) = ((0 : Nat) : Int) := by rw [(k2.1 4 (by decide)).1]; exact l5
  refine J.inv rfl rfl rfl rfl rfl rfl ((jD_w rfl).mpr (Or.inl l1)) rfl rfl rfl rfl rfl (c_write (s := 0) (Or.inl l1) (Or.inl l3) (Or.inr ⟨rfl, rfl⟩) s3 (by omega)) ?_
  rintro r w1 H3 ⟨rfl, rfl, hK3, hO3, z3, z4⟩
  refine J.run0 3 rfl ?_
  try dsimp only
  have k3 : jK [2, 4] [25] H3 H' := hK3.trans (k2.mono (cs' := [2, 4]) (ks' := [25]) (by decide) (by decide)) (by decide) (by decide)
  have hw1 : jwM w' (jwA w' 2 w'.2.1 (jfn 2)) := jwM.add w' 2 w'.2.1 (jfn 2)
  have c2 : H3.1 2 = H2.1 2 := (hK3.1 2 (by decide)).1
  have hN3 : kN F (jwA w' 2 w'.2.1 (jfn 2)) H3 n q s := by
    unfold kN
    rw [(k3.1 6 (by decide)).1, (k3.1 6 (by decide)).2.2, (k3.1 0 (by decide)).1, (k3.1 0 (by decide)).2.1, (k3.2 27 (by decide)).1]
    refine ⟨⟨hn, hn1, Or.inl n1, Or.inl n2, Or.inl n3, n4, n5, n6, n7, n8, n9, n10⟩, ⟨n11, n12⟩, q1, Or.inl q2, q3, q4, Or.inl q5, ?_⟩
    obtain ⟨y1, y2, y3, y4⟩ := q6
    unfold cSt2
    rw [(k3.1 8 (by decide)).1, (k3.1 8 (by decide)).2.2, (k3.2 43 (by decide)).1]
    exact ⟨y1, y2, Or.inl y3, y4⟩
  refine J.inv rfl rfl rfl rfl rfl rfl ((jD_w rfl).mpr (Or.inl t1)) rfl rfl rfl rfl rfl (k_sendRec (d := d) (mp := mp) (hT.mv hw1 k3 (by decide) (by decide)) (hM.mv hw1 ⟨rfl, rfl⟩ k3 (by decide) (by decide)) hN3 (Or.inr ⟨rfl, rfl⟩) (by rw [c2]; exact e1) (by rw [c2]; exact e2) (by rw [c2]; exact e3) (by rw [c2, e4, (k1.1 6 (by decide)).1]; exact n5)) ?_
  rintro r w2 H4 ⟨rfl, w4, w5, hC4, z5, hX4⟩
  refine J.retv rfl rfl rfl ⟨_, rfl, rfl, w4, ?_, hC4.trans (k3.cl rfl rfl), z5, hX4⟩
  rw [w5]
  show w'.2.2 + jfn 2 + 8 = w'.2.2 + 18
  have : jfn 2 = 10 := rfl
  omega
set_option maxRecDepth 8000 in
theorem c_expire {n : Int} (hF : fRm F) (hR : cRest F w (zc 16) H) (bn : jR n) : J b (d + 6) 75 w (0, jargs 0 [.inr (some (10, fX F)), .inl n], [], H) (cOut H (if 0 ≤ n ∧ n ≤ 15 then 0 else 1) 14 (expA n)) := by
  have hR0 := hR
  obtain ⟨je, ⟨mp, bp, sp, hP⟩, hje⟩ := hR
  have hw := hP.sm hF
  have hz := zc_inv 16 (Nat.le_refl _)
  obtain ⟨⟨t1, t2, t3, t4, t5, t6, t7, t8⟩, tn, ti, -⟩ := hP.1
  have hM := hP.2.1
  refine J.run0 1 rfl ?_
  try dsimp only
  refine J.ins rfl rfl rfl rfl rfl rfl rfl rfl rfl (c_isNode bn) ?_
  rintro r w H ⟨rfl, rfl, rfl⟩
  by_cases h : 0 ≤ n ∧ n ≤ 15
  rotate_left
  · rw [if_neg h, if_neg h]
    refine J.ifc rfl rfl rfl ⟨by decide, by decide⟩ (fun hc => absurd rfl hc) (fun _ => ?_)
    exact c_thr hw (by decide) rfl rfl rfl rfl
  rw [if_pos h, if_pos h]
  refine J.ifc rfl rfl rfl ⟨by decide, by decide⟩ (fun _ => ?_) (fun hc => absurd (show ¬ (1 : Int) = 0 by decide) hc)
  obtain ⟨m, rfl⟩ : ∃ m : Nat, n = (m : Int) := ⟨n.toNat, by omega⟩
  have hm : m < 16 := by omega
  have hN := hP.n16 hm
  have hG := (hP.b16 (i := 0) (by decide)).2
  have ht0 : H.1 0 1 (bp 0) = 0 := hG.1.2.2.2.1
  have ejm : je m = 0 := by
    rcases hje m hm with h9 | h9
    · exact h9
    · rw [zh16] at h9; omega
  refine J.run 4 rfl ⟨⟨t1, t2⟩, t2, h.1, show (m : Int) < 16 by omega⟩ ?_
  try dsimp only
  try dsimp only
  rw [tn m hm]
  refine J.run 3 rfl ⟨t1, by rw [t4]; exact t7⟩ ?_
  try dsimp only
  try dsimp only
  rw [t4]
  refine J.run 1 rfl hM.1.1 ?_
  try dsimp only
  try dsimp only
  rw [show H.1 7 4 (fP F) = 2 by rw [hM.2.1, zM16]; rfl]
  refine J.run0 2 rfl ?_
  try dsimp only
  refine J.inv rfl rfl rfl rfl rfl rfl ((jD_w rfl).mpr hN.1.1) rfl rfl rfl rfl rfl (c_acts (hh := 0) hN.1.1 hN.2.1.2.1 hG.1.2.1 hG.1.1 hN.2.1.2.2.2.2.2.2.1 hN.2.1.2.2.2.2.2.2.2.1 ht0 (by decide)) ?_
  rintro r w H ⟨rfl, rfl, rfl⟩
  rw [if_pos (by decide)]
  refine J.ifc rfl rfl rfl ⟨by decide, by decide⟩ (fun hc => absurd hc (show ¬ (1 : Int) = 0 by decide)) (fun _ => ?_)
  refine J.run0 2 rfl ?_
  try dsimp only
  by_cases h1 : m = 1
  rotate_left
  · have ev : v16 m = (1, 0, 0, 0, []) := if_neg h1
    rw [ev] at hN
    rw [show expA (m : Int) = 1 from if_neg (by omega)]
    have hend : J b (d + 5) 96 w (0, jargs 0 [.inr (some (10, fX F)), .inr (some (6, fN F m))], [], H) (jN fun r w' H' => r = none ∧ w'.2.1 = w.2.1 + 2 ∧ w'.2.2 = w.2.2 + 18 ∧ jCl H' H ∧ H'.1 7 4 (fP F) = 3 ∧ kX F w' H' m (bp 0) (sp 0) (mp 0) (mp 1) (w.2.1 + 1)) := by
      refine J.run 2 rfl hN.1.1 ?_
      try dsimp only
      try dsimp only
      rw [show H.1 6 3 (fN F m) = ((0 : Nat) : Int) from hN.2.1.2.2.2.1]
      refine J.ifc rfl rfl rfl ⟨by decide, by decide⟩ (fun hc => absurd rfl hc) (fun _ => ?_)
      refine J.run 8 rfl hN.1.1 ?_
      try dsimp only
      refine J.gn fun H1 hH1 => ?_
      have f1 : nFld H1 H (fN F m) [3] := by
        rw [hH1]
        refine nFld.int ?_ (by decide)
        exact nFld.refl _ _ _
      have s1 : H1.1 6 3 (fN F m) = 1 := by rw [hH1]; exact if_pos rfl
      clear hH1
      have w1 : H1.2 = H.2 := f1.1
      have k1 : jK [6] [] H1 H := f1.k
      have hN1 : kN F w H1 m (bp 0) (sp 0) := by
        unfold kN
        rw [w1, f1.at 0 (by decide), f1.at 2 (by decide), s1, f1.at 8 (by decide), f1.at 9 (by decide), f1.at 10 (by decide), f1.at 11 (by decide), (k1.1 0 (by decide)).1]
        obtain ⟨⟨x1, x2, x3, x4, x5, x6, x7⟩, ⟨y1, y2, y3, y4, y5, y6, y7, y8, y9⟩, -, -, -, -, z3⟩ := hN
        refine ⟨⟨hm, h1, x1, x3, x4, y2, y3, rfl, y5, by rw [y6, ejm]; rfl, y7, y8⟩, ⟨y1, fun i hi => ?_⟩, hG.1.2.1, hG.1.1, ht0, hG.2.2.2.1, hG.2.2.2.2.1.1, ?_⟩
        · rw [z3 i hi]
          simp
        · obtain ⟨g1, g2, g3, g4⟩ := hG.2.2.2.2.2.2
          unfold cSt2
          rw [(k1.1 8 (by decide)).1, w1]
          exact ⟨g1, g2, g3, g4⟩
      have hL1 : w.1 4 (fO F m) ∧ 0 < fO F m ∧ w.1 25 (fO F m) ∧ H1.2.2.2.2 6 13 (fN F m) = fO F m ∧ H1.1 4 1 (fO F m) = ((0 : Nat) : Int) ∧ H1.1 6 12 (fN F m) = 13 := by
        rw [w1, (k1.1 4 (by decide)).1, f1.at 12 (by decide)]
        exact ⟨hN.1.2.2.2.2.1, hN.1.2.2.2.2.2.1, hN.1.2.2.2.2.2.2, hN.2.2.2.1.1, hN.2.2.2.1.2.1, hN.2.1.2.2.2.2.2.2.2.2⟩
      refine J.inv rfl rfl rfl rfl rfl rfl ((jD_w rfl).mpr t1) rfl rfl rfl rfl rfl (k_send (d := d + 1) (mp := mp) (hP.1.mv (fun _ _ h => h) k1 (by decide) (fun h => (nomatch h))) (hM.mv (fun _ _ h => h) ⟨rfl, rfl⟩ k1 (by decide) ⟨fun h => (nomatch h), fun h => (nomatch h), fun h => (nomatch h), fun h => (nomatch h)⟩) hN1 hL1) ?_
      rintro r w2 H2 ⟨rfl, w4, w5, hC2, z5, hX2⟩
      refine J.run0 1 rfl ?_
      try dsimp only
      exact J.retv rfl rfl rfl ⟨_, rfl, rfl, w4, w5, hC2.trans (k1.cl rfl rfl), z5, hX2⟩
    refine J.inv rfl rfl rfl rfl rfl rfl ((jD_w rfl).mpr t1) rfl rfl rfl rfl rfl hend ?_
    rintro r w2 H2 ⟨rfl, w4, w5, hC2, z5, hX2⟩
    refine J.run0 2 rfl ?_
    try dsimp only
    have hT2 := hX2.1.1
    obtain ⟨⟨u1, u2, u3, u4, u5, u6, u7, u8⟩, -⟩ := hT2
    refine J.inv rfl rfl rfl rfl rfl rfl ((jD_w rfl).mpr u1) rfl rfl rfl rfl rfl (k_doAll (d := d) hX2) ?_
    rintro r w3 H3 ⟨rfl, rfl, rfl⟩
    refine J.run 2 rfl ⟨u1, by rw [u4]; exact u7⟩ ?_
    try dsimp only
    try dsimp only
    rw [u4]
    refine J.run 1 rfl hX2.1.2.1 ?_
    try dsimp only
    try dsimp only
    rw [z5]
    refine J.run0 2 rfl ?_
    try dsimp only
    refine J.reti rfl rfl rfl ⟨hC2, Or.inl ⟨rfl, rfl⟩, ?_, ?_⟩
    · have := hw.1
      omega
    · have := hw.2
      omega
  · subst h1
    rw [show expA ((1 : Nat) : Int) = 0 from if_pos rfl]
    obtain ⟨x0, x1⟩ := hP.nx16
    obtain ⟨a5, a1, a2, a3, a4, -, a6, -⟩ := hP.m16 (i := 0) (by decide)
    obtain ⟨b5, b1, b2, b3, b4, -, b6, -⟩ := hP.m16 (i := 1) (by decide)
    have es : H.1 6 3 (fN F 1) = 1 := hN.2.1.2.2.2.1
    have ef : H.2.2.2.1 29 (fP F) (((1 : Nat) : Int) * 32 + 0) = some (mp 0) := by
      rw [(hM.2.2.2.2 1 (by decide)).1, nxt16]
      rfl
    have hhd : mb (H.2.2.1 26 (fN F 1) ((1 / 32 : Nat) : Int)) (1 % 32) = true := by
      rw [hN.2.2.2.2.2.1 1 (by decide)]
      decide
    have hhf : J b (d + 4) 101 w (0, jargs 0 [.inr (some (10, fX F)), .inr (some (6, fN F 1)), .inl 1, .inl 0, .inl (-2)], [], H) (jN fun r w' H' => r = some (.inl (jor 0 (jshl 1 ((1 : Nat) : Int)))) ∧ w' = w ∧ H' = H) := by
      refine J.run 4 rfl ⟨t1, by rw [t4]; exact t7⟩ ?_
      try dsimp only
      try dsimp only
      rw [t4]
      refine J.run0 1 rfl ?_
      try dsimp only
      refine J.inv rfl rfl rfl rfl rfl rfl ((jD_w rfl).mpr hN.1.1) rfl rfl rfl rfl rfl (c_height hN.1.1 hN.2.1.2.1 hG.1.2.1 hG.1.1) ?_
      rintro r w H ⟨rfl, rfl, rfl⟩
      rw [ht0]
      refine J.run0 1 rfl ?_
      try dsimp only
      refine J.inv rfl rfl rfl rfl rfl rfl ((jD_w rfl).mpr hM.1.1) rfl rfl rfl rfl rfl (c_firstOf (h := 1) hM.1.1 hM.1.2.2.1 (by decide)) ?_
      rintro r w H ⟨rfl, rfl, rfl⟩
      rw [ef]
      refine J.run0 1 rfl ?_
      try dsimp only
      refine J.run0 4 rfl ?_
      try dsimp only
      refine J.icmp rfl rfl rfl ⟨⟨by decide, by decide⟩, by decide, by decide⟩ (fun hc => absurd hc (show ¬ (1 : Int) = -2 by decide)) (fun _ => ?_)
      refine J.run 3 rfl a5 ?_
      try dsimp only
      try dsimp only
      rw [a2]
      refine J.icmp rfl rfl rfl ⟨⟨by decide, by decide⟩, by decide, by decide⟩ (fun _ => ?_) (fun hc => absurd (show ¬ ((0 : Nat) : Int) = 1 by decide) hc)
      refine J.run 2 rfl a5 ?_
      try dsimp only
      try dsimp only
      rw [x0]
      refine J.run0 2 rfl ?_
      try dsimp only
      refine J.run0 4 rfl ?_
      try dsimp only
      refine J.icmp rfl rfl rfl ⟨⟨by decide, by decide⟩, by decide, by decide⟩ (fun hc => absurd hc (show ¬ (1 : Int) = -2 by decide)) (fun _ => ?_)
      refine J.run 3 rfl b5 ?_
      try dsimp only
      try dsimp only
      rw [b2]
      refine J.icmp rfl rfl rfl ⟨⟨by decide, by decide⟩, by decide, by decide⟩ (fun hc => absurd (show ((1 : Nat) : Int) = 1 by decide) hc) (fun _ => ?_)
      refine J.run0 2 rfl ?_
      try dsimp only
      refine J.icmp rfl rfl rfl ⟨⟨by decide, by decide⟩, by decide, by decide⟩ (fun _ => ?_) (fun hc => absurd rfl hc)
      refine J.run0 2 rfl ?_
      try dsimp only
      refine J.inv rfl rfl rfl rfl rfl rfl ((jD_w rfl).mpr hN.1.1) rfl rfl rfl rfl rfl (c_hasHeard (i := 1) hN.1.1 hN.1.2.2.1 b5 b1 (by decide)) ?_
      rintro r w H ⟨rfl, rfl, rfl⟩
      rw [hhd, if_pos rfl]
      refine J.ifc rfl rfl rfl ⟨by decide, by decide⟩ (fun hc => absurd hc (show ¬ (1 : Int) = 0 by decide)) (fun _ => ?_)
      refine J.run 7 rfl b5 ?_
      try dsimp only
      try dsimp only
      rw [b3]
      refine J.run 2 rfl b5 ?_
      try dsimp only
      try dsimp only
      rw [x1]
      refine J.run0 2 rfl ?_
      try dsimp only
      refine J.run0 2 rfl ?_
      try dsimp only
      refine J.run0 1 rfl ?_
      try dsimp only
      exact J.reti rfl rfl rfl ⟨_, rfl, rfl, rfl, rfl⟩
    have hend : J b (d + 5) 96 w (0, jargs 0 [.inr (some (10, fX F)), .inr (some (6, fN F 1))], [], H) (jN fun r w' H' => r = none ∧ w' = w ∧ H' = H) := by
      refine J.run 2 rfl hN.1.1 ?_
      try dsimp only
      try dsimp only
      rw [es]
      refine J.ifc rfl rfl rfl ⟨by decide, by decide⟩ (fun _ => ?_) (fun hc => absurd (show ¬ (1 : Int) = 0 by decide) hc)
      refine J.run 3 rfl hN.1.1 ?_
      try dsimp only
      try dsimp only
      rw [es]
      refine J.icmp rfl rfl rfl ⟨⟨by decide, by decide⟩, by decide, by decide⟩ (fun hc => absurd rfl hc) (fun _ => ?_)
      refine J.run 7 rfl hN.1.1 ?_
      try dsimp only
      try dsimp only
      rw [show H.1 6 2 (fN F 1) = 0 from hN.2.1.2.2.1]
      refine J.inv rfl rfl rfl rfl rfl rfl ((jD_w rfl).mpr t1) rfl rfl rfl rfl rfl hhf ?_
      rintro r w H ⟨rfl, rfl, rfl⟩
      refine J.inv rfl rfl rfl rfl rfl rfl ((jD_w rfl).mpr hN.1.1) rfl rfl rfl rfl rfl (c_isMost (d := d + 2) hN.1.1 hN.2.1.2.1 hG.1.2.1 hG.1.1 hG.2.2.2.1 hG.2.2.2.2.1.1 hG.2.2.2.2.2.2) ?_
      rintro r w H ⟨rfl, rfl, rfl⟩
      rw [mcnt_1 1 (by decide), if_neg (by decide)]
      refine J.ifc rfl rfl rfl ⟨by decide, by decide⟩ (fun _ => ?_) (fun hc => absurd rfl hc)
      exact J.retv rfl rfl rfl ⟨_, rfl, rfl, rfl, rfl⟩
    refine J.inv rfl rfl rfl rfl rfl rfl ((jD_w rfl).mpr t1) rfl rfl rfl rfl rfl hend ?_
    rintro r w H ⟨rfl, rfl, rfl⟩
    refine J.run0 2 rfl ?_
    try dsimp only
    have hmv : zmove (zc 16) 1 = none := by
      rcases zc_rest 1 (by decide) with h9 | h9
      · rw [zh16] at h9; omega
      · exact h9
    have hact := c_doAll (b := b) (d := d) hz hR0 (n := 1) (by decide)
    rw [zact_none hmv] at hact
    refine J.inv rfl rfl rfl rfl rfl rfl ((jD_w rfl).mpr t1) rfl rfl rfl rfl rfl hact ?_
    rintro r w2 H2 ⟨rfl, ⟨je2, ⟨mp2, bp2, sp2, hP2⟩, -⟩, hC2⟩
    have hw2 := hP2.sm hF
    obtain ⟨⟨u1, u2, u3, u4, u5, u6, u7, u8⟩, -⟩ := hP2.1
    refine J.run 2 rfl ⟨u1, by rw [u4]; exact u7⟩ ?_
    try dsimp only
    try dsimp only
    rw [u4]
    refine J.run 1 rfl hP2.2.1.1.1 ?_
    try dsimp only
    try dsimp only
    rw [show H2.1 7 4 (fP F) = 2 by rw [hP2.2.1.2.1, zM16]; rfl]
    refine J.run0 2 rfl ?_
    try dsimp only
    exact J.reti rfl rfl rfl (cOut.ok hw2 hC2)
end TC
