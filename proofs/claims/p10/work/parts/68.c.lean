section CB
variable {b : Bool} {d : Nat} {w : jW} {H : jH}
theorem zInv.kn {z : zT} {n : Nat} (h : zInv z) (hn : n < 16) {K : List Nat} (hK : ∀ i ∈ K, i < zM z) (hd : K.Nodup) : zInv (zN z n (nh z n, ns z n, ne z n, nr z n, K)) := by
  obtain ⟨h1, h2, h3, h4, h5⟩ := h
  have hat := zN_at z n (nh z n, ns z n, ne z n, nr z n, K)
  refine ⟨h1, h2, h3, fun m' hm' => ?_, fun x a b => ?_⟩
  · by_cases hmn : m' = n
    · subst hmn
      have := h4 m' hm'
      unfold nh ns ne nr nK
      rw [hat]
      exact ⟨this.1, this.2.1, this.2.2.1, this.2.2.2.1, hK, hd⟩
    · unfold nh ns ne nr nK
      rw [zN_ne z _ hmn]
      exact h4 m' hm'
  · have := h5 x a b
    by_cases hx : zP x = n
    · unfold nh
      rw [hx, hat]
      rw [hx] at this
      exact ⟨this.1, hn⟩
    · unfold nh
      rw [zN_ne z _ hx]
      exact this
theorem cNd.eq {v v' : zV} {kd : Nat → Nat} {n P L q je : Nat} (h : cNd w v kd H n P L q je) (e : v = v') : cNd w v' kd H n P L q je := e ▸ h
theorem c_sendRec {F : cF} {z : zT} {n q je e kd : Nat} {mp : Nat → Nat} (hz : zInv z) (hzs : zInv (zsend z n kd)) (hn : n < 16) (hM6 : zM z < 6000) (hT : cTop F w H) (hM : cMs F w z H mp) (hN : cNd w (nh z n, ns z n, ne z n, nr z n + 1, nK z n) (zk z) H n (fN F n) (fO F n) q je) (hq : 0 < q ∧ w.1 0 q ∧ H.1 0 1 q + 1 = (nh z n : Int)) (hh : nh z n ≤ 120) (h2 : w.1 2 e) (e1 : H.1 2 0 e = (kd : Int)) (e2 : H.1 2 1 e = (nh z n : Int)) (e3 : H.1 2 2 e = -1) (e4 : H.1 2 3 e = 0) :
    J b (d + 2) 98 w (0, jargs 0 [.inr (some (10, fX F)), .inr (some (6, fN F n)), .inr (some (2, e))], [], H) (jN fun r w' H' => r = none ∧ w' = jwA w 5 w.2.1 8 ∧ jK [2, 5, 6, 7] [28, 29, 30, 31, 26, 27] H' H ∧ cMs F w' (zsend z n kd) H' (va_up mp (zM z) w.2.1) ∧ cNd w' (nh z n, ns z n, ne z n, nr z n + 1, nK z n ++ [zM z]) (zk (zsend z n kd)) H' n (fN F n) (fO F n) q je ∧ (∀ P' L', P' ≠ fN F n → nSame H' H P' L') ∧ (∀ j, j ≠ 16 → H'.1 6 j (fN F n) = H.1 6 j (fN F n)) ∧ ∀ p (i : Int) (x : Nat), 0 ≤ i → H.2.2.2.1 28 p i = some x → H'.2.2.2.1 28 p i = some x) := by
  have hz0 : ¬ z.1 = 6000 := by have : z.1 < 6000 := hM6; omega
  have es : zsend z n kd = (z.1 + 1, va_up z.2.1 z.1 (kd, n, nh z n), z.2.2.1, va_up z.2.2.2 n (nh z n, ns z n, ne z n, nr z n + 1, nK z n ++ [z.1])) := if_neg hz0
  have h4 := hz.2.2.2.1 n hn
  have hT0 := hT
  obtain ⟨⟨t1, t2, t3, t4, t5, t6, t7, t8⟩, -⟩ := hT0
  refine J.wc fun hwc => ?_
  refine J.run 7 rfl ⟨⟨t1, by rw [t4]; exact t7⟩, h2, hN.1.1⟩ ?_
  try dsimp only
  try dsimp only
  rw [t4, e1, hN.2.1.1]
  refine J.inv rfl rfl rfl rfl rfl rfl ((jD_w rfl).mpr hN.1.1) rfl rfl rfl rfl rfl (c_height hN.1.1 hN.2.1.2.1 hq.1 hq.2.1) ?_
  rintro r w' H' ⟨rfl, rfl, rfl⟩
  rw [hq.2.2]
  refine J.run 6 rfl ⟨h2, h2, h2⟩ ?_
  try dsimp only
  try dsimp only
  rw [e2, e3, e4]
  refine J.inv rfl rfl rfl rfl rfl rfl ((jD_w rfl).mpr hM.1.1) rfl rfl rfl rfl rfl (c_add (kd := kd) (n := n) (h := nh z n) hz hM hM6 hh) ?_
  rintro r w1 H1 ⟨rfl, rfl, hK1, hA1, hM1⟩
  -- the picture in which the MESSAGE is sent but not yet known
  have hzy : zInv (zN (zsend z n kd) n (nh z n, ns z n, ne z n, nr z n + 1, nK z n)) := by
    have hy := hzs.kn (n := n) hn (K := nK z n) (fun i hi => by
      have h9 : i < z.1 := h4.2.2.2.2.1 i hi
      rw [es]
      show i < z.1 + 1
      omega) h4.2.2.2.2.2
    have ev : (nh (zsend z n kd) n, ns (zsend z n kd) n, ne (zsend z n kd) n, nr (zsend z n kd) n, nK z n) = (nh z n, ns z n, ne z n, nr z n + 1, nK z n) := by
      unfold nh ns ne nr
      rw [es]
      try dsimp only
      rw [show va_up z.2.2.2 n (nh z n, ns z n, ne z n, nr z n + 1, nK z n ++ [z.1]) n = (nh z n, ns z n, ne z n, nr z n + 1, nK z n ++ [z.1]) from if_pos rfl]
    rw [ev] at hy
    exact hy
  have ey1 : (zN (zsend z n kd) n (nh z n, ns z n, ne z n, nr z n + 1, nK z n)).1 = z.1 + 1 := by
    show (zsend z n kd).1 = _
    rw [es]
  have ey2 : (zN (zsend z n kd) n (nh z n, ns z n, ne z n, nr z n + 1, nK z n)).2.1 = va_up z.2.1 z.1 (kd, n, nh z n) := by
    show (zsend z n kd).2.1 = _
    rw [es]
  have ey3 := zN_at (zsend z n kd) n (nh z n, ns z n, ne z n, nr z n + 1, nK z n)
  have hMy := hM1 _ ⟨ey1, ey2⟩
  have ezk : ∀ i, i < zM z → zk (zN (zsend z n kd) n (nh z n, ns z n, ne z n, nr z n + 1, nK z n)) i = zk z i := fun i hi => by
    unfold zk
    rw [ey2]
    rw [show va_up z.2.1 z.1 (kd, n, nh z n) i = z.2.1 i from if_neg (by have : i < z.1 := hi; omega)]
  have ezh : zh (zN (zsend z n kd) n (nh z n, ns z n, ne z n, nr z n + 1, nK z n)) z.1 = nh z n := by
    unfold zh
    rw [ey2]
    rw [show va_up z.2.1 z.1 (kd, n, nh z n) z.1 = (kd, n, nh z n) from if_pos rfl]
  have hNy : cNd (jwA w' 5 w'.2.1 8) ((zN (zsend z n kd) n (nh z n, ns z n, ne z n, nr z n + 1, nK z n)).2.2.2 n) (zk (zN (zsend z n kd) n (nh z n, ns z n, ne z n, nr z n + 1, nK z n))) H1 n (fN F n) (fO F n) q je := by
    rw [ey3]
    exact hN.mv (jwM.add w' 5 w'.2.1 8) (nSame.of hK1 (by decide) (by decide)) fun i hi => ezk i (h4.2.2.2.2.1 i hi)
  generalize hy : zN (zsend z n kd) n (nh z n, ns z n, ne z n, nr z n + 1, nK z n) = y at *
  have hlt : z.1 < zM y := by show z.1 < y.1; omega
  have hnk : z.1 ∉ nK y n := by
    unfold nK
    rw [ey3]
    exact fun hi => by have h9 : z.1 < z.1 := h4.2.2.2.2.1 z.1 hi; omega
  have hmp : va_up mp (zM z) w'.2.1 z.1 = w'.2.1 := if_pos rfl
  have g5 : (jwA w' 5 w'.2.1 8).1 5 w'.2.1 := Or.inr ⟨rfl, rfl⟩
  obtain ⟨⟨my1, my2, my3⟩, ⟨f1, f2, f3, f4, f5, f6, f7⟩, -⟩ := hMy.2.2.1 z.1 hlt
  rw [hmp] at f4 f5
  refine J.run0 3 rfl ?_
  try dsimp only
  refine J.run 3 rfl (Or.inl h2) ?_
  try dsimp only
  refine J.gn fun H2 hH2 => ?_
  have hK2 : jK [2] [] H2 H1 := by
    rw [hH2]
    refine jK.ref ?_ (by decide)
    exact jK.refl _ _ _
  have s1 : H2.2.2.2.2 10 1 (fX F) = fP F := by
    rw [(hK2.1 10 (by decide)).2.2, (hK1.1 10 (by decide)).2.2]
    exact t4
  have s2 : H2.1 5 3 w'.2.1 = (nh z n : Int) := by
    rw [(hK2.1 5 (by decide)).1, f4, ezh]
  have s3 : H2.1 5 4 w'.2.1 = 0 := by
    rw [(hK2.1 5 (by decide)).1, f5]
  clear hH2
  refine J.run 8 rfl ⟨⟨Or.inl t1, by rw [s1]; exact t7⟩, g5, g5⟩ ?_
  try dsimp only
  try dsimp only
  rw [s1, s2, s3]
  have hMy2 : cMs F (jwA w' 5 w'.2.1 8) y H2 (va_up mp (zM z) w'.2.1) := hMy.mv (fun _ _ h => h) ⟨rfl, rfl⟩ hK2 (by decide) (by decide)
  have hNy2 : cNd (jwA w' 5 w'.2.1 8) (y.2.2.2 n) (zk y) H2 n (fN F n) (fO F n) q je := hNy.mv (fun _ _ h => h) (nSame.of hK2 (by decide) (by decide)) fun _ _ => rfl
  refine J.inv rfl rfl rfl rfl rfl rfl ((jD_w rfl).mpr hMy2.1.1) rfl rfl rfl rfl rfl (c_firstOf hMy2.1.1 hMy2.1.2.2.1 hh) ?_
  rintro r w2 H3 ⟨rfl, rfl, rfl⟩
  rw [(hMy2.2.2.2.2 (nh z n) hh).1, Option.map_map]
  have h9 := c_learn (b := b) (d := d) (w := jwA w' 5 w'.2.1 8) (H := H3) (i := z.1) hzy hMy2 hn hlt hnk hNy2
  rw [hmp, ezh] at h9
  refine J.inv rfl rfl rfl rfl rfl rfl ((jD_w rfl).mpr (Or.inl hN.1.1)) rfl rfl rfl rfl rfl h9 ?_
  rintro r w3 H4 ⟨rfl, rfl, hK4, hN4, hS4, hJ4⟩
  have hKK : jK [2, 5, 6, 7] [28, 29, 30, 31, 26, 27] H4 H' := hK4.trans (hK2.trans (hK1.mono (cs' := [2, 5, 6, 7]) (ks' := [28, 29, 30, 31, 26, 27]) (by decide) (by decide)) (by decide) (by decide)) (by decide) (by decide)
  refine J.retv rfl rfl rfl ⟨_, rfl, rfl, rfl, hKK, ?_, ?_, fun P' L' hP => (hS4 P' L' hP).trans ((nSame.of hK2 (by decide) (by decide)).trans (nSame.of hK1 (by decide) (by decide))), fun j hj => ?_, fun p i x h0 hx => ?_⟩
  · exact hMy2.mv (fun _ _ h => h) ⟨by rw [ey1, es], by rw [ey2, es]⟩ hK4 (by decide) (by decide)
  rotate_left 1
  · rw [hJ4 j hj, (hK2.1 6 (by decide)).1, (hK1.1 6 (by decide)).1]
  · rw [(hK4.2 _ (by decide)).2, (hK2.2 _ (fun h => by cases h)).2]
    exact hA1 p i x h0 hx
  · have ezk2 : zk y = zk (zsend z n kd) := by
      funext i
      unfold zk
      rw [ey2, es]
    rw [ezk2] at hN4
    refine hN4.eq ?_
    unfold nh ns ne nr nK
    rw [ey3]
theorem cPic.send0 {F : cF} {z : zT} {je : Nat → Nat} {mp bp sp : Nat → Nat} {n kd : Nat} (h : cPic F w z H je mp bp sp) (hM : zM z = 6000) : cPic F w (zsend z n kd) H je mp bp sp := by
  have e : zsend z n kd = z := if_pos hM
  rw [e]
  exact h
theorem c_send {F : cF} {z : zT} {n kd : Nat} {je mp bp sp : Nat → Nat} (hz : zInv z) (hzs : zInv (zsend z n kd)) (hn : n < 16) (hP : cPic F w z H je mp bp sp) (hh : nh z n ≤ 120) (hr : nr z n ≤ 3) :
    J b (d + 3) 97 w (0, jargs 0 [.inr (some (10, fX F)), .inr (some (6, fN F n)), .inl (kd : Int), .inl (nh z n : Int), .inl (-1)], [], H) (jN fun r w' H' => r = none ∧ (∃ mp', cPic F w' (zsend z n kd) H' je mp' bp sp ∧ ∀ i, i < zM z → mp' i = mp i) ∧ jCl H' H ∧ ∀ p, H'.1 6 6 p = H.1 6 6 p ∧ H'.1 6 7 p = H.1 6 7 p) := by
  have hP0 := hP
  obtain ⟨hT, hM, hBk, hNd, hRm⟩ := hP0
  have hT0 := hT
  obtain ⟨⟨t1, t2, t3, t4, t5, t6, t7, t8⟩, tn, ti, to, -⟩ := hT0
  have hN := hNd n hn
  have hB := hz.2.2.2.1 n hn
  have h4 := hB.1
  have hb1 : nh z n - 1 < zB z := by have := hz.1.2; omega
  have hblk := (hBk.2.2.2.1 (nh z n - 1) hb1).2.2
  have hq : 0 < bp (nh z n - 1) ∧ w.1 0 (bp (nh z n - 1)) ∧ H.1 0 1 (bp (nh z n - 1)) + 1 = (nh z n : Int) := by
    refine ⟨hblk.1.2.1, hblk.1.1, ?_⟩
    rw [hblk.1.2.2.2.1]
    omega
  have hM6 := hz.1.1
  refine J.run 2 rfl ⟨t1, by rw [t4]; exact t7⟩ ?_
  try dsimp only
  try dsimp only
  rw [t4]
  refine J.inv rfl rfl rfl rfl rfl rfl ((jD_w rfl).mpr hM.1.1) rfl rfl rfl rfl rfl (c_postFull hM.1.1 hM.2.1 hM6) ?_
  rintro r w' H' ⟨rfl, rfl, rfl⟩
  by_cases hfull : zM z = 6000
  · rw [if_pos hfull]
    refine J.ifc rfl rfl rfl ⟨by decide, by decide⟩ (fun hc => absurd hc (show ¬ (1 : Int) = 0 by decide)) (fun _ => ?_)
    exact J.retv rfl rfl rfl ⟨_, rfl, rfl, ⟨mp, hP.send0 hfull, fun _ _ => rfl⟩, jCl.refl _, fun _ => ⟨rfl, rfl⟩⟩
  rw [if_neg hfull]
  refine J.ifc rfl rfl rfl ⟨by decide, by decide⟩ (fun _ => ?_) (fun hc => absurd rfl hc)
  refine J.nw rfl rfl rfl rfl rfl rfl rfl (jstP.of rfl) fun H1 hN1 hwc => ?_
  have k1 : jK [2] [] H1 H' := (jK.refl _ _ _).new hN1 (by decide)
  refine J.run0 5 rfl ?_
  try dsimp only
  refine J.ini rfl rfl rfl (Or.inl rfl) rfl rfl rfl rfl rfl (jstP.of rfl) (c_entry (Or.inr ⟨rfl, rfl⟩) (Or.inl hN.1.1)) ?_
  rintro r w1 H2 ⟨rfl, rfl, hK2, e1, e2, e3, e4⟩
  have k2 : jK [2] [] H2 H' := hK2.trans k1 (by decide) (by decide)
  have s1 : H2.1 6 12 (fN F n) = 13 := by rw [(k2.1 6 (by decide)).1]; exact hN.2.1.2.2.2.2.2.2.2.2
  refine J.run 4 rfl (Or.inl hN.1.1) ?_
  try dsimp only
  try dsimp only
  rw [s1]
  refine J.icmp rfl rfl rfl ⟨⟨by decide, by decide⟩, by decide, by decide⟩ (fun _ => ?_) (fun hc => absurd (show (12 : Int) < 13 by decide) hc)
  have s2 : H2.2.2.2.2 6 13 (fN F n) = fO F n := by rw [(k2.1 6 (by decide)).2.2]; exact hN.2.2.2.1.1
  refine J.run 4 rfl ⟨Or.inl hN.1.1, by rw [s2]; exact hN.1.2.2.2.2.2.1⟩ ?_
  try dsimp only
  try dsimp only
  rw [s2]
  have s3 : H2.1 4 1 (fO F n) = (nr z n : Int) := by rw [(k2.1 4 (by decide)).1]; exact hN.2.2.2.1.2.1
  refine J.inv rfl rfl rfl rfl rfl rfl ((jD_w rfl).mpr (Or.inl hN.1.2.2.2.2.1)) rfl rfl rfl rfl rfl (c_write (s := nr z n) (Or.inl hN.1.2.2.2.2.1) (Or.inl hN.1.2.2.2.2.2.2) (Or.inr ⟨rfl, rfl⟩) s3 (by omega)) ?_
  rintro r w1 H3 ⟨rfl, rfl, hK3, hO3, z3, z4⟩
  refine J.run0 3 rfl ?_
  try dsimp only
  have k3 : jK [2, 4] [25] H3 H' := hK3.trans (k2.mono (cs' := [2, 4]) (ks' := [25]) (by decide) (by decide)) (by decide) (by decide)
  have hw1 : jwM w' (jwA w' 2 w'.2.1 (jfn 2)) := jwM.add w' 2 w'.2.1 (jfn 2)
  have hT3 : cTop F (jwA w' 2 w'.2.1 (jfn 2)) H3 := hT.mv hw1 k3 (by decide) (by decide)
  have hM3 : cMs F (jwA w' 2 w'.2.1 (jfn 2)) z H3 mp := hM.mv hw1 ⟨rfl, rfl⟩ k3 (by decide) (by decide)
  have hB3 : cBk F (jwA w' 2 w'.2.1 (jfn 2)) z H3 bp sp := hBk.mv hw1 rfl k3 (by decide) (by decide)
  have hN3 : cNd (jwA w' 2 w'.2.1 (jfn 2)) (nh z n, ns z n, ne z n, nr z n + 1, nK z n) (zk z) H3 n (fN F n) (fO F n) (bp (nh z n - 1)) (je n) := by
    obtain ⟨⟨a1, a2, a3, a4, a5, a6, a7⟩, bb, cc, dd, g1, g2, g3⟩ := hN
    have r6 := k3.1 6 (by decide)
    have rh := (k3.2 26 (by decide)).1
    have rf := (k3.2 27 (by decide)).1
    unfold cNd
    rw [r6.1, r6.2.2, rh, rf]
    refine ⟨⟨Or.inl a1, a2, Or.inl a3, Or.inl a4, Or.inl a5, a6, Or.inl a7⟩, bb, cc, ⟨dd.1, ?_, ?_⟩, g1, g2, g3⟩
    · rw [z3]
      show (nr z n : Int) + 1 = ((nr z n + 1 : Nat) : Int)
      omega
    · rw [z4, (k2.1 4 (by decide)).1]
      exact dd.2.2
  have hq3 : 0 < bp (nh z n - 1) ∧ (jwA w' 2 w'.2.1 (jfn 2)).1 0 (bp (nh z n - 1)) ∧ H3.1 0 1 (bp (nh z n - 1)) + 1 = (nh z n : Int) := by
    refine ⟨hq.1, Or.inl hq.2.1, ?_⟩
    rw [(k3.1 0 (by decide)).1]
    exact hq.2.2
  have c2 : H3.1 2 = H2.1 2 := (hK3.1 2 (by decide)).1
  refine J.inv rfl rfl rfl rfl rfl rfl ((jD_w rfl).mpr (Or.inl t1)) rfl rfl rfl rfl rfl (c_sendRec (d := d) (kd := kd) hz hzs hn (by omega) hT3 hM3 hN3 hq3 hh (Or.inr ⟨rfl, rfl⟩) (by rw [c2]; exact e1) (by rw [c2]; exact e2) (by rw [c2]; exact e3) (by rw [c2, e4, (k1.1 6 (by decide)).1]; exact hN.2.1.2.2.1)) ?_
  rintro r w2 H4 ⟨rfl, rfl, hK4, hM4, hN4, hS4, hJ4, hA4⟩
  have hw2 : jwM (jwA w' 2 w'.2.1 (jfn 2)) (jwA (jwA w' 2 w'.2.1 (jfn 2)) 5 (jwA w' 2 w'.2.1 (jfn 2)).2.1 8) := jwM.add _ _ _ _
  have k4 : jK [2, 4, 5, 6, 7] [25, 28, 29, 30, 31, 26, 27] H4 H' := hK4.trans (k3.mono (cs' := [2, 4, 5, 6, 7]) (ks' := [25, 28, 29, 30, 31, 26, 27]) (by decide) (by decide)) (by decide) (by decide)
  have es : zsend z n kd = (z.1 + 1, va_up z.2.1 z.1 (kd, n, nh z n), z.2.2.1, va_up z.2.2.2 n (nh z n, ns z n, ne z n, nr z n + 1, nK z n ++ [z.1])) := if_neg hfull
  have hcand : ∀ p, H4.1 6 6 p = H'.1 6 6 p ∧ H4.1 6 7 p = H'.1 6 7 p := by
    intro p
    by_cases hp : p = fN F n
    · rw [hp, hJ4 6 (by decide), hJ4 7 (by decide), (k3.1 6 (by decide)).1]
      exact ⟨rfl, rfl⟩
    · have := (hS4 p (fO F n) hp).1
      rw [(this 6).1, (this 7).1, (k3.1 6 (by decide)).1]
      exact ⟨rfl, rfl⟩
  refine J.retv rfl rfl rfl ⟨_, rfl, rfl, ⟨_, ⟨hT3.mv hw2 hK4 (by decide) (by decide), hM4, ?_, fun m hm => ?_, ?_⟩, fun i hi => if_neg (by omega)⟩, ⟨(k4.1 11 (by decide)).1, fun k hk => (k4.2 k fun z => by simp only [List.mem_cons, List.not_mem_nil, or_false] at z; omega).1, fun p i x h0 hx => hA4 p i x h0 (by rw [(k3.2 28 (by decide)).2]; exact hx)⟩, hcand⟩
  · exact hB3.mv hw2 (by rw [es]) hK4 (by decide) (by decide)
  · by_cases hmn : m = n
    · subst hmn
      have ev : (zsend z m kd).2.2.2 m = (nh z m, ns z m, ne z m, nr z m + 1, nK z m ++ [zM z]) := by
        rw [es]
        exact if_pos rfl
      have eh : nh (zsend z m kd) m = nh z m := by unfold nh; rw [ev]
      rw [ev, eh]
      exact hN4
    · have ev : (zsend z n kd).2.2.2 m = z.2.2.2 m := by
        rw [es]
        exact if_neg hmn
      have eh : nh (zsend z n kd) m = nh z m := by unfold nh; rw [ev]
      rw [ev, eh]
      have hne : fN F m ≠ fN F n := fun y => hmn (ti m n hm hn y)
      have hne2 : fO F m ≠ fO F n := fun y => hmn (to m n hm hn y)
      have hS3 : nSame H3 H' (fN F m) (fO F m) := by
        refine ⟨fun j => ?_, fun j => ?_, ?_, ?_⟩
        · rw [(k3.1 6 (by decide)).1, (k3.1 6 (by decide)).2.2]; exact ⟨rfl, rfl⟩
        · rw [hO3 j _ hne2, (k2.1 4 (by decide)).1]
        · rw [(k3.2 26 (by decide)).1]
        · rw [(k3.2 27 (by decide)).1]
      refine (hNd m hm).mv (hw1.trans hw2) ((hS4 _ _ hne).trans hS3) fun i hi => ?_
      have h9 : i < z.1 := (hz.2.2.2.1 m hm).2.2.2.2.1 i hi
      unfold zk
      rw [es]
      show (va_up z.2.1 z.1 (kd, n, nh z n) i).1 = _
      rw [show va_up z.2.1 z.1 (kd, n, nh z n) i = z.2.1 i from if_neg (by omega)]
  · obtain ⟨r1, r2⟩ := hRm
    have eB : zB (zsend z n kd) = zB z := by rw [es]
    have eM : zM (zsend z n kd) = zM z + 1 := by rw [es]
    unfold cRoom
    rw [eB, eM]
    refine ⟨?_, ?_⟩
    · show w'.2.1 + 1 + 1 ≤ _
      omega
    · show w'.2.2 + jfn 2 + 8 ≤ _
      have : jfn 2 = 10 := rfl
      omega
end CB
