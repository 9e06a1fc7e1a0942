section JMC
variable {d : Nat} {w : jW} {H : jH}
abbrev kD : List Nat := [72, 108, 99, 100, 101, 105, 111, 110, 113, 112, 75, 76, 77, 78, 83]
theorem j_decided {z : zT} {n : Nat} (hz : zInv z) (hI : rInv z H) (hn : n < 16) (hB : nh z n < zB z) (hh : nh z n ≤ 120) (hs : H.2.2.1 61 0 (nh z n : Int) = 1) :
    J true (d + 6) 142 w (0, jargs 0 [jT, .inl n, .inl (nh z n : Int)], [], H) (jN fun r w' H' => r = none ∧ w' = w ∧ rInv (zdecide z n) H') := by
  have hn' : (0 : Int) ≤ n ∧ (n : Int) < 16 := by omega
  have h4 := hz.2.2.2.1 n hn
  have hlen := nK_len hz hn
  have hM1 : zM z ≤ 6000 := hz.1.1
  have hN := hI.2.2 n hn
  refine J.run 7 rfl hn' ?_
  try dsimp only
  refine J.gen fun H1 hH1 => ?_
  have hE1 : jEx [] [72] H1 H := by
    rw [hH1]
    refine jEx.row ?_ (by decide)
    exact jEx.refl _ _ _
  have hO1 : ∀ n', n' ≠ n → n' < 16 → rOth H1 H n' := by
    intro n' a b
    rw [hH1]
    exact rOth.up (rOth.refl _ _) (Or.inl (by omega)) (Or.inr (by decide)) (Or.inr (by decide))
  have q1 : H1.2.2.1 72 0 n = (nh z n : Int) := by rw [hH1]; show jup (H.2.2.1 72 0) n (nh z n : Int) n = _; exact if_pos rfl
  clear hH1
  have hBk1 : rBlk z H1 := hI.2.1.ex hE1 rfl (by decide) (by decide)
  have hMs : ∀ i, i < zM z → H1.2.2.1 65 0 i = zh z i := fun i hi => by rw [hE1.r 65 (by decide)]; exact (hI.1.2 i hi).2.2.1
  refine J.inv rfl rfl rfl rfl rfl rfl jDr rfl rfl rfl rfl rfl (j_set (v := (nh z n + 1, ns z n, ne z n, 0, nK z n)) (ht := zh z) (B := zB z) hn hBk1.2.2.2.2.2.2.1 hBk1.2.1 hBk1.2.2.2.2.2.2.2.2 ?_ (show (nK z n).length ≤ 6000 by omega) ?_ ?_ ?_ ?_) ?_
  · rw [hE1.r 71 (by decide)]; exact hN.2.2.1.1
  · rw [hE1.r 70 (by decide)]; exact hN.2.2.1.2.1
  · intro x hx
    have hxM : x < zM z := h4.2.2.2.2.1 x hx
    have := (hz.2.1 x hxM).2.2.2.2.1
    exact ⟨by omega, hMs x hxM, by omega⟩
  · rw [q1]; show (nh z n : Int) = ((nh z n + 1 : Nat) : Int) - 1; omega
  · exact ⟨by show 1 ≤ nh z n + 1; omega, by show ((nh z n + 1 : Nat) : Int) ≤ zB z; omega⟩
  rintro r w' H2 ⟨rfl, rfl, hE2, hL2, hd2, hP2, hw2, hnow2, hO2⟩
  refine J.run 28 rfl ⟨hn', hn', hn', hn', hn'⟩ ?_
  try dsimp only
  refine J.gen fun H3 hH3 => ?_
  have hE3 : jEx [] [75, 76, 77, 78, 83] H3 H2 := by
    rw [hH3]
    iterate 5 refine jEx.row ?_ (by decide)
    exact jEx.refl _ _ _
  have hO3 : ∀ n', n' ≠ n → n' < 16 → rOth H3 H2 n' := by
    intro n' a b
    rw [hH3]
    iterate 5 refine rOth.up ?_ (Or.inl (by omega)) (Or.inr (by decide)) (Or.inr (by decide))
    exact rOth.refl _ _
  have g1 : H3.2.2.1 75 0 n = -1 := by rw [hH3]; show jup (H2.2.2.1 75 0) n (-1) n = _; exact if_pos rfl
  have g2 : H3.2.2.1 76 0 n = -1 := by rw [hH3]; show jup (H2.2.2.1 76 0) n (-1) n = _; exact if_pos rfl
  have g3 : H3.2.2.1 77 0 n = -1 := by rw [hH3]; show jup (H2.2.2.1 77 0) n (-1) n = _; exact if_pos rfl
  have g4 : H3.2.2.1 78 0 n = -1 := by rw [hH3]; show jup (H2.2.2.1 78 0) n (-1) n = _; exact if_pos rfl
  have g5 : H3.2.2.1 83 0 n = 0 := by rw [hH3]; show jup (H2.2.2.1 83 0) n 0 n = _; exact if_pos rfl
  clear hH3
  have hE21 : jEx sF kD H2 H := hE2.trans (hE1.mono (fs' := sF) (ks' := kD) (by decide) (by decide)) (by decide) (by decide)
  have hE : jEx sF kD H3 H := hE3.trans hE21 (by decide) (by decide)
  have hbs : H3.2.2.1 61 0 = H.2.2.1 61 0 := hE.r 61 (by decide)
  have elast : H3.2.2.1 72 0 n = (nh z n : Int) := by
    rw [hE3.r 72 (by decide), hE2.r 72 (by decide)]
    exact q1
  have hIz : rInv (zN z n (nh z n + 1, ns z n, ne z n, 0, nK z n)) H3 := by
    refine ⟨hI.1.ex hE ⟨rfl, rfl⟩ (by decide) (by decide), ?_, fun m hm => ?_⟩
    · obtain ⟨x1, x2, x3, x4, x5, x6, x7, x8, x9⟩ := hI.2.1
      refine ⟨?_, x2.ex hE (by decide), ?_, ?_, ?_, ?_, ?_, ?_, ?_⟩
      · rw [hE.v 12 (by decide)]; exact x1
      · rw [hbs]; exact x3
      · rw [hbs]; exact x4
      · rw [hbs]; exact x5
      · rw [hbs]; exact x6
      · unfold rLed
        rw [hE3.r 99 (by decide), hE3.r 100 (by decide), hE3.r 101 (by decide), hE3.r 105 (by decide), hE3.v 56 (by decide), hE3.v 57 (by decide)]
        exact hL2
      · rw [hE.v 4 (by decide), hE.v 45 (by decide), hE.r 57 (by decide)]; exact x8
      · rw [hE3.v 48 (by decide)]; exact hd2
    · by_cases hmn : m = n
      · subst hmn
        show rNd ((zN z m (nh z m + 1, ns z m, ne z m, 0, nK z m)).2.2.2 m) (zh z) H3 m
        rw [zN_at]
        obtain ⟨⟨a1, a2, a3, a4, a5, a6, a7⟩, ⟨b1, b2, b3, b4, b5⟩, ⟨c1, c2, c3⟩, ⟨d1, d2⟩, e1, e2⟩ := hN
        refine ⟨⟨?_, ?_, ?_, Or.inl g1, ?_, ?_, ?_⟩, ⟨?_, ?_, ?_, g5, ?_⟩, ⟨?_, ?_, ?_⟩, ⟨?_, ?_⟩, ?_, ?_⟩
        · rw [elast]; show (nh z m : Int) = ((nh z m + 1 : Nat) : Int) - 1; omega
        · rw [hE.r 73 (by decide)]; exact a2
        · rw [hE.r 74 (by decide)]; exact a3
        · rw [g2]; decide
        · rw [g3]; decide
        · rw [g1, g2, g3, g4, hE.r 84 (by decide)]; exact ⟨by decide, fun _ => ⟨rfl, rfl, rfl, rfl⟩, a7.2.2⟩
        · rw [hE.r 79 (by decide)]; exact b1
        · rw [hE.r 80 (by decide)]; exact b2
        · rw [hE.r 82 (by decide)]; exact b3
        · rw [hE.r 115 (by decide)]; exact b5
        · rw [hE.r 71 (by decide)]; exact c1
        · rw [hE.r 70 (by decide)]; exact c2
        · rw [hE.r 114 (by decide)]; exact c3
        · rw [hE3.r 111 (by decide)]; exact hP2.1
        · rw [hE3.r 110 (by decide)]; exact hP2.2
        · rw [hE3.r 113 (by decide)]; exact hw2
        · rw [hE3.r 112 (by decide)]; exact hnow2
      · show rNd ((zN z n (nh z n + 1, ns z n, ne z n, 0, nK z n)).2.2.2 m) (zh z) H3 m
        rw [zN_ne z _ hmn]
        have h6 := nK_len hz hm
        exact (hI.2.2 m hm).oth (((hO3 m hmn hm).trans (hO2 m hmn hm)).trans (hO1 m hmn hm)) (fun _ _ => rfl) (by show (nK z m).length ≤ 6000; omega)
  have hzz := zInv.decide1 hz hn hB hh
  have hat := zN_at z n (nh z n + 1, ns z n, ne z n, 0, nK z n)
  refine J.inv rfl rfl rfl rfl rfl rfl jDr rfl rfl rfl rfl rfl (j_begins (H := H3) hzz.1 hIz hn (by unfold nr; rw [hat]) hzz.2 ⟨g1, g2, g3, g4⟩ (by rw [elast, hbs]; exact hs)) ?_
  rintro r w' H4 ⟨rfl, rfl, hI4⟩
  exact J.retv rfl rfl rfl ⟨_, rfl, rfl, rfl, hI4⟩
end JMC
