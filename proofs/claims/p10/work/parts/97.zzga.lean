-- M: X8_giveBack
section
variable {d : Nat} {F : cG} 
set_option maxRecDepth 20000 in
set_option maxHeartbeats 8000000 in
theorem c_X8_giveBack_l0 {a0 : Nat} {height : Int} {T0 : cP} {w0 : jW} {H0 : jH} (hI0 : cJ F T0 w0 H0) (ta0 : T0 8 a0)  : ∀ (m : Nat), (∀ (kept k : Int) (T : cP) (w : jW) (H : jH) (lv : jL), 32 - k < (m : Int) → (0 ≤ k ∧ k ≤ 32) → (0 ≤ kept ∧ kept ≤ k) → (((w.2.1 : Nat) : Int) - 2 * H.1 7 4 F.2.2.1 - 13 * H.1 3 1 F.2.1 - H.1 3 3 F.2.1 ≤ ((w0.2.1 : Nat) : Int) - 2 * H0.1 7 4 F.2.2.1 - 13 * H0.1 3 1 F.2.1 - H0.1 3 3 F.2.1 + (0)) → (((w.2.2 : Nat) : Int) - 18 * H.1 7 4 F.2.2.1 - 700 * H.1 3 1 F.2.1 - 6 * H.1 3 3 F.2.1 ≤ ((w0.2.2 : Nat) : Int) - 18 * H0.1 7 4 F.2.2.1 - 700 * H0.1 3 1 F.2.1 - 6 * H0.1 3 3 F.2.1 + 10 * (0)) → cJ F T w H → (∀ k p, T0 k p → T k p) → cEx T0 [30032, 30036, 30037, 30038, 808] H H0 → ((lv = [(3, .inl k), (2, .inl kept), (0, .inr (some (8, a0))), (1, .inl height)])) → J false d 55 w (4, lv, [], H) (jN fun v w' H' => ∃ T', cJ F T' w' H' ∧ (∀ k p, T0 k p → T' k p) ∧ cEx T0 [30032, 30036, 30037, 30038, 808] H' H0 ∧ ((w'.2.1 : Nat) : Int) - 2 * H'.1 7 4 F.2.2.1 - 13 * H'.1 3 1 F.2.1 - H'.1 3 3 F.2.1 ≤ ((w0.2.1 : Nat) : Int) - 2 * H0.1 7 4 F.2.2.1 - 13 * H0.1 3 1 F.2.1 - H0.1 3 3 F.2.1 + (0) ∧ ((w'.2.2 : Nat) : Int) - 18 * H'.1 7 4 F.2.2.1 - 700 * H'.1 3 1 F.2.1 - 6 * H'.1 3 3 F.2.1 ≤ ((w0.2.2 : Nat) : Int) - 18 * H0.1 7 4 F.2.2.1 - 700 * H0.1 3 1 F.2.1 - 6 * H0.1 3 3 F.2.1 + 10 * (0) ∧ v = none)) := by
  intro m
  induction m with
  | zero =>
    skip
    · intro kept k T w H lv hm hi0 hi1 hi2 hi3 hI hS hE hlv
      exfalso
      omega
  | succ m ih =>
    skip
    · intro kept k T w H lv hm hi0 hi1 hi2 hi3 hI hS hE hlv
      rcases hlv with rfl
      have f1 : 0 ≤ H.1 8 8 a0 ∧ H.1 8 8 a0 ≤ 32 := hI.v 8 8 a0 (hS _ _ ta0)
      refine J.run 3 rfl (hI.is (hS _ _ ta0)) ?_
      try dsimp only
      refine J.icmp rfl rfl rfl ⟨(show -2147483648 ≤ k ∧ k ≤ 2147483647 from ⟨by omega, by omega⟩), (show -2147483648 ≤ H.1 8 8 a0 ∧ H.1 8 8 a0 ≤ 2147483647 from ⟨by omega, by omega⟩)⟩ (fun hc => ?_) (fun hc => ?_)
      · have c2 : H.1 8 8 a0 ≤ k := hc
        clear hc
        refine J.run 3 rfl (hI.is (hS _ _ ta0)) ?_
        try dsimp only
        refine J.gn fun H3 hH3 => ?_
        have hI4 : cJ F T w H3 := by rw [hH3]; exact cJ.wi hI (show 0 ≤ kept ∧ kept ≤ 32 from ⟨by omega, by omega⟩) rfl rfl
        have hE5 : cEx T0 [30032, 30036, 30037, 30038, 808] H3 H0 := by rw [hH3]; exact cEx.wi hE (by decide)
        have g6 : H3.1 7 4 F.2.2.1 = H.1 7 4 F.2.2.1 := by subst hH3; rfl
        have g7 : H3.1 3 1 F.2.1 = H.1 3 1 F.2.1 := by subst hH3; rfl
        have g8 : H3.1 3 3 F.2.1 = H.1 3 3 F.2.1 := by subst hH3; rfl
        have g10 : H3.1 8 8 a0 = kept := by subst hH3; exact if_pos rfl
        clear hH3
        exact J.retv rfl rfl rfl ⟨_, rfl, T, hI4, hS, hE5, (show ((w.2.1 : Nat) : Int) - 2 * H3.1 7 4 F.2.2.1 - 13 * H3.1 3 1 F.2.1 - H3.1 3 3 F.2.1 ≤ ((w0.2.1 : Nat) : Int) - 2 * H0.1 7 4 F.2.2.1 - 13 * H0.1 3 1 F.2.1 - H0.1 3 3 F.2.1 + (0) by omega), (show ((w.2.2 : Nat) : Int) - 18 * H3.1 7 4 F.2.2.1 - 700 * H3.1 3 1 F.2.1 - 6 * H3.1 3 3 F.2.1 ≤ ((w0.2.2 : Nat) : Int) - 18 * H0.1 7 4 F.2.2.1 - 700 * H0.1 3 1 F.2.1 - 6 * H0.1 3 3 F.2.1 + 10 * (0) by omega), rfl⟩
      · have c11 : ¬ (H.1 8 8 a0 ≤ k) := hc
        clear hc
        refine J.run 5 rfl ⟨⟨(hI.is (hS _ _ ta0)), hI.is (hI.r 8 7 38 a0 rfl (hS _ _ ta0))⟩, (show w.1 38 a0 ∧ 0 ≤ k ∧ k < 32 from ⟨hI.is (hI.r 8 7 38 a0 rfl (hS _ _ ta0)), by omega, by omega⟩)⟩ ?_
        try dsimp only
        refine J.icmpN rfl rfl rfl (fun hc => ?_) (fun hc => ?_)
        · have c12 : jn (height) < jn (H.2.2.1 38 a0 (k)) := hc
          clear hc
          have f13 : 0 ≤ H.2.2.1 36 a0 (k) ∧ H.2.2.1 36 a0 (k) ≤ 199 := hI.i 36 a0 (k) (hI.r 8 5 36 a0 rfl (hS _ _ ta0))
          refine J.run 8 rfl ⟨⟨(hI.is (hS _ _ ta0)), hI.is (hI.r 8 5 36 a0 rfl (hS _ _ ta0))⟩, ⟨(hI.is (hS _ _ ta0)), hI.is (hI.r 8 5 36 a0 rfl (hS _ _ ta0))⟩, (show w.1 36 a0 ∧ 0 ≤ k ∧ k < 32 from ⟨hI.is (hI.r 8 5 36 a0 rfl (hS _ _ ta0)), by omega, by omega⟩), (show w.1 36 a0 ∧ 0 ≤ kept ∧ kept < 32 from ⟨hI.is (hI.r 8 5 36 a0 rfl (hS _ _ ta0)), by omega, by omega⟩)⟩ ?_
          try dsimp only
          refine J.gn fun H14 hH14 => ?_
          have hI15 : cJ F T w H14 := by rw [hH14]; exact cI.wRj hI (hI.r 8 5 36 a0 rfl (hS _ _ ta0)) (show 0 ≤ H.2.2.1 36 a0 (k) ∧ H.2.2.1 36 a0 (k) ≤ 199 from ⟨by omega, by omega⟩)
          have hE16 : cEx T0 [30032, 30036, 30037, 30038, 808] H14 H0 := by rw [hH14]; exact cEx.wR hE (by decide)
          have g17 : H14.1 7 4 F.2.2.1 = H.1 7 4 F.2.2.1 := by subst hH14; rfl
          have g18 : H14.1 3 1 F.2.1 = H.1 3 1 F.2.1 := by subst hH14; rfl
          have g19 : H14.1 3 3 F.2.1 = H.1 3 3 F.2.1 := by subst hH14; rfl
          have g20 : H14.1 8 8 a0 = H.1 8 8 a0 := by subst hH14; rfl
          clear hH14
          refine J.run 8 rfl ⟨⟨(hI15.is (hS _ _ ta0)), hI15.is (hI15.r 8 6 37 a0 rfl (hS _ _ ta0))⟩, ⟨(hI15.is (hS _ _ ta0)), hI15.is (hI15.r 8 6 37 a0 rfl (hS _ _ ta0))⟩, (show w.1 37 a0 ∧ 0 ≤ k ∧ k < 32 from ⟨hI15.is (hI15.r 8 6 37 a0 rfl (hS _ _ ta0)), by omega, by omega⟩), (show w.1 37 a0 ∧ 0 ≤ kept ∧ kept < 32 from ⟨hI15.is (hI15.r 8 6 37 a0 rfl (hS _ _ ta0)), by omega, by omega⟩)⟩ ?_
          try dsimp only
          refine J.gn fun H21 hH21 => ?_
          have hI22 : cJ F T w H21 := by rw [hH21]; exact cI.wRj hI15 (hI15.r 8 6 37 a0 rfl (hS _ _ ta0)) trivial
          have hE23 : cEx T0 [30032, 30036, 30037, 30038, 808] H21 H0 := by rw [hH21]; exact cEx.wR hE16 (by decide)
          have g24 : H21.1 7 4 F.2.2.1 = H14.1 7 4 F.2.2.1 := by subst hH21; rfl
          have g25 : H21.1 3 1 F.2.1 = H14.1 3 1 F.2.1 := by subst hH21; rfl
          have g26 : H21.1 3 3 F.2.1 = H14.1 3 3 F.2.1 := by subst hH21; rfl
          have g27 : H21.1 8 8 a0 = H14.1 8 8 a0 := by subst hH21; rfl
          clear hH21
          refine J.run 8 rfl ⟨⟨(hI22.is (hS _ _ ta0)), hI22.is (hI22.r 8 7 38 a0 rfl (hS _ _ ta0))⟩, ⟨(hI22.is (hS _ _ ta0)), hI22.is (hI22.r 8 7 38 a0 rfl (hS _ _ ta0))⟩, (show w.1 38 a0 ∧ 0 ≤ k ∧ k < 32 from ⟨hI22.is (hI22.r 8 7 38 a0 rfl (hS _ _ ta0)), by omega, by omega⟩), (show w.1 38 a0 ∧ 0 ≤ kept ∧ kept < 32 from ⟨hI22.is (hI22.r 8 7 38 a0 rfl (hS _ _ ta0)), by omega, by omega⟩)⟩ ?_
          try dsimp only
          refine J.gn fun H28 hH28 => ?_
          have hI29 : cJ F T w H28 := by rw [hH28]; exact cI.wRj hI22 (hI22.r 8 7 38 a0 rfl (hS _ _ ta0)) trivial
          have hE30 : cEx T0 [30032, 30036, 30037, 30038, 808] H28 H0 := by rw [hH28]; exact cEx.wR hE23 (by decide)
          have g31 : H28.1 7 4 F.2.2.1 = H21.1 7 4 F.2.2.1 := by subst hH28; rfl
          have g32 : H28.1 3 1 F.2.1 = H21.1 3 1 F.2.1 := by subst hH28; rfl
          have g33 : H28.1 3 3 F.2.1 = H21.1 3 3 F.2.1 := by subst hH28; rfl
          have g34 : H28.1 8 8 a0 = H21.1 8 8 a0 := by subst hH28; rfl
          clear hH28
          refine J.run0 3 rfl ?_
          try dsimp only
          exact ih (kept + 1) (k + 1) T w H28 _ (show 32 - (k + 1) < _ by omega) (show 0 ≤ (k + 1) ∧ (k + 1) ≤ 32 from ⟨by omega, by omega⟩) (show 0 ≤ (kept + 1) ∧ (kept + 1) ≤ (k + 1) from ⟨by omega, by omega⟩) (show ((w.2.1 : Nat) : Int) - 2 * H28.1 7 4 F.2.2.1 - 13 * H28.1 3 1 F.2.1 - H28.1 3 3 F.2.1 ≤ ((w0.2.1 : Nat) : Int) - 2 * H0.1 7 4 F.2.2.1 - 13 * H0.1 3 1 F.2.1 - H0.1 3 3 F.2.1 + (0) from by omega) (show ((w.2.2 : Nat) : Int) - 18 * H28.1 7 4 F.2.2.1 - 700 * H28.1 3 1 F.2.1 - 6 * H28.1 3 3 F.2.1 ≤ ((w0.2.2 : Nat) : Int) - 18 * H0.1 7 4 F.2.2.1 - 700 * H0.1 3 1 F.2.1 - 6 * H0.1 3 3 F.2.1 + 10 * (0) from by omega) hI29 hS hE30  rfl
        · have c35 : ¬ (jn (height) < jn (H.2.2.1 38 a0 (k))) := hc
          clear hc
          have f36 : 0 ≤ H.2.2.1 36 a0 (k) ∧ H.2.2.1 36 a0 (k) ≤ 199 := hI.i 36 a0 (k) (hI.r 8 5 36 a0 rfl (hS _ _ ta0))
          refine J.run 14 rfl ⟨⟨(hI.is (hS _ _ ta0)), hI.is (hI.r 8 0 32 a0 rfl (hS _ _ ta0))⟩, ⟨(hI.is (hS _ _ ta0)), hI.is (hI.r 8 5 36 a0 rfl (hS _ _ ta0))⟩, (show w.1 36 a0 ∧ 0 ≤ k ∧ k < 32 from ⟨hI.is (hI.r 8 5 36 a0 rfl (hS _ _ ta0)), by omega, by omega⟩), (show w.1 32 a0 ∧ 0 ≤ H.2.2.1 36 a0 (k) ∧ H.2.2.1 36 a0 (k) < 200 from ⟨hI.is (hI.r 8 0 32 a0 rfl (hS _ _ ta0)), by omega, by omega⟩), ⟨(hI.is (hS _ _ ta0)), hI.is (hI.r 8 6 37 a0 rfl (hS _ _ ta0))⟩, (show w.1 37 a0 ∧ 0 ≤ k ∧ k < 32 from ⟨hI.is (hI.r 8 6 37 a0 rfl (hS _ _ ta0)), by omega, by omega⟩), (show w.1 32 a0 ∧ 0 ≤ H.2.2.1 36 a0 (k) ∧ H.2.2.1 36 a0 (k) < 200 from ⟨hI.is (hI.r 8 0 32 a0 rfl (hS _ _ ta0)), by omega, by omega⟩)⟩ ?_
          try dsimp only
          refine J.gn fun H37 hH37 => ?_
          have hI38 : cJ F T w H37 := by rw [hH37]; exact cI.wRj hI (hI.r 8 0 32 a0 rfl (hS _ _ ta0)) trivial
          have hE39 : cEx T0 [30032, 30036, 30037, 30038, 808] H37 H0 := by rw [hH37]; exact cEx.wR hE (by decide)
          have g40 : H37.1 7 4 F.2.2.1 = H.1 7 4 F.2.2.1 := by subst hH37; rfl
          have g41 : H37.1 3 1 F.2.1 = H.1 3 1 F.2.1 := by subst hH37; rfl
          have g42 : H37.1 3 3 F.2.1 = H.1 3 3 F.2.1 := by subst hH37; rfl
          have g43 : H37.1 8 8 a0 = H.1 8 8 a0 := by subst hH37; rfl
          clear hH37
          refine J.run0 3 rfl ?_
          try dsimp only
          exact ih (kept) (k + 1) T w H37 _ (show 32 - (k + 1) < _ by omega) (show 0 ≤ (k + 1) ∧ (k + 1) ≤ 32 from ⟨by omega, by omega⟩) (show 0 ≤ (kept) ∧ (kept) ≤ (k + 1) from ⟨by omega, by omega⟩) (show ((w.2.1 : Nat) : Int) - 2 * H37.1 7 4 F.2.2.1 - 13 * H37.1 3 1 F.2.1 - H37.1 3 3 F.2.1 ≤ ((w0.2.1 : Nat) : Int) - 2 * H0.1 7 4 F.2.2.1 - 13 * H0.1 3 1 F.2.1 - H0.1 3 3 F.2.1 + (0) from by omega) (show ((w.2.2 : Nat) : Int) - 18 * H37.1 7 4 F.2.2.1 - 700 * H37.1 3 1 F.2.1 - 6 * H37.1 3 3 F.2.1 ≤ ((w0.2.2 : Nat) : Int) - 18 * H0.1 7 4 F.2.2.1 - 700 * H0.1 3 1 F.2.1 - 6 * H0.1 3 3 F.2.1 + 10 * (0) from by omega) hI38 hS hE39  rfl
set_option maxRecDepth 20000 in
set_option maxHeartbeats 8000000 in
theorem c_X8_giveBack {a0 : Nat} {height : Int} {T : cP} {w : jW} {H : jH} (hI : cJ F T w H) (ta0 : T 8 a0)  : J false d 55 w (0, jargs 0 [.inr (some (8, a0)), .inl height], [], H) (jN fun v w' H' => ∃ T', cJ F T' w' H' ∧ (∀ k p, T k p → T' k p) ∧ cEx T [30032, 30036, 30037, 30038, 808] H' H ∧ ((w'.2.1 : Nat) : Int) - 2 * H'.1 7 4 F.2.2.1 - 13 * H'.1 3 1 F.2.1 - H'.1 3 3 F.2.1 ≤ ((w.2.1 : Nat) : Int) - 2 * H.1 7 4 F.2.2.1 - 13 * H.1 3 1 F.2.1 - H.1 3 3 F.2.1 + (0) ∧ ((w'.2.2 : Nat) : Int) - 18 * H'.1 7 4 F.2.2.1 - 700 * H'.1 3 1 F.2.1 - 6 * H'.1 3 3 F.2.1 ≤ ((w.2.2 : Nat) : Int) - 18 * H.1 7 4 F.2.2.1 - 700 * H.1 3 1 F.2.1 - 6 * H.1 3 3 F.2.1 + 10 * (0) ∧ v = none) := by
  have hE : cEx T [30032, 30036, 30037, 30038, 808] H H := cEx.refl
  have hS : ∀ k p, T k p → T k p := fun _ _ z => z
  refine J.run0 4 rfl ?_
  try dsimp only
  exact (c_X8_giveBack_l0 (a0 := a0) (height := height) hI ta0  ((32 - ((0 : Int)) : Int).toNat + 1)) ((0 : Int)) ((0 : Int)) T w H _ (show 32 - ((0 : Int)) < _ by omega) (show 0 ≤ ((0 : Int)) ∧ ((0 : Int)) ≤ 32 from ⟨by omega, by omega⟩) (show 0 ≤ ((0 : Int)) ∧ ((0 : Int)) ≤ ((0 : Int)) from ⟨by omega, by omega⟩) (show ((w.2.1 : Nat) : Int) - 2 * H.1 7 4 F.2.2.1 - 13 * H.1 3 1 F.2.1 - H.1 3 3 F.2.1 ≤ ((w.2.1 : Nat) : Int) - 2 * H.1 7 4 F.2.2.1 - 13 * H.1 3 1 F.2.1 - H.1 3 3 F.2.1 + (0) from by omega) (show ((w.2.2 : Nat) : Int) - 18 * H.1 7 4 F.2.2.1 - 700 * H.1 3 1 F.2.1 - 6 * H.1 3 3 F.2.1 ≤ ((w.2.2 : Nat) : Int) - 18 * H.1 7 4 F.2.2.1 - 700 * H.1 3 1 F.2.1 - 6 * H.1 3 3 F.2.1 + 10 * (0) from by omega) hI hS hE  rfl
end
-- M: X8_bond
section
variable {d : Nat} {F : cG} 
set_option maxRecDepth 20000 in
set_option maxHeartbeats 8000000 in
theorem c_X8_bond {a0 : Nat} {t : Nat} {place : Int} {T : cP} {w : jW} {H : jH} (hI : cJ F T w H) (ta0 : T 8 a0) (ta1 : T 9 t) (hp0 : -1 ≤ place ∧ place < 96) (hp1 : place = -1 → H.1 8 4 a0 < 96) (hp2 : H.1 9 0 t = 1) : J false d 58 w (0, jargs 0 [.inr (some (8, a0)), .inr (some (9, t)), .inl place], [], H) (jN fun v w' H' => ∃ T', cJ F T' w' H' ∧ (∀ k p, T k p → T' k p) ∧ cEx T [30032, 30033, 30034, 30035, 804] H' H ∧ ((w'.2.1 : Nat) : Int) - 2 * H'.1 7 4 F.2.2.1 - 13 * H'.1 3 1 F.2.1 - H'.1 3 3 F.2.1 ≤ ((w.2.1 : Nat) : Int) - 2 * H.1 7 4 F.2.2.1 - 13 * H.1 3 1 F.2.1 - H.1 3 3 F.2.1 + (0) ∧ ((w'.2.2 : Nat) : Int) - 18 * H'.1 7 4 F.2.2.1 - 700 * H'.1 3 1 F.2.1 - 6 * H'.1 3 3 F.2.1 ≤ ((w.2.2 : Nat) : Int) - 18 * H.1 7 4 F.2.2.1 - 700 * H.1 3 1 F.2.1 - 6 * H.1 3 3 F.2.1 + 10 * (0) ∧ v = none) := by
  have hE : cEx T [30032, 30033, 30034, 30035, 804] H H := cEx.refl
  have hS : ∀ k p, T k p → T k p := fun _ _ z => z
  have f1 : 0 ≤ H.1 9 1 t ∧ H.1 9 1 t ≤ 199 := hI.v 9 1 t ta1
  refine J.run 10 rfl ⟨⟨(hI.is ta0), hI.is (hI.r 8 0 32 a0 rfl ta0)⟩, (hI.is ta1), (show w.1 32 a0 ∧ 0 ≤ H.1 9 1 t ∧ H.1 9 1 t < 200 from ⟨hI.is (hI.r 8 0 32 a0 rfl ta0), by omega, by omega⟩), (hI.is ta1), (show w.1 32 a0 ∧ 0 ≤ H.1 9 1 t ∧ H.1 9 1 t < 200 from ⟨hI.is (hI.r 8 0 32 a0 rfl ta0), by omega, by omega⟩)⟩ ?_
  try dsimp only
  refine J.gn fun H2 hH2 => ?_
  have hI3 : cJ F T w H2 := by rw [hH2]; exact cI.wRj hI (hI.r 8 0 32 a0 rfl ta0) trivial
  have hE4 : cEx T [30032, 30033, 30034, 30035, 804] H2 H := by rw [hH2]; exact cEx.wR hE (by decide)
  have g5 : H2.1 9 0 t = H.1 9 0 t := by subst hH2; rfl
  have g6 : H2.1 8 4 a0 = H.1 8 4 a0 := by subst hH2; rfl
  have g7 : H2.1 9 1 t = H.1 9 1 t := by subst hH2; rfl
  have g8 : H2.1 7 4 F.2.2.1 = H.1 7 4 F.2.2.1 := by subst hH2; rfl
  have g9 : H2.1 3 1 F.2.1 = H.1 3 1 F.2.1 := by subst hH2; rfl
  have g10 : H2.1 3 3 F.2.1 = H.1 3 3 F.2.1 := by subst hH2; rfl
  clear hH2
  refine J.run0 2 rfl ?_
  try dsimp only
  refine J.icmp rfl rfl rfl ⟨(show -2147483648 ≤ place ∧ place ≤ 2147483647 from ⟨by omega, by omega⟩), (show -2147483648 ≤ (-1 : Int) ∧ (-1 : Int) ≤ 2147483647 from ⟨by omega, by omega⟩)⟩ (fun hc => ?_) (fun hc => ?_)
  · have c11 : place = (-1 : Int) := hc
    clear hc
    have f12 : 0 ≤ H2.1 8 4 a0 ∧ H2.1 8 4 a0 ≤ 96 := hI3.v 8 4 a0 ta0
    have f13 : 0 ≤ H2.1 9 1 t ∧ H2.1 9 1 t ≤ 199 := hI3.v 9 1 t ta1
    refine J.run 7 rfl ⟨⟨(hI3.is ta0), hI3.is (hI3.r 8 1 33 a0 rfl ta0)⟩, (hI3.is ta0), (hI3.is ta1), (show w.1 33 a0 ∧ 0 ≤ H2.1 8 4 a0 ∧ H2.1 8 4 a0 < 96 from ⟨hI3.is (hI3.r 8 1 33 a0 rfl ta0), by omega, by omega⟩)⟩ ?_
    try dsimp only
    refine J.gn fun H14 hH14 => ?_
    have hI15 : cJ F T w H14 := by rw [hH14]; exact cI.wRj hI3 (hI3.r 8 1 33 a0 rfl ta0) trivial
    have hE16 : cEx T [30032, 30033, 30034, 30035, 804] H14 H := by rw [hH14]; exact cEx.wR hE4 (by decide)
    have g17 : H14.1 9 0 t = H2.1 9 0 t := by subst hH14; rfl
    have g18 : H14.1 8 4 a0 = H2.1 8 4 a0 := by subst hH14; rfl
    have g19 : H14.1 9 1 t = H2.1 9 1 t := by subst hH14; rfl
    have g20 : H14.1 7 4 F.2.2.1 = H2.1 7 4 F.2.2.1 := by subst hH14; rfl
    have g21 : H14.1 3 1 F.2.1 = H2.1 3 1 F.2.1 := by subst hH14; rfl
    have g22 : H14.1 3 3 F.2.1 = H2.1 3 3 F.2.1 := by subst hH14; rfl
    clear hH14
    have f23 : 0 ≤ H14.1 8 4 a0 ∧ H14.1 8 4 a0 ≤ 96 := hI15.v 8 4 a0 ta0
    refine J.run 4 rfl ⟨⟨(hI15.is ta0), hI15.is (hI15.r 8 2 34 a0 rfl ta0)⟩, (hI15.is ta0)⟩ ?_
    try dsimp only
    have hx := hI15.tx ta1
    have f24 : (-1) ≤ H14.1 9 2 t ∧ H14.1 9 2 t ≤ 199 := hI15.v 9 2 t ta1
    refine J.run 3 rfl ⟨(hI15.is ta1), (show w.1 34 a0 ∧ 0 ≤ H14.1 8 4 a0 ∧ H14.1 8 4 a0 < 96 from ⟨hI15.is (hI15.r 8 2 34 a0 rfl ta0), by omega, by omega⟩)⟩ ?_
    try dsimp only
    refine J.gn fun H25 hH25 => ?_
    have hI26 : cJ F T w H25 := by rw [hH25]; exact cI.wRj hI15 (hI15.r 8 2 34 a0 rfl ta0) (show 0 ≤ H14.1 9 2 t ∧ H14.1 9 2 t ≤ 15 from ⟨by omega, by omega⟩)
    have hE27 : cEx T [30032, 30033, 30034, 30035, 804] H25 H := by rw [hH25]; exact cEx.wR hE16 (by decide)
    have g28 : H25.1 9 0 t = H14.1 9 0 t := by subst hH25; rfl
    have g29 : H25.1 8 4 a0 = H14.1 8 4 a0 := by subst hH25; rfl
    have g30 : H25.1 9 1 t = H14.1 9 1 t := by subst hH25; rfl
    have g31 : H25.1 7 4 F.2.2.1 = H14.1 7 4 F.2.2.1 := by subst hH25; rfl
    have g32 : H25.1 3 1 F.2.1 = H14.1 3 1 F.2.1 := by subst hH25; rfl
    have g33 : H25.1 3 3 F.2.1 = H14.1 3 3 F.2.1 := by subst hH25; rfl
    have g34 : H25.1 9 2 t = H14.1 9 2 t := by subst hH25; rfl
    clear hH25
    have f35 : 0 ≤ H25.1 8 4 a0 ∧ H25.1 8 4 a0 ≤ 96 := hI26.v 8 4 a0 ta0
    refine J.run 7 rfl ⟨⟨(hI26.is ta0), hI26.is (hI26.r 8 3 35 a0 rfl ta0)⟩, (hI26.is ta0), (hI26.is ta1), (show w.1 35 a0 ∧ 0 ≤ H25.1 8 4 a0 ∧ H25.1 8 4 a0 < 96 from ⟨hI26.is (hI26.r 8 3 35 a0 rfl ta0), by omega, by omega⟩)⟩ ?_
    try dsimp only
    refine J.gn fun H36 hH36 => ?_
    have hI37 : cJ F T w H36 := by rw [hH36]; exact cI.wRj hI26 (hI26.r 8 3 35 a0 rfl ta0) trivial
    have hE38 : cEx T [30032, 30033, 30034, 30035, 804] H36 H := by rw [hH36]; exact cEx.wR hE27 (by decide)
    have g39 : H36.1 9 0 t = H25.1 9 0 t := by subst hH36; rfl
    have g40 : H36.1 8 4 a0 = H25.1 8 4 a0 := by subst hH36; rfl
    have g41 : H36.1 9 1 t = H25.1 9 1 t := by subst hH36; rfl
    have g42 : H36.1 7 4 F.2.2.1 = H25.1 7 4 F.2.2.1 := by subst hH36; rfl
    have g43 : H36.1 3 1 F.2.1 = H25.1 3 1 F.2.1 := by subst hH36; rfl
    have g44 : H36.1 3 3 F.2.1 = H25.1 3 3 F.2.1 := by subst hH36; rfl
    have g45 : H36.1 9 2 t = H25.1 9 2 t := by subst hH36; rfl
    clear hH36
    have f46 : 0 ≤ H36.1 8 4 a0 ∧ H36.1 8 4 a0 ≤ 96 := hI37.v 8 4 a0 ta0
    refine J.run 6 rfl ⟨(hI37.is ta0), (hI37.is ta0)⟩ ?_
    try dsimp only
    refine J.gn fun H47 hH47 => ?_
    have hI48 : cJ F T w H47 := by rw [hH47]; exact cJ.wi hI37 (show 0 ≤ (H36.1 8 4 a0) + (1 : Int) ∧ (H36.1 8 4 a0) + (1 : Int) ≤ 96 from ⟨by omega, by omega⟩) rfl rfl
    have hE49 : cEx T [30032, 30033, 30034, 30035, 804] H47 H := by rw [hH47]; exact cEx.wi hE38 (by decide)
    have g50 : H47.1 9 0 t = H36.1 9 0 t := by subst hH47; rfl
    have g52 : H47.1 9 1 t = H36.1 9 1 t := by subst hH47; rfl
    have g53 : H47.1 7 4 F.2.2.1 = H36.1 7 4 F.2.2.1 := by subst hH47; rfl
    have g54 : H47.1 3 1 F.2.1 = H36.1 3 1 F.2.1 := by subst hH47; rfl
    have g55 : H47.1 3 3 F.2.1 = H36.1 3 3 F.2.1 := by subst hH47; rfl
    have g56 : H47.1 9 2 t = H36.1 9 2 t := by subst hH47; rfl
    have g57 : H47.1 8 4 a0 = (H36.1 8 4 a0) + (1 : Int) := by subst hH47; exact if_pos rfl
    clear hH47
    exact J.retv rfl rfl rfl ⟨_, rfl, T, hI48, hS, hE49, (show ((w.2.1 : Nat) : Int) - 2 * H47.1 7 4 F.2.2.1 - 13 * H47.1 3 1 F.2.1 - H47.1 3 3 F.2.1 ≤ ((w.2.1 : Nat) : Int) - 2 * H.1 7 4 F.2.2.1 - 13 * H.1 3 1 F.2.1 - H.1 3 3 F.2.1 + (0) by omega), (show ((w.2.2 : Nat) : Int) - 18 * H47.1 7 4 F.2.2.1 - 700 * H47.1 3 1 F.2.1 - 6 * H47.1 3 3 F.2.1 ≤ ((w.2.2 : Nat) : Int) - 18 * H.1 7 4 F.2.2.1 - 700 * H.1 3 1 F.2.1 - 6 * H.1 3 3 F.2.1 + 10 * (0) by omega), rfl⟩
  · have c58 : ¬ (place = (-1 : Int)) := hc
    clear hc
    refine J.run 9 rfl ⟨⟨(hI3.is ta0), hI3.is (hI3.r 8 3 35 a0 rfl ta0)⟩, (show w.1 35 a0 ∧ 0 ≤ place ∧ place < 96 from ⟨hI3.is (hI3.r 8 3 35 a0 rfl ta0), by omega, by omega⟩), (hI3.is ta1), (show w.1 35 a0 ∧ 0 ≤ place ∧ place < 96 from ⟨hI3.is (hI3.r 8 3 35 a0 rfl ta0), by omega, by omega⟩)⟩ ?_
    try dsimp only
    refine J.gn fun H59 hH59 => ?_
    have hI60 : cJ F T w H59 := by rw [hH59]; exact cI.wRj hI3 (hI3.r 8 3 35 a0 rfl ta0) trivial
    have hE61 : cEx T [30032, 30033, 30034, 30035, 804] H59 H := by rw [hH59]; exact cEx.wR hE4 (by decide)
    have g62 : H59.1 9 0 t = H2.1 9 0 t := by subst hH59; rfl
    have g63 : H59.1 8 4 a0 = H2.1 8 4 a0 := by subst hH59; rfl
    have g64 : H59.1 9 1 t = H2.1 9 1 t := by subst hH59; rfl
    have g65 : H59.1 7 4 F.2.2.1 = H2.1 7 4 F.2.2.1 := by subst hH59; rfl
    have g66 : H59.1 3 1 F.2.1 = H2.1 3 1 F.2.1 := by subst hH59; rfl
    have g67 : H59.1 3 3 F.2.1 = H2.1 3 3 F.2.1 := by subst hH59; rfl
    clear hH59
    exact J.retv rfl rfl rfl ⟨_, rfl, T, hI60, hS, hE61, (show ((w.2.1 : Nat) : Int) - 2 * H59.1 7 4 F.2.2.1 - 13 * H59.1 3 1 F.2.1 - H59.1 3 3 F.2.1 ≤ ((w.2.1 : Nat) : Int) - 2 * H.1 7 4 F.2.2.1 - 13 * H.1 3 1 F.2.1 - H.1 3 3 F.2.1 + (0) by omega), (show ((w.2.2 : Nat) : Int) - 18 * H59.1 7 4 F.2.2.1 - 700 * H59.1 3 1 F.2.1 - 6 * H59.1 3 3 F.2.1 ≤ ((w.2.2 : Nat) : Int) - 18 * H.1 7 4 F.2.2.1 - 700 * H.1 3 1 F.2.1 - 6 * H.1 3 3 F.2.1 + 10 * (0) by omega), rfl⟩
end
-- M: X8_unbond
section
variable {d : Nat} {F : cG} 
set_option maxRecDepth 20000 in
set_option maxHeartbeats 8000000 in
theorem c_X8_unbond {a0 : Nat} {t : Nat} {place : Int} {due : Int} {T : cP} {w : jW} {H : jH} (hI : cJ F T w H) (ta0 : T 8 a0) (ta1 : T 9 t) (hp0 : 0 ≤ place ∧ place < H.1 8 4 a0) (hp1 : H.1 8 8 a0 < 32) : J false d 59 w (0, jargs 0 [.inr (some (8, a0)), .inr (some (9, t)), .inl place, .inl due], [], H) (jN fun v w' H' => ∃ T', cJ F T' w' H' ∧ (∀ k p, T k p → T' k p) ∧ cEx T [30033, 30034, 30035, 804, 30036, 30037, 30038, 808] H' H ∧ ((w'.2.1 : Nat) : Int) - 2 * H'.1 7 4 F.2.2.1 - 13 * H'.1 3 1 F.2.1 - H'.1 3 3 F.2.1 ≤ ((w.2.1 : Nat) : Int) - 2 * H.1 7 4 F.2.2.1 - 13 * H.1 3 1 F.2.1 - H.1 3 3 F.2.1 + (0) ∧ ((w'.2.2 : Nat) : Int) - 18 * H'.1 7 4 F.2.2.1 - 700 * H'.1 3 1 F.2.1 - 6 * H'.1 3 3 F.2.1 ≤ ((w.2.2 : Nat) : Int) - 18 * H.1 7 4 F.2.2.1 - 700 * H.1 3 1 F.2.1 - 6 * H.1 3 3 F.2.1 + 10 * (0) ∧ v = none) := by
  have q0 : 0 ≤ H.1 8 4 a0 ∧ H.1 8 4 a0 ≤ 96 := hI.v 8 4 a0 ta0
  have hE : cEx T [30033, 30034, 30035, 804, 30036, 30037, 30038, 808] H H := cEx.refl
  have hS : ∀ k p, T k p → T k p := fun _ _ z => z
  refine J.run 9 rfl ⟨⟨(hI.is ta0), hI.is (hI.r 8 3 35 a0 rfl ta0)⟩, (show w.1 35 a0 ∧ 0 ≤ place ∧ place < 96 from ⟨hI.is (hI.r 8 3 35 a0 rfl ta0), by omega, by omega⟩), (hI.is ta1), (show w.1 35 a0 ∧ 0 ≤ place ∧ place < 96 from ⟨hI.is (hI.r 8 3 35 a0 rfl ta0), by omega, by omega⟩)⟩ ?_
  try dsimp only
  refine J.gn fun H1 hH1 => ?_
  have hI2 : cJ F T w H1 := by rw [hH1]; exact cI.wRj hI (hI.r 8 3 35 a0 rfl ta0) trivial
  have hE3 : cEx T [30033, 30034, 30035, 804, 30036, 30037, 30038, 808] H1 H := by rw [hH1]; exact cEx.wR hE (by decide)
  have g4 : H1.1 8 4 a0 = H.1 8 4 a0 := by subst hH1; rfl
  have g5 : H1.1 8 8 a0 = H.1 8 8 a0 := by subst hH1; rfl
  have g6 : H1.1 7 4 F.2.2.1 = H.1 7 4 F.2.2.1 := by subst hH1; rfl
  have g7 : H1.1 3 1 F.2.1 = H.1 3 1 F.2.1 := by subst hH1; rfl
  have g8 : H1.1 3 3 F.2.1 = H.1 3 3 F.2.1 := by subst hH1; rfl
  clear hH1
  refine J.run 4 rfl ⟨⟨(hI2.is ta0), hI2.is (hI2.r 8 3 35 a0 rfl ta0)⟩, (show w.1 35 a0 ∧ 0 ≤ place ∧ place < 96 from ⟨hI2.is (hI2.r 8 3 35 a0 rfl ta0), by omega, by omega⟩)⟩ ?_
  try dsimp only
  refine J.ifcN rfl rfl rfl (fun hc => ?_) (fun hc => ?_)
  · have c9 : ¬ (jn (H1.2.2.1 35 a0 (place)) = (0 : Int)) := hc
    clear hc
    have f10 : 0 ≤ H1.1 8 8 a0 ∧ H1.1 8 8 a0 ≤ 32 := hI2.v 8 8 a0 ta0
    have f11 : 0 ≤ H1.1 9 1 t ∧ H1.1 9 1 t ≤ 199 := hI2.v 9 1 t ta1
    refine J.run 7 rfl ⟨⟨(hI2.is ta0), hI2.is (hI2.r 8 5 36 a0 rfl ta0)⟩, (hI2.is ta0), (hI2.is ta1), (show w.1 36 a0 ∧ 0 ≤ H1.1 8 8 a0 ∧ H1.1 8 8 a0 < 32 from ⟨hI2.is (hI2.r 8 5 36 a0 rfl ta0), by omega, by omega⟩)⟩ ?_
    try dsimp only
    refine J.gn fun H12 hH12 => ?_
    have hI13 : cJ F T w H12 := by rw [hH12]; exact cI.wRj hI2 (hI2.r 8 5 36 a0 rfl ta0) (show 0 ≤ H1.1 9 1 t ∧ H1.1 9 1 t ≤ 199 from ⟨by omega, by omega⟩)
    have hE14 : cEx T [30033, 30034, 30035, 804, 30036, 30037, 30038, 808] H12 H := by rw [hH12]; exact cEx.wR hE3 (by decide)
    have g15 : H12.1 8 4 a0 = H1.1 8 4 a0 := by subst hH12; rfl
    have g16 : H12.1 8 8 a0 = H1.1 8 8 a0 := by subst hH12; rfl
    have g17 : H12.1 7 4 F.2.2.1 = H1.1 7 4 F.2.2.1 := by subst hH12; rfl
    have g18 : H12.1 3 1 F.2.1 = H1.1 3 1 F.2.1 := by subst hH12; rfl
    have g19 : H12.1 3 3 F.2.1 = H1.1 3 3 F.2.1 := by subst hH12; rfl
    have g20 : H12.1 9 1 t = H1.1 9 1 t := by subst hH12; rfl
    clear hH12
    have f21 : 0 ≤ H12.1 8 8 a0 ∧ H12.1 8 8 a0 ≤ 32 := hI13.v 8 8 a0 ta0
    refine J.run 7 rfl ⟨⟨(hI13.is ta0), hI13.is (hI13.r 8 6 37 a0 rfl ta0)⟩, (hI13.is ta0), (hI13.is ta1), (show w.1 37 a0 ∧ 0 ≤ H12.1 8 8 a0 ∧ H12.1 8 8 a0 < 32 from ⟨hI13.is (hI13.r 8 6 37 a0 rfl ta0), by omega, by omega⟩)⟩ ?_
    try dsimp only
    refine J.gn fun H22 hH22 => ?_
    have hI23 : cJ F T w H22 := by rw [hH22]; exact cI.wRj hI13 (hI13.r 8 6 37 a0 rfl ta0) trivial
    have hE24 : cEx T [30033, 30034, 30035, 804, 30036, 30037, 30038, 808] H22 H := by rw [hH22]; exact cEx.wR hE14 (by decide)
    have g25 : H22.1 8 4 a0 = H12.1 8 4 a0 := by subst hH22; rfl
    have g26 : H22.1 8 8 a0 = H12.1 8 8 a0 := by subst hH22; rfl
    have g27 : H22.1 7 4 F.2.2.1 = H12.1 7 4 F.2.2.1 := by subst hH22; rfl
    have g28 : H22.1 3 1 F.2.1 = H12.1 3 1 F.2.1 := by subst hH22; rfl
    have g29 : H22.1 3 3 F.2.1 = H12.1 3 3 F.2.1 := by subst hH22; rfl
    have g30 : H22.1 9 1 t = H12.1 9 1 t := by subst hH22; rfl
    clear hH22
    have f31 : 0 ≤ H22.1 8 8 a0 ∧ H22.1 8 8 a0 ≤ 32 := hI23.v 8 8 a0 ta0
    refine J.run 6 rfl ⟨⟨(hI23.is ta0), hI23.is (hI23.r 8 7 38 a0 rfl ta0)⟩, (hI23.is ta0), (show w.1 38 a0 ∧ 0 ≤ H22.1 8 8 a0 ∧ H22.1 8 8 a0 < 32 from ⟨hI23.is (hI23.r 8 7 38 a0 rfl ta0), by omega, by omega⟩)⟩ ?_
    try dsimp only
    refine J.gn fun H32 hH32 => ?_
    have hI33 : cJ F T w H32 := by rw [hH32]; exact cI.wRj hI23 (hI23.r 8 7 38 a0 rfl ta0) trivial
    have hE34 : cEx T [30033, 30034, 30035, 804, 30036, 30037, 30038, 808] H32 H := by rw [hH32]; exact cEx.wR hE24 (by decide)
    have g35 : H32.1 8 4 a0 = H22.1 8 4 a0 := by subst hH32; rfl
    have g36 : H32.1 8 8 a0 = H22.1 8 8 a0 := by subst hH32; rfl
    have g37 : H32.1 7 4 F.2.2.1 = H22.1 7 4 F.2.2.1 := by subst hH32; rfl
    have g38 : H32.1 3 1 F.2.1 = H22.1 3 1 F.2.1 := by subst hH32; rfl
    have g39 : H32.1 3 3 F.2.1 = H22.1 3 3 F.2.1 := by subst hH32; rfl
    have g40 : H32.1 9 1 t = H22.1 9 1 t := by subst hH32; rfl
    clear hH32
    have f41 : 0 ≤ H32.1 8 8 a0 ∧ H32.1 8 8 a0 ≤ 32 := hI33.v 8 8 a0 ta0
    refine J.run 6 rfl ⟨(hI33.is ta0), (hI33.is ta0)⟩ ?_
    try dsimp only
    refine J.gn fun H42 hH42 => ?_
    have hI43 : cJ F T w H42 := by rw [hH42]; exact cJ.wi hI33 (show 0 ≤ (H32.1 8 8 a0) + (1 : Int) ∧ (H32.1 8 8 a0) + (1 : Int) ≤ 32 from ⟨by omega, by omega⟩) rfl rfl
    have hE44 : cEx T [30033, 30034, 30035, 804, 30036, 30037, 30038, 808] H42 H := by rw [hH42]; exact cEx.wi hE34 (by decide)
    have g45 : H42.1 8 4 a0 = H32.1 8 4 a0 := by subst hH42; rfl
    have g47 : H42.1 7 4 F.2.2.1 = H32.1 7 4 F.2.2.1 := by subst hH42; rfl
    have g48 : H42.1 3 1 F.2.1 = H32.1 3 1 F.2.1 := by subst hH42; rfl
    have g49 : H42.1 3 3 F.2.1 = H32.1 3 3 F.2.1 := by subst hH42; rfl
    have g50 : H42.1 9 1 t = H32.1 9 1 t := by subst hH42; rfl
    have g51 : H42.1 8 8 a0 = (H32.1 8 8 a0) + (1 : Int) := by subst hH42; exact if_pos rfl
    clear hH42
    exact J.retv rfl rfl rfl ⟨_, rfl, T, hI43, hS, hE44, (show ((w.2.1 : Nat) : Int) - 2 * H42.1 7 4 F.2.2.1 - 13 * H42.1 3 1 F.2.1 - H42.1 3 3 F.2.1 ≤ ((w.2.1 : Nat) : Int) - 2 * H.1 7 4 F.2.2.1 - 13 * H.1 3 1 F.2.1 - H.1 3 3 F.2.1 + (0) by omega), (show ((w.2.2 : Nat) : Int) - 18 * H42.1 7 4 F.2.2.1 - 700 * H42.1 3 1 F.2.1 - 6 * H42.1 3 3 F.2.1 ≤ ((w.2.2 : Nat) : Int) - 18 * H.1 7 4 F.2.2.1 - 700 * H.1 3 1 F.2.1 - 6 * H.1 3 3 F.2.1 + 10 * (0) by omega), rfl⟩
  · have c52 : ¬ (¬ (jn (H1.2.2.1 35 a0 (place)) = (0 : Int))) := hc
    clear hc
    have f53 : 0 ≤ H1.1 8 4 a0 ∧ H1.1 8 4 a0 ≤ 96 := hI2.v 8 4 a0 ta0
    refine J.run 6 rfl ⟨(hI2.is ta0), (hI2.is ta0)⟩ ?_
    try dsimp only
    refine J.gn fun H54 hH54 => ?_
    have hI55 : cJ F T w H54 := by rw [hH54]; exact cJ.wi hI2 (show 0 ≤ (H1.1 8 4 a0) - (1 : Int) ∧ (H1.1 8 4 a0) - (1 : Int) ≤ 96 from ⟨by omega, by omega⟩) rfl rfl
    have hE56 : cEx T [30033, 30034, 30035, 804, 30036, 30037, 30038, 808] H54 H := by rw [hH54]; exact cEx.wi hE3 (by decide)
    have g58 : H54.1 8 8 a0 = H1.1 8 8 a0 := by subst hH54; rfl
    have g59 : H54.1 7 4 F.2.2.1 = H1.1 7 4 F.2.2.1 := by subst hH54; rfl
    have g60 : H54.1 3 1 F.2.1 = H1.1 3 1 F.2.1 := by subst hH54; rfl
    have g61 : H54.1 3 3 F.2.1 = H1.1 3 3 F.2.1 := by subst hH54; rfl
    have g62 : H54.1 8 4 a0 = (H1.1 8 4 a0) - (1 : Int) := by subst hH54; exact if_pos rfl
    clear hH54
    have f63 : 0 ≤ H54.1 8 4 a0 ∧ H54.1 8 4 a0 ≤ 96 := hI55.v 8 4 a0 ta0
    refine J.run 9 rfl ⟨⟨(hI55.is ta0), hI55.is (hI55.r 8 1 33 a0 rfl ta0)⟩, ⟨(hI55.is ta0), hI55.is (hI55.r 8 1 33 a0 rfl ta0)⟩, (hI55.is ta0), (show w.1 33 a0 ∧ 0 ≤ H54.1 8 4 a0 ∧ H54.1 8 4 a0 < 96 from ⟨hI55.is (hI55.r 8 1 33 a0 rfl ta0), by omega, by omega⟩), (show w.1 33 a0 ∧ 0 ≤ place ∧ place < 96 from ⟨hI55.is (hI55.r 8 1 33 a0 rfl ta0), by omega, by omega⟩)⟩ ?_
    try dsimp only
    refine J.gn fun H64 hH64 => ?_
    have hI65 : cJ F T w H64 := by rw [hH64]; exact cI.wRj hI55 (hI55.r 8 1 33 a0 rfl ta0) trivial
    have hE66 : cEx T [30033, 30034, 30035, 804, 30036, 30037, 30038, 808] H64 H := by rw [hH64]; exact cEx.wR hE56 (by decide)
    have g67 : H64.1 8 8 a0 = H54.1 8 8 a0 := by subst hH64; rfl
    have g68 : H64.1 7 4 F.2.2.1 = H54.1 7 4 F.2.2.1 := by subst hH64; rfl
    have g69 : H64.1 3 1 F.2.1 = H54.1 3 1 F.2.1 := by subst hH64; rfl
    have g70 : H64.1 3 3 F.2.1 = H54.1 3 3 F.2.1 := by subst hH64; rfl
    have g71 : H64.1 8 4 a0 = H54.1 8 4 a0 := by subst hH64; rfl
    clear hH64
    have f72 : 0 ≤ H64.1 8 4 a0 ∧ H64.1 8 4 a0 ≤ 96 := hI65.v 8 4 a0 ta0
    have f73 : 0 ≤ H64.2.2.1 34 a0 (H64.1 8 4 a0) ∧ H64.2.2.1 34 a0 (H64.1 8 4 a0) ≤ 15 := hI65.i 34 a0 (H64.1 8 4 a0) (hI65.r 8 2 34 a0 rfl ta0)
    refine J.run 9 rfl ⟨⟨(hI65.is ta0), hI65.is (hI65.r 8 2 34 a0 rfl ta0)⟩, ⟨(hI65.is ta0), hI65.is (hI65.r 8 2 34 a0 rfl ta0)⟩, (hI65.is ta0), (show w.1 34 a0 ∧ 0 ≤ H64.1 8 4 a0 ∧ H64.1 8 4 a0 < 96 from ⟨hI65.is (hI65.r 8 2 34 a0 rfl ta0), by omega, by omega⟩), (show w.1 34 a0 ∧ 0 ≤ place ∧ place < 96 from ⟨hI65.is (hI65.r 8 2 34 a0 rfl ta0), by omega, by omega⟩)⟩ ?_
    try dsimp only
    refine J.gn fun H74 hH74 => ?_
    have hI75 : cJ F T w H74 := by rw [hH74]; exact cI.wRj hI65 (hI65.r 8 2 34 a0 rfl ta0) (show 0 ≤ H64.2.2.1 34 a0 (H64.1 8 4 a0) ∧ H64.2.2.1 34 a0 (H64.1 8 4 a0) ≤ 15 from ⟨by omega, by omega⟩)
    have hE76 : cEx T [30033, 30034, 30035, 804, 30036, 30037, 30038, 808] H74 H := by rw [hH74]; exact cEx.wR hE66 (by decide)
    have g77 : H74.1 8 8 a0 = H64.1 8 8 a0 := by subst hH74; rfl
    have g78 : H74.1 7 4 F.2.2.1 = H64.1 7 4 F.2.2.1 := by subst hH74; rfl
    have g79 : H74.1 3 1 F.2.1 = H64.1 3 1 F.2.1 := by subst hH74; rfl
    have g80 : H74.1 3 3 F.2.1 = H64.1 3 3 F.2.1 := by subst hH74; rfl
    have g81 : H74.1 8 4 a0 = H64.1 8 4 a0 := by subst hH74; rfl
    clear hH74
    have f82 : 0 ≤ H74.1 8 4 a0 ∧ H74.1 8 4 a0 ≤ 96 := hI75.v 8 4 a0 ta0
    refine J.run 9 rfl ⟨⟨(hI75.is ta0), hI75.is (hI75.r 8 3 35 a0 rfl ta0)⟩, ⟨(hI75.is ta0), hI75.is (hI75.r 8 3 35 a0 rfl ta0)⟩, (hI75.is ta0), (show w.1 35 a0 ∧ 0 ≤ H74.1 8 4 a0 ∧ H74.1 8 4 a0 < 96 from ⟨hI75.is (hI75.r 8 3 35 a0 rfl ta0), by omega, by omega⟩), (show w.1 35 a0 ∧ 0 ≤ place ∧ place < 96 from ⟨hI75.is (hI75.r 8 3 35 a0 rfl ta0), by omega, by omega⟩)⟩ ?_
    try dsimp only
    refine J.gn fun H83 hH83 => ?_
    have hI84 : cJ F T w H83 := by rw [hH83]; exact cI.wRj hI75 (hI75.r 8 3 35 a0 rfl ta0) trivial
    have hE85 : cEx T [30033, 30034, 30035, 804, 30036, 30037, 30038, 808] H83 H := by rw [hH83]; exact cEx.wR hE76 (by decide)
    have g86 : H83.1 8 8 a0 = H74.1 8 8 a0 := by subst hH83; rfl
    have g87 : H83.1 7 4 F.2.2.1 = H74.1 7 4 F.2.2.1 := by subst hH83; rfl
    have g88 : H83.1 3 1 F.2.1 = H74.1 3 1 F.2.1 := by subst hH83; rfl
    have g89 : H83.1 3 3 F.2.1 = H74.1 3 3 F.2.1 := by subst hH83; rfl
    have g90 : H83.1 8 4 a0 = H74.1 8 4 a0 := by subst hH83; rfl
    clear hH83
    have f91 : 0 ≤ H83.1 8 8 a0 ∧ H83.1 8 8 a0 ≤ 32 := hI84.v 8 8 a0 ta0
    have f92 : 0 ≤ H83.1 9 1 t ∧ H83.1 9 1 t ≤ 199 := hI84.v 9 1 t ta1
    refine J.run 7 rfl ⟨⟨(hI84.is ta0), hI84.is (hI84.r 8 5 36 a0 rfl ta0)⟩, (hI84.is ta0), (hI84.is ta1), (show w.1 36 a0 ∧ 0 ≤ H83.1 8 8 a0 ∧ H83.1 8 8 a0 < 32 from ⟨hI84.is (hI84.r 8 5 36 a0 rfl ta0), by omega, by omega⟩)⟩ ?_
    try dsimp only
    refine J.gn fun H93 hH93 => ?_
    have hI94 : cJ F T w H93 := by rw [hH93]; exact cI.wRj hI84 (hI84.r 8 5 36 a0 rfl ta0) (show 0 ≤ H83.1 9 1 t ∧ H83.1 9 1 t ≤ 199 from ⟨by omega, by omega⟩)
    have hE95 : cEx T [30033, 30034, 30035, 804, 30036, 30037, 30038, 808] H93 H := by rw [hH93]; exact cEx.wR hE85 (by decide)
    have g96 : H93.1 8 8 a0 = H83.1 8 8 a0 := by subst hH93; rfl
    have g97 : H93.1 7 4 F.2.2.1 = H83.1 7 4 F.2.2.1 := by subst hH93; rfl
    have g98 : H93.1 3 1 F.2.1 = H83.1 3 1 F.2.1 := by subst hH93; rfl
    have g99 : H93.1 3 3 F.2.1 = H83.1 3 3 F.2.1 := by subst hH93; rfl
    have g100 : H93.1 8 4 a0 = H83.1 8 4 a0 := by subst hH93; rfl
    have g101 : H93.1 9 1 t = H83.1 9 1 t := by subst hH93; rfl
    clear hH93
    have f102 : 0 ≤ H93.1 8 8 a0 ∧ H93.1 8 8 a0 ≤ 32 := hI94.v 8 8 a0 ta0
    refine J.run 7 rfl ⟨⟨(hI94.is ta0), hI94.is (hI94.r 8 6 37 a0 rfl ta0)⟩, (hI94.is ta0), (hI94.is ta1), (show w.1 37 a0 ∧ 0 ≤ H93.1 8 8 a0 ∧ H93.1 8 8 a0 < 32 from ⟨hI94.is (hI94.r 8 6 37 a0 rfl ta0), by omega, by omega⟩)⟩ ?_
    try dsimp only
    refine J.gn fun H103 hH103 => ?_
    have hI104 : cJ F T w H103 := by rw [hH103]; exact cI.wRj hI94 (hI94.r 8 6 37 a0 rfl ta0) trivial
    have hE105 : cEx T [30033, 30034, 30035, 804, 30036, 30037, 30038, 808] H103 H := by rw [hH103]; exact cEx.wR hE95 (by decide)
    have g106 : H103.1 8 8 a0 = H93.1 8 8 a0 := by subst hH103; rfl
    have g107 : H103.1 7 4 F.2.2.1 = H93.1 7 4 F.2.2.1 := by subst hH103; rfl
    have g108 : H103.1 3 1 F.2.1 = H93.1 3 1 F.2.1 := by subst hH103; rfl
    have g109 : H103.1 3 3 F.2.1 = H93.1 3 3 F.2.1 := by subst hH103; rfl
    have g110 : H103.1 8 4 a0 = H93.1 8 4 a0 := by subst hH103; rfl
    have g111 : H103.1 9 1 t = H93.1 9 1 t := by subst hH103; rfl
    clear hH103
    have f112 : 0 ≤ H103.1 8 8 a0 ∧ H103.1 8 8 a0 ≤ 32 := hI104.v 8 8 a0 ta0
    refine J.run 6 rfl ⟨⟨(hI104.is ta0), hI104.is (hI104.r 8 7 38 a0 rfl ta0)⟩, (hI104.is ta0), (show w.1 38 a0 ∧ 0 ≤ H103.1 8 8 a0 ∧ H103.1 8 8 a0 < 32 from ⟨hI104.is (hI104.r 8 7 38 a0 rfl ta0), by omega, by omega⟩)⟩ ?_
    try dsimp only
    refine J.gn fun H113 hH113 => ?_
    have hI114 : cJ F T w H113 := by rw [hH113]; exact cI.wRj hI104 (hI104.r 8 7 38 a0 rfl ta0) trivial
    have hE115 : cEx T [30033, 30034, 30035, 804, 30036, 30037, 30038, 808] H113 H := by rw [hH113]; exact cEx.wR hE105 (by decide)
    have g116 : H113.1 8 8 a0 = H103.1 8 8 a0 := by subst hH113; rfl
    have g117 : H113.1 7 4 F.2.2.1 = H103.1 7 4 F.2.2.1 := by subst hH113; rfl
    have g118 : H113.1 3 1 F.2.1 = H103.1 3 1 F.2.1 := by subst hH113; rfl
    have g119 : H113.1 3 3 F.2.1 = H103.1 3 3 F.2.1 := by subst hH113; rfl
    have g120 : H113.1 8 4 a0 = H103.1 8 4 a0 := by subst hH113; rfl
    have g121 : H113.1 9 1 t = H103.1 9 1 t := by subst hH113; rfl
    clear hH113
    have f122 : 0 ≤ H113.1 8 8 a0 ∧ H113.1 8 8 a0 ≤ 32 := hI114.v 8 8 a0 ta0
    refine J.run 6 rfl ⟨(hI114.is ta0), (hI114.is ta0)⟩ ?_
    try dsimp only
    refine J.gn fun H123 hH123 => ?_
    have hI124 : cJ F T w H123 := by rw [hH123]; exact cJ.wi hI114 (show 0 ≤ (H113.1 8 8 a0) + (1 : Int) ∧ (H113.1 8 8 a0) + (1 : Int) ≤ 32 from ⟨by omega, by omega⟩) rfl rfl
    have hE125 : cEx T [30033, 30034, 30035, 804, 30036, 30037, 30038, 808] H123 H := by rw [hH123]; exact cEx.wi hE115 (by decide)
    have g127 : H123.1 7 4 F.2.2.1 = H113.1 7 4 F.2.2.1 := by subst hH123; rfl
    have g128 : H123.1 3 1 F.2.1 = H113.1 3 1 F.2.1 := by subst hH123; rfl
    have g129 : H123.1 3 3 F.2.1 = H113.1 3 3 F.2.1 := by subst hH123; rfl
    have g130 : H123.1 8 4 a0 = H113.1 8 4 a0 := by subst hH123; rfl
    have g131 : H123.1 9 1 t = H113.1 9 1 t := by subst hH123; rfl
    have g132 : H123.1 8 8 a0 = (H113.1 8 8 a0) + (1 : Int) := by subst hH123; exact if_pos rfl
    clear hH123
    exact J.retv rfl rfl rfl ⟨_, rfl, T, hI124, hS, hE125, (show ((w.2.1 : Nat) : Int) - 2 * H123.1 7 4 F.2.2.1 - 13 * H123.1 3 1 F.2.1 - H123.1 3 3 F.2.1 ≤ ((w.2.1 : Nat) : Int) - 2 * H.1 7 4 F.2.2.1 - 13 * H.1 3 1 F.2.1 - H.1 3 3 F.2.1 + (0) by omega), (show ((w.2.2 : Nat) : Int) - 18 * H123.1 7 4 F.2.2.1 - 700 * H123.1 3 1 F.2.1 - 6 * H123.1 3 3 F.2.1 ≤ ((w.2.2 : Nat) : Int) - 18 * H.1 7 4 F.2.2.1 - 700 * H.1 3 1 F.2.1 - 6 * H.1 3 3 F.2.1 + 10 * (0) by omega), rfl⟩
end
-- M: X8_punish
section
variable {d : Nat} {F : cG} 
set_option maxRecDepth 20000 in
set_option maxHeartbeats 8000000 in
theorem c_X8_punish_l0 {a0 : Nat} {node : Int} {height : Int} {T0 : cP} {w0 : jW} {H0 : jH} (hI0 : cJ F T0 w0 H0) (ta0 : T0 8 a0) (hp0 : 0 ≤ node ∧ node ≤ 15) : ∀ (m : Nat), (∀ (k : Int) (T : cP) (w : jW) (H : jH) (lv : jL), 96 - k < (m : Int) → (0 ≤ k ∧ k ≤ 96) → (((w.2.1 : Nat) : Int) - 2 * H.1 7 4 F.2.2.1 - 13 * H.1 3 1 F.2.1 - H.1 3 3 F.2.1 ≤ ((w0.2.1 : Nat) : Int) - 2 * H0.1 7 4 F.2.2.1 - 13 * H0.1 3 1 F.2.1 - H0.1 3 3 F.2.1 + (0)) → (((w.2.2 : Nat) : Int) - 18 * H.1 7 4 F.2.2.1 - 700 * H.1 3 1 F.2.1 - 6 * H.1 3 3 F.2.1 ≤ ((w0.2.2 : Nat) : Int) - 18 * H0.1 7 4 F.2.2.1 - 700 * H0.1 3 1 F.2.1 - 6 * H0.1 3 3 F.2.1 + 10 * (0)) → cJ F T w H → (∀ k p, T0 k p → T k p) → cEx T0 [30039, 30035, 811, 809] H H0 → ((lv = [(3, .inl k), (0, .inr (some (8, a0))), (1, .inl node), (2, .inl height)]) ∨ (∃ j4 : Int, lv = [(3, .inl k), (4, .inl j4), (0, .inr (some (8, a0))), (1, .inl node), (2, .inl height)])) → J false d 60 w (9, lv, [], H) (jN fun v w' H' => ∃ T', cJ F T' w' H' ∧ (∀ k p, T0 k p → T' k p) ∧ cEx T0 [30039, 30035, 811, 809] H' H0 ∧ ((w'.2.1 : Nat) : Int) - 2 * H'.1 7 4 F.2.2.1 - 13 * H'.1 3 1 F.2.1 - H'.1 3 3 F.2.1 ≤ ((w0.2.1 : Nat) : Int) - 2 * H0.1 7 4 F.2.2.1 - 13 * H0.1 3 1 F.2.1 - H0.1 3 3 F.2.1 + (0) ∧ ((w'.2.2 : Nat) : Int) - 18 * H'.1 7 4 F.2.2.1 - 700 * H'.1 3 1 F.2.1 - 6 * H'.1 3 3 F.2.1 ≤ ((w0.2.2 : Nat) : Int) - 18 * H0.1 7 4 F.2.2.1 - 700 * H0.1 3 1 F.2.1 - 6 * H0.1 3 3 F.2.1 + 10 * (0) ∧ v = none)) := by
  intro m
  induction m with
  | zero =>
    skip
    · intro k T w H lv hm hi0 hi1 hi2 hI hS hE hlv
      exfalso
      omega
  | succ m ih =>
    skip
    · intro k T w H lv hm hi0 hi1 hi2 hI hS hE hlv
      rcases hlv with rfl | ⟨j4, rfl⟩
      · skip
        have f1 : 0 ≤ H.1 8 4 a0 ∧ H.1 8 4 a0 ≤ 96 := hI.v 8 4 a0 (hS _ _ ta0)
        refine J.run 3 rfl (hI.is (hS _ _ ta0)) ?_
        try dsimp only
        refine J.icmp rfl rfl rfl ⟨(show -2147483648 ≤ k ∧ k ≤ 2147483647 from ⟨by omega, by omega⟩), (show -2147483648 ≤ H.1 8 4 a0 ∧ H.1 8 4 a0 ≤ 2147483647 from ⟨by omega, by omega⟩)⟩ (fun hc => ?_) (fun hc => ?_)
        · have c2 : H.1 8 4 a0 ≤ k := hc
          clear hc
          have f3 : -2147483648 ≤ jshl ((1 : Int)) (node) ∧ jshl ((1 : Int)) (node) ≤ 2147483647 := jI32 _
          have f4 : -2147483648 ≤ jor (H.1 8 9 a0) (jshl ((1 : Int)) (node)) ∧ jor (H.1 8 9 a0) (jshl ((1 : Int)) (node)) ≤ 2147483647 := jI32 _
          refine J.run 8 rfl ⟨(hI.is (hS _ _ ta0)), (hI.is (hS _ _ ta0))⟩ ?_
          try dsimp only
          refine J.gn fun H5 hH5 => ?_
          have hI6 : cJ F T w H5 := by rw [hH5]; exact cJ.wi hI trivial rfl rfl
          have hE7 : cEx T0 [30039, 30035, 811, 809] H5 H0 := by rw [hH5]; exact cEx.wi hE (by decide)
          have g8 : H5.1 7 4 F.2.2.1 = H.1 7 4 F.2.2.1 := by subst hH5; rfl
          have g9 : H5.1 3 1 F.2.1 = H.1 3 1 F.2.1 := by subst hH5; rfl
          have g10 : H5.1 3 3 F.2.1 = H.1 3 3 F.2.1 := by subst hH5; rfl
          have g11 : H5.1 8 4 a0 = H.1 8 4 a0 := by subst hH5; rfl
          have g12 : H5.1 8 9 a0 = jor (H.1 8 9 a0) (jshl ((1 : Int)) (node)) := by subst hH5; exact if_pos rfl
          clear hH5
          exact J.retv rfl rfl rfl ⟨_, rfl, T, hI6, hS, hE7, (show ((w.2.1 : Nat) : Int) - 2 * H5.1 7 4 F.2.2.1 - 13 * H5.1 3 1 F.2.1 - H5.1 3 3 F.2.1 ≤ ((w0.2.1 : Nat) : Int) - 2 * H0.1 7 4 F.2.2.1 - 13 * H0.1 3 1 F.2.1 - H0.1 3 3 F.2.1 + (0) by omega), (show ((w.2.2 : Nat) : Int) - 18 * H5.1 7 4 F.2.2.1 - 700 * H5.1 3 1 F.2.1 - 6 * H5.1 3 3 F.2.1 ≤ ((w0.2.2 : Nat) : Int) - 18 * H0.1 7 4 F.2.2.1 - 700 * H0.1 3 1 F.2.1 - 6 * H0.1 3 3 F.2.1 + 10 * (0) by omega), rfl⟩
        · have c13 : ¬ (H.1 8 4 a0 ≤ k) := hc
          clear hc
          have f14 : 0 ≤ H.2.2.1 34 a0 (k) ∧ H.2.2.1 34 a0 (k) ≤ 15 := hI.i 34 a0 (k) (hI.r 8 2 34 a0 rfl (hS _ _ ta0))
          refine J.run 5 rfl ⟨⟨(hI.is (hS _ _ ta0)), hI.is (hI.r 8 2 34 a0 rfl (hS _ _ ta0))⟩, (show w.1 34 a0 ∧ 0 ≤ k ∧ k < 96 from ⟨hI.is (hI.r 8 2 34 a0 rfl (hS _ _ ta0)), by omega, by omega⟩)⟩ ?_
          try dsimp only
          refine J.icmp rfl rfl rfl ⟨(show -2147483648 ≤ H.2.2.1 34 a0 (k) ∧ H.2.2.1 34 a0 (k) ≤ 2147483647 from ⟨by omega, by omega⟩), (show -2147483648 ≤ node ∧ node ≤ 2147483647 from ⟨by omega, by omega⟩)⟩ (fun hc => ?_) (fun hc => ?_)
          · have c15 : ¬ (H.2.2.1 34 a0 (k) = node) := hc
            clear hc
            refine J.run0 2 rfl ?_
            try dsimp only
            exact ih (k + 1) T w H _ (show 96 - (k + 1) < _ by omega) (show 0 ≤ (k + 1) ∧ (k + 1) ≤ 96 from ⟨by omega, by omega⟩) (show ((w.2.1 : Nat) : Int) - 2 * H.1 7 4 F.2.2.1 - 13 * H.1 3 1 F.2.1 - H.1 3 3 F.2.1 ≤ ((w0.2.1 : Nat) : Int) - 2 * H0.1 7 4 F.2.2.1 - 13 * H0.1 3 1 F.2.1 - H0.1 3 3 F.2.1 + (0) from by omega) (show ((w.2.2 : Nat) : Int) - 18 * H.1 7 4 F.2.2.1 - 700 * H.1 3 1 F.2.1 - 6 * H.1 3 3 F.2.1 ≤ ((w0.2.2 : Nat) : Int) - 18 * H0.1 7 4 F.2.2.1 - 700 * H0.1 3 1 F.2.1 - 6 * H0.1 3 3 F.2.1 + 10 * (0) from by omega) hI hS hE  (Or.inl rfl)
          · have c16 : ¬ (¬ (H.2.2.1 34 a0 (k) = node)) := hc
            clear hc
            refine J.run 5 rfl ⟨⟨(hI.is (hS _ _ ta0)), hI.is (hI.r 8 3 35 a0 rfl (hS _ _ ta0))⟩, (show w.1 35 a0 ∧ 0 ≤ k ∧ k < 96 from ⟨hI.is (hI.r 8 3 35 a0 rfl (hS _ _ ta0)), by omega, by omega⟩)⟩ ?_
            try dsimp only
            refine J.idivN rfl rfl (by rw [jn_of (by omega)]; omega) fun x17 => ?_
            refine J.run 9 rfl ⟨⟨(hI.is (hS _ _ ta0)), hI.is (hI.r 8 3 35 a0 rfl (hS _ _ ta0))⟩, (show w.1 35 a0 ∧ 0 ≤ k ∧ k < 96 from ⟨hI.is (hI.r 8 3 35 a0 rfl (hS _ _ ta0)), by omega, by omega⟩), (show w.1 35 a0 ∧ 0 ≤ k ∧ k < 96 from ⟨hI.is (hI.r 8 3 35 a0 rfl (hS _ _ ta0)), by omega, by omega⟩)⟩ ?_
            try dsimp only
            refine J.gn fun H18 hH18 => ?_
            have hI19 : cJ F T w H18 := by rw [hH18]; exact cI.wRj hI (hI.r 8 3 35 a0 rfl (hS _ _ ta0)) trivial
            have hE20 : cEx T0 [30039, 30035, 811, 809] H18 H0 := by rw [hH18]; exact cEx.wR hE (by decide)
            have g21 : H18.1 7 4 F.2.2.1 = H.1 7 4 F.2.2.1 := by subst hH18; rfl
            have g22 : H18.1 3 1 F.2.1 = H.1 3 1 F.2.1 := by subst hH18; rfl
            have g23 : H18.1 3 3 F.2.1 = H.1 3 3 F.2.1 := by subst hH18; rfl
            have g24 : H18.1 8 4 a0 = H.1 8 4 a0 := by subst hH18; rfl
            clear hH18
            refine J.run 6 rfl ⟨(hI19.is (hS _ _ ta0)), (hI19.is (hS _ _ ta0))⟩ ?_
            try dsimp only
            refine J.gn fun H25 hH25 => ?_
            have hI26 : cJ F T w H25 := by rw [hH25]; exact cJ.wi hI19 trivial rfl rfl
            have hE27 : cEx T0 [30039, 30035, 811, 809] H25 H0 := by rw [hH25]; exact cEx.wi hE20 (by decide)
            have g28 : H25.1 7 4 F.2.2.1 = H18.1 7 4 F.2.2.1 := by subst hH25; rfl
            have g29 : H25.1 3 1 F.2.1 = H18.1 3 1 F.2.1 := by subst hH25; rfl
            have g30 : H25.1 3 3 F.2.1 = H18.1 3 3 F.2.1 := by subst hH25; rfl
            have g31 : H25.1 8 4 a0 = H18.1 8 4 a0 := by subst hH25; rfl
            have g32 : H25.1 8 11 a0 = (H18.1 8 11 a0) + x17 := by subst hH25; exact if_pos rfl
            clear hH25
            refine J.run0 2 rfl ?_
            try dsimp only
            exact ih (k + 1) T w H25 _ (show 96 - (k + 1) < _ by omega) (show 0 ≤ (k + 1) ∧ (k + 1) ≤ 96 from ⟨by omega, by omega⟩) (show ((w.2.1 : Nat) : Int) - 2 * H25.1 7 4 F.2.2.1 - 13 * H25.1 3 1 F.2.1 - H25.1 3 3 F.2.1 ≤ ((w0.2.1 : Nat) : Int) - 2 * H0.1 7 4 F.2.2.1 - 13 * H0.1 3 1 F.2.1 - H0.1 3 3 F.2.1 + (0) from by omega) (show ((w.2.2 : Nat) : Int) - 18 * H25.1 7 4 F.2.2.1 - 700 * H25.1 3 1 F.2.1 - 6 * H25.1 3 3 F.2.1 ≤ ((w0.2.2 : Nat) : Int) - 18 * H0.1 7 4 F.2.2.1 - 700 * H0.1 3 1 F.2.1 - 6 * H0.1 3 3 F.2.1 + 10 * (0) from by omega) hI26 hS hE27  (Or.inr (⟨_, rfl⟩))
      · skip
        have f33 : 0 ≤ H.1 8 4 a0 ∧ H.1 8 4 a0 ≤ 96 := hI.v 8 4 a0 (hS _ _ ta0)
        refine J.run 3 rfl (hI.is (hS _ _ ta0)) ?_
        try dsimp only
        refine J.icmp rfl rfl rfl ⟨(show -2147483648 ≤ k ∧ k ≤ 2147483647 from ⟨by omega, by omega⟩), (show -2147483648 ≤ H.1 8 4 a0 ∧ H.1 8 4 a0 ≤ 2147483647 from ⟨by omega, by omega⟩)⟩ (fun hc => ?_) (fun hc => ?_)
        · have c34 : H.1 8 4 a0 ≤ k := hc
          clear hc
          have f35 : -2147483648 ≤ jshl ((1 : Int)) (node) ∧ jshl ((1 : Int)) (node) ≤ 2147483647 := jI32 _
          have f36 : -2147483648 ≤ jor (H.1 8 9 a0) (jshl ((1 : Int)) (node)) ∧ jor (H.1 8 9 a0) (jshl ((1 : Int)) (node)) ≤ 2147483647 := jI32 _
          refine J.run 8 rfl ⟨(hI.is (hS _ _ ta0)), (hI.is (hS _ _ ta0))⟩ ?_
          try dsimp only
          refine J.gn fun H37 hH37 => ?_
          have hI38 : cJ F T w H37 := by rw [hH37]; exact cJ.wi hI trivial rfl rfl
          have hE39 : cEx T0 [30039, 30035, 811, 809] H37 H0 := by rw [hH37]; exact cEx.wi hE (by decide)
          have g40 : H37.1 7 4 F.2.2.1 = H.1 7 4 F.2.2.1 := by subst hH37; rfl
          have g41 : H37.1 3 1 F.2.1 = H.1 3 1 F.2.1 := by subst hH37; rfl
          have g42 : H37.1 3 3 F.2.1 = H.1 3 3 F.2.1 := by subst hH37; rfl
          have g43 : H37.1 8 4 a0 = H.1 8 4 a0 := by subst hH37; rfl
          have g44 : H37.1 8 9 a0 = jor (H.1 8 9 a0) (jshl ((1 : Int)) (node)) := by subst hH37; exact if_pos rfl
          clear hH37
          exact J.retv rfl rfl rfl ⟨_, rfl, T, hI38, hS, hE39, (show ((w.2.1 : Nat) : Int) - 2 * H37.1 7 4 F.2.2.1 - 13 * H37.1 3 1 F.2.1 - H37.1 3 3 F.2.1 ≤ ((w0.2.1 : Nat) : Int) - 2 * H0.1 7 4 F.2.2.1 - 13 * H0.1 3 1 F.2.1 - H0.1 3 3 F.2.1 + (0) by omega), (show ((w.2.2 : Nat) : Int) - 18 * H37.1 7 4 F.2.2.1 - 700 * H37.1 3 1 F.2.1 - 6 * H37.1 3 3 F.2.1 ≤ ((w0.2.2 : Nat) : Int) - 18 * H0.1 7 4 F.2.2.1 - 700 * H0.1 3 1 F.2.1 - 6 * H0.1 3 3 F.2.1 + 10 * (0) by omega), rfl⟩
        · have c45 : ¬ (H.1 8 4 a0 ≤ k) := hc
          clear hc
          have f46 : 0 ≤ H.2.2.1 34 a0 (k) ∧ H.2.2.1 34 a0 (k) ≤ 15 := hI.i 34 a0 (k) (hI.r 8 2 34 a0 rfl (hS _ _ ta0))
          refine J.run 5 rfl ⟨⟨(hI.is (hS _ _ ta0)), hI.is (hI.r 8 2 34 a0 rfl (hS _ _ ta0))⟩, (show w.1 34 a0 ∧ 0 ≤ k ∧ k < 96 from ⟨hI.is (hI.r 8 2 34 a0 rfl (hS _ _ ta0)), by omega, by omega⟩)⟩ ?_
          try dsimp only
          refine J.icmp rfl rfl rfl ⟨(show -2147483648 ≤ H.2.2.1 34 a0 (k) ∧ H.2.2.1 34 a0 (k) ≤ 2147483647 from ⟨by omega, by omega⟩), (show -2147483648 ≤ node ∧ node ≤ 2147483647 from ⟨by omega, by omega⟩)⟩ (fun hc => ?_) (fun hc => ?_)
          · have c47 : ¬ (H.2.2.1 34 a0 (k) = node) := hc
            clear hc
            refine J.run0 2 rfl ?_
            try dsimp only
            exact ih (k + 1) T w H _ (show 96 - (k + 1) < _ by omega) (show 0 ≤ (k + 1) ∧ (k + 1) ≤ 96 from ⟨by omega, by omega⟩) (show ((w.2.1 : Nat) : Int) - 2 * H.1 7 4 F.2.2.1 - 13 * H.1 3 1 F.2.1 - H.1 3 3 F.2.1 ≤ ((w0.2.1 : Nat) : Int) - 2 * H0.1 7 4 F.2.2.1 - 13 * H0.1 3 1 F.2.1 - H0.1 3 3 F.2.1 + (0) from by omega) (show ((w.2.2 : Nat) : Int) - 18 * H.1 7 4 F.2.2.1 - 700 * H.1 3 1 F.2.1 - 6 * H.1 3 3 F.2.1 ≤ ((w0.2.2 : Nat) : Int) - 18 * H0.1 7 4 F.2.2.1 - 700 * H0.1 3 1 F.2.1 - 6 * H0.1 3 3 F.2.1 + 10 * (0) from by omega) hI hS hE  (Or.inr (⟨_, rfl⟩))
          · have c48 : ¬ (¬ (H.2.2.1 34 a0 (k) = node)) := hc
            clear hc
            refine J.run 5 rfl ⟨⟨(hI.is (hS _ _ ta0)), hI.is (hI.r 8 3 35 a0 rfl (hS _ _ ta0))⟩, (show w.1 35 a0 ∧ 0 ≤ k ∧ k < 96 from ⟨hI.is (hI.r 8 3 35 a0 rfl (hS _ _ ta0)), by omega, by omega⟩)⟩ ?_
            try dsimp only
            refine J.idivN rfl rfl (by rw [jn_of (by omega)]; omega) fun x49 => ?_
            refine J.run 9 rfl ⟨⟨(hI.is (hS _ _ ta0)), hI.is (hI.r 8 3 35 a0 rfl (hS _ _ ta0))⟩, (show w.1 35 a0 ∧ 0 ≤ k ∧ k < 96 from ⟨hI.is (hI.r 8 3 35 a0 rfl (hS _ _ ta0)), by omega, by omega⟩), (show w.1 35 a0 ∧ 0 ≤ k ∧ k < 96 from ⟨hI.is (hI.r 8 3 35 a0 rfl (hS _ _ ta0)), by omega, by omega⟩)⟩ ?_
            try dsimp only
            refine J.gn fun H50 hH50 => ?_
            have hI51 : cJ F T w H50 := by rw [hH50]; exact cI.wRj hI (hI.r 8 3 35 a0 rfl (hS _ _ ta0)) trivial
            have hE52 : cEx T0 [30039, 30035, 811, 809] H50 H0 := by rw [hH50]; exact cEx.wR hE (by decide)
            have g53 : H50.1 7 4 F.2.2.1 = H.1 7 4 F.2.2.1 := by subst hH50; rfl
            have g54 : H50.1 3 1 F.2.1 = H.1 3 1 F.2.1 := by subst hH50; rfl
            have g55 : H50.1 3 3 F.2.1 = H.1 3 3 F.2.1 := by subst hH50; rfl
            have g56 : H50.1 8 4 a0 = H.1 8 4 a0 := by subst hH50; rfl
            clear hH50
            refine J.run 6 rfl ⟨(hI51.is (hS _ _ ta0)), (hI51.is (hS _ _ ta0))⟩ ?_
            try dsimp only
            refine J.gn fun H57 hH57 => ?_
            have hI58 : cJ F T w H57 := by rw [hH57]; exact cJ.wi hI51 trivial rfl rfl
            have hE59 : cEx T0 [30039, 30035, 811, 809] H57 H0 := by rw [hH57]; exact cEx.wi hE52 (by decide)
            have g60 : H57.1 7 4 F.2.2.1 = H50.1 7 4 F.2.2.1 := by subst hH57; rfl
            have g61 : H57.1 3 1 F.2.1 = H50.1 3 1 F.2.1 := by subst hH57; rfl
            have g62 : H57.1 3 3 F.2.1 = H50.1 3 3 F.2.1 := by subst hH57; rfl
            have g63 : H57.1 8 4 a0 = H50.1 8 4 a0 := by subst hH57; rfl
            have g64 : H57.1 8 11 a0 = (H50.1 8 11 a0) + x49 := by subst hH57; exact if_pos rfl
            clear hH57
            refine J.run0 2 rfl ?_
            try dsimp only
            exact ih (k + 1) T w H57 _ (show 96 - (k + 1) < _ by omega) (show 0 ≤ (k + 1) ∧ (k + 1) ≤ 96 from ⟨by omega, by omega⟩) (show ((w.2.1 : Nat) : Int) - 2 * H57.1 7 4 F.2.2.1 - 13 * H57.1 3 1 F.2.1 - H57.1 3 3 F.2.1 ≤ ((w0.2.1 : Nat) : Int) - 2 * H0.1 7 4 F.2.2.1 - 13 * H0.1 3 1 F.2.1 - H0.1 3 3 F.2.1 + (0) from by omega) (show ((w.2.2 : Nat) : Int) - 18 * H57.1 7 4 F.2.2.1 - 700 * H57.1 3 1 F.2.1 - 6 * H57.1 3 3 F.2.1 ≤ ((w0.2.2 : Nat) : Int) - 18 * H0.1 7 4 F.2.2.1 - 700 * H0.1 3 1 F.2.1 - 6 * H0.1 3 3 F.2.1 + 10 * (0) from by omega) hI58 hS hE59  (Or.inr (⟨_, rfl⟩))
set_option maxRecDepth 20000 in
set_option maxHeartbeats 8000000 in
theorem c_X8_punish {a0 : Nat} {node : Int} {height : Int} {T : cP} {w : jW} {H : jH} (hI : cJ F T w H) (ta0 : T 8 a0) (hp0 : 0 ≤ node ∧ node ≤ 15) : J false d 60 w (0, jargs 0 [.inr (some (8, a0)), .inl node, .inl height], [], H) (jN fun v w' H' => ∃ T', cJ F T' w' H' ∧ (∀ k p, T k p → T' k p) ∧ cEx T [30039, 30035, 811, 809] H' H ∧ ((w'.2.1 : Nat) : Int) - 2 * H'.1 7 4 F.2.2.1 - 13 * H'.1 3 1 F.2.1 - H'.1 3 3 F.2.1 ≤ ((w.2.1 : Nat) : Int) - 2 * H.1 7 4 F.2.2.1 - 13 * H.1 3 1 F.2.1 - H.1 3 3 F.2.1 + (0) ∧ ((w'.2.2 : Nat) : Int) - 18 * H'.1 7 4 F.2.2.1 - 700 * H'.1 3 1 F.2.1 - 6 * H'.1 3 3 F.2.1 ≤ ((w.2.2 : Nat) : Int) - 18 * H.1 7 4 F.2.2.1 - 700 * H.1 3 1 F.2.1 - 6 * H.1 3 3 F.2.1 + 10 * (0) ∧ v = none) := by
  have hE : cEx T [30039, 30035, 811, 809] H H := cEx.refl
  have hS : ∀ k p, T k p → T k p := fun _ _ z => z
  refine J.run 5 rfl ⟨⟨(hI.is ta0), hI.is (hI.r 8 10 39 a0 rfl ta0)⟩, (show w.1 39 a0 ∧ 0 ≤ node ∧ node < 16 from ⟨hI.is (hI.r 8 10 39 a0 rfl ta0), by omega, by omega⟩)⟩ ?_
  try dsimp only
  refine J.gn fun H65 hH65 => ?_
  have hI66 : cJ F T w H65 := by rw [hH65]; exact cI.wRj hI (hI.r 8 10 39 a0 rfl ta0) trivial
  have hE67 : cEx T [30039, 30035, 811, 809] H65 H := by rw [hH65]; exact cEx.wR hE (by decide)
  have g68 : H65.1 7 4 F.2.2.1 = H.1 7 4 F.2.2.1 := by subst hH65; rfl
  have g69 : H65.1 3 1 F.2.1 = H.1 3 1 F.2.1 := by subst hH65; rfl
  have g70 : H65.1 3 3 F.2.1 = H.1 3 3 F.2.1 := by subst hH65; rfl
  clear hH65
  refine J.run0 2 rfl ?_
  try dsimp only
  exact (c_X8_punish_l0 (a0 := a0) (node := node) (height := height) hI ta0 hp0 ((96 - ((0 : Int)) : Int).toNat + 1)) ((0 : Int)) T w H65 _ (show 96 - ((0 : Int)) < _ by omega) (show 0 ≤ ((0 : Int)) ∧ ((0 : Int)) ≤ 96 from ⟨by omega, by omega⟩) (show ((w.2.1 : Nat) : Int) - 2 * H65.1 7 4 F.2.2.1 - 13 * H65.1 3 1 F.2.1 - H65.1 3 3 F.2.1 ≤ ((w.2.1 : Nat) : Int) - 2 * H.1 7 4 F.2.2.1 - 13 * H.1 3 1 F.2.1 - H.1 3 3 F.2.1 + (0) from by omega) (show ((w.2.2 : Nat) : Int) - 18 * H65.1 7 4 F.2.2.1 - 700 * H65.1 3 1 F.2.1 - 6 * H65.1 3 3 F.2.1 ≤ ((w.2.2 : Nat) : Int) - 18 * H.1 7 4 F.2.2.1 - 700 * H.1 3 1 F.2.1 - 6 * H.1 3 3 F.2.1 + 10 * (0) from by omega) hI66 hS hE67  (Or.inl rfl)
end
