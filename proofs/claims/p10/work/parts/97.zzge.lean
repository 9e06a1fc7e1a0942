-- M: X6_fail
section
variable {d : Nat} {F : cG} 
set_option maxRecDepth 20000 in
set_option maxHeartbeats 8000000 in
theorem c_X6_fail {a0 : Nat} {T : cP} {w : jW} {H : jH} (hI : cJ F T w H) (ta0 : T 6 a0)  : J false (d + 1) 43 w (0, jargs 0 [.inr (some (6, a0))], [], H) (jN fun v w' H' => ∃ T', cJ F T' w' H' ∧ (∀ k p, T k p → T' k p) ∧ cEx T [611, 612, 616, 30026, 30027] H' H ∧ ((w'.2.1 : Nat) : Int) - 2 * H'.1 7 4 F.2.2.1 - 13 * H'.1 3 1 F.2.1 - H'.1 3 3 F.2.1 ≤ ((w.2.1 : Nat) : Int) - 2 * H.1 7 4 F.2.2.1 - 13 * H.1 3 1 F.2.1 - H.1 3 3 F.2.1 + (0) ∧ ((w'.2.2 : Nat) : Int) - 18 * H'.1 7 4 F.2.2.1 - 700 * H'.1 3 1 F.2.1 - 6 * H'.1 3 3 F.2.1 ≤ ((w.2.2 : Nat) : Int) - 18 * H.1 7 4 F.2.2.1 - 700 * H.1 3 1 F.2.1 - 6 * H.1 3 3 F.2.1 + 10 * (0) ∧ (H'.1 6 11 a0 = 1) ∧ v = none) := by
  have hE : cEx T [611, 612, 616, 30026, 30027] H H := cEx.refl
  have hS : ∀ k p, T k p → T k p := fun _ _ z => z
  refine J.run 3 rfl ⟨(hI.is ta0), (show (1 : Int) = 0 ∨ (1 : Int) = 1 by omega)⟩ ?_
  try dsimp only
  refine J.gn fun H1 hH1 => ?_
  have hI2 : cJ F T w H1 := by rw [hH1]; exact cJ.wi hI (show 0 ≤ (1 : Int) ∧ (1 : Int) ≤ 1 from ⟨by omega, by omega⟩) rfl rfl
  have hE3 : cEx T [611, 612, 616, 30026, 30027] H1 H := by rw [hH1]; exact cEx.wi hE (by decide)
  have g5 : H1.1 7 4 F.2.2.1 = H.1 7 4 F.2.2.1 := by subst hH1; rfl
  have g6 : H1.1 3 1 F.2.1 = H.1 3 1 F.2.1 := by subst hH1; rfl
  have g7 : H1.1 3 3 F.2.1 = H.1 3 3 F.2.1 := by subst hH1; rfl
  have g8 : H1.1 6 11 a0 = (1 : Int) := by subst hH1; exact if_pos rfl
  clear hH1
  refine J.run 3 rfl (hI2.is ta0) ?_
  try dsimp only
  refine J.gn fun H9 hH9 => ?_
  have hI10 : cJ F T w H9 := by rw [hH9]; exact cJ.wi hI2 trivial rfl rfl
  have hE11 : cEx T [611, 612, 616, 30026, 30027] H9 H := by rw [hH9]; exact cEx.wi hE3 (by decide)
  have g12 : H9.1 7 4 F.2.2.1 = H1.1 7 4 F.2.2.1 := by subst hH9; rfl
  have g13 : H9.1 3 1 F.2.1 = H1.1 3 1 F.2.1 := by subst hH9; rfl
  have g14 : H9.1 3 3 F.2.1 = H1.1 3 3 F.2.1 := by subst hH9; rfl
  have g15 : H9.1 6 11 a0 = H1.1 6 11 a0 := by subst hH9; rfl
  have g16 : H9.1 6 12 a0 = (13 : Int) := by subst hH9; exact if_pos rfl
  clear hH9
  refine J.run 3 rfl (hI10.is ta0) ?_
  try dsimp only
  refine J.gn fun H17 hH17 => ?_
  have hI18 : cJ F T w H17 := by rw [hH17]; exact cJ.wi hI10 trivial rfl rfl
  have hE19 : cEx T [611, 612, 616, 30026, 30027] H17 H := by rw [hH17]; exact cEx.wi hE11 (by decide)
  have g20 : H17.1 7 4 F.2.2.1 = H9.1 7 4 F.2.2.1 := by subst hH17; rfl
  have g21 : H17.1 3 1 F.2.1 = H9.1 3 1 F.2.1 := by subst hH17; rfl
  have g22 : H17.1 3 3 F.2.1 = H9.1 3 3 F.2.1 := by subst hH17; rfl
  have g23 : H17.1 6 11 a0 = H9.1 6 11 a0 := by subst hH17; rfl
  have g24 : H17.1 6 12 a0 = H9.1 6 12 a0 := by subst hH17; rfl
  have g25 : H17.1 6 16 a0 = (0 : Int) := by subst hH17; exact if_pos rfl
  clear hH17
  refine J.run 3 rfl ⟨(hI18.is ta0), hI18.is (hI18.r 6 14 26 a0 rfl ta0)⟩ ?_
  try dsimp only
  refine J.ins5 rfl rfl rfl (Or.inl rfl) rfl rfl (by decide) rfl rfl (jstP.of rfl) (c_J7_fill_53178_26 (row := a0) (val := (0 : Int)) hI18 (hI18.r 6 14 26 a0 rfl ta0) (show -2147483648 ≤ (0 : Int) ∧ (0 : Int) ≤ 2147483647 from ⟨by omega, by omega⟩)) ?_
  rintro v w27 H26 ⟨T28, hI29, shS30, ehE31, hr32, hr32s, hv⟩
  have hr32' : ((w27.2.1 : Nat) : Int) - 2 * H26.1 7 4 F.2.2.1 - 13 * H26.1 3 1 F.2.1 - H26.1 3 3 F.2.1 ≤ ((w.2.1 : Nat) : Int) - 2 * H17.1 7 4 F.2.2.1 - 13 * H17.1 3 1 F.2.1 - H17.1 3 3 F.2.1 + (0) := hr32
  have hr32s' : ((w27.2.2 : Nat) : Int) - 18 * H26.1 7 4 F.2.2.1 - 700 * H26.1 3 1 F.2.1 - 6 * H26.1 3 3 F.2.1 ≤ ((w.2.2 : Nat) : Int) - 18 * H17.1 7 4 F.2.2.1 - 700 * H17.1 3 1 F.2.1 - 6 * H17.1 3 3 F.2.1 + 10 * (0) := hr32s
  have hE31 : cEx T [611, 612, 616, 30026, 30027] H26 H := cEx.trans ehE31 hE19 hS (by decide)
  have hS30 : ∀ k p, T k p → T28 k p := fun k p z => shS30 k p (hS k p z)
  have g33 : H26.1 7 4 F.2.2.1 = H17.1 7 4 F.2.2.1 := (ehE31.1 7 4 F.2.2.1 hI18.top.2.2.1).1 (by decide)
  have g34 : H26.1 3 1 F.2.1 = H17.1 3 1 F.2.1 := (ehE31.1 3 1 F.2.1 hI18.top.2.1).1 (by decide)
  have g35 : H26.1 3 3 F.2.1 = H17.1 3 3 F.2.1 := (ehE31.1 3 3 F.2.1 hI18.top.2.1).1 (by decide)
  have g36 : H26.1 6 11 a0 = H17.1 6 11 a0 := (ehE31.1 6 11 a0 ta0).1 (by decide)
  have g37 : H26.1 6 12 a0 = H17.1 6 12 a0 := (ehE31.1 6 12 a0 ta0).1 (by decide)
  have g38 : H26.1 6 16 a0 = H17.1 6 16 a0 := (ehE31.1 6 16 a0 ta0).1 (by decide)
  have t39 : T28 6 a0 := shS30 _ _ ta0
  obtain rfl := hv
  try dsimp only [Option.toList, List.append, List.cons_append, List.nil_append]
  refine J.run 3 rfl ⟨(hI29.is t39), hI29.is (hI29.r 6 15 27 a0 rfl t39)⟩ ?_
  try dsimp only
  refine J.ins5 rfl rfl rfl (Or.inl rfl) rfl rfl (by decide) rfl rfl (jstP.of rfl) (c_J7_fill_53178_27 (row := a0) (val := (0 : Int)) hI29 (hI29.r 6 15 27 a0 rfl t39) (show -2147483648 ≤ (0 : Int) ∧ (0 : Int) ≤ 2147483647 from ⟨by omega, by omega⟩)) ?_
  rintro v w41 H40 ⟨T42, hI43, shS44, ehE45, hr46, hr46s, hv⟩
  have hr46' : ((w41.2.1 : Nat) : Int) - 2 * H40.1 7 4 F.2.2.1 - 13 * H40.1 3 1 F.2.1 - H40.1 3 3 F.2.1 ≤ ((w27.2.1 : Nat) : Int) - 2 * H26.1 7 4 F.2.2.1 - 13 * H26.1 3 1 F.2.1 - H26.1 3 3 F.2.1 + (0) := hr46
  have hr46s' : ((w41.2.2 : Nat) : Int) - 18 * H40.1 7 4 F.2.2.1 - 700 * H40.1 3 1 F.2.1 - 6 * H40.1 3 3 F.2.1 ≤ ((w27.2.2 : Nat) : Int) - 18 * H26.1 7 4 F.2.2.1 - 700 * H26.1 3 1 F.2.1 - 6 * H26.1 3 3 F.2.1 + 10 * (0) := hr46s
  have hE45 : cEx T [611, 612, 616, 30026, 30027] H40 H := cEx.trans ehE45 hE31 hS30 (by decide)
  have hS44 : ∀ k p, T k p → T42 k p := fun k p z => shS44 k p (hS30 k p z)
  have g47 : H40.1 7 4 F.2.2.1 = H26.1 7 4 F.2.2.1 := (ehE45.1 7 4 F.2.2.1 hI29.top.2.2.1).1 (by decide)
  have g48 : H40.1 3 1 F.2.1 = H26.1 3 1 F.2.1 := (ehE45.1 3 1 F.2.1 hI29.top.2.1).1 (by decide)
  have g49 : H40.1 3 3 F.2.1 = H26.1 3 3 F.2.1 := (ehE45.1 3 3 F.2.1 hI29.top.2.1).1 (by decide)
  have g50 : H40.1 6 11 a0 = H26.1 6 11 a0 := (ehE45.1 6 11 a0 t39).1 (by decide)
  have g51 : H40.1 6 12 a0 = H26.1 6 12 a0 := (ehE45.1 6 12 a0 t39).1 (by decide)
  have g52 : H40.1 6 16 a0 = H26.1 6 16 a0 := (ehE45.1 6 16 a0 t39).1 (by decide)
  have t53 : T42 6 a0 := shS44 _ _ t39
  obtain rfl := hv
  try dsimp only [Option.toList, List.append, List.cons_append, List.nil_append]
  exact J.retv rfl rfl rfl ⟨_, rfl, T42, hI43, hS44, hE45, (show ((w41.2.1 : Nat) : Int) - 2 * H40.1 7 4 F.2.2.1 - 13 * H40.1 3 1 F.2.1 - H40.1 3 3 F.2.1 ≤ ((w.2.1 : Nat) : Int) - 2 * H.1 7 4 F.2.2.1 - 13 * H.1 3 1 F.2.1 - H.1 3 3 F.2.1 + (0) by omega), (show ((w41.2.2 : Nat) : Int) - 18 * H40.1 7 4 F.2.2.1 - 700 * H40.1 3 1 F.2.1 - 6 * H40.1 3 3 F.2.1 ≤ ((w.2.2 : Nat) : Int) - 18 * H.1 7 4 F.2.2.1 - 700 * H.1 3 1 F.2.1 - 6 * H.1 3 3 F.2.1 + 10 * (0) by omega), (show H40.1 6 11 a0 = 1 by omega), rfl⟩
end
-- M: X6_restore
section
variable {d : Nat} {F : cG} 
set_option maxRecDepth 20000 in
set_option maxHeartbeats 8000000 in
theorem c_X6_restore {a0 : Nat} {e : Nat} {T : cP} {w : jW} {H : jH} (hI : cJ F T w H) (ta0 : T 6 a0) (ta1 : T 2 e)  : J false d 44 w (0, jargs 0 [.inr (some (6, a0)), .inr (some (2, e))], [], H) (jN fun v w' H' => ∃ T', cJ F T' w' H' ∧ (∀ k p, T k p → T' k p) ∧ cEx T [602, 603, 604, 605, 606, 607, 608, 609] H' H ∧ ((w'.2.1 : Nat) : Int) - 2 * H'.1 7 4 F.2.2.1 - 13 * H'.1 3 1 F.2.1 - H'.1 3 3 F.2.1 ≤ ((w.2.1 : Nat) : Int) - 2 * H.1 7 4 F.2.2.1 - 13 * H.1 3 1 F.2.1 - H.1 3 3 F.2.1 + (0) ∧ ((w'.2.2 : Nat) : Int) - 18 * H'.1 7 4 F.2.2.1 - 700 * H'.1 3 1 F.2.1 - 6 * H'.1 3 3 F.2.1 ≤ ((w.2.2 : Nat) : Int) - 18 * H.1 7 4 F.2.2.1 - 700 * H.1 3 1 F.2.1 - 6 * H.1 3 3 F.2.1 + 10 * (0) ∧ v = none) := by
  have hE : cEx T [602, 603, 604, 605, 606, 607, 608, 609] H H := cEx.refl
  have hS : ∀ k p, T k p → T k p := fun _ _ z => z
  have f1 : 0 ≤ H.1 2 3 e ∧ H.1 2 3 e ≤ 31 := hI.v 2 3 e ta1
  refine J.run 4 rfl ⟨(hI.is ta1), (hI.is ta0)⟩ ?_
  try dsimp only
  refine J.gn fun H2 hH2 => ?_
  have hI3 : cJ F T w H2 := by rw [hH2]; exact cJ.wi hI (show 0 ≤ H.1 2 3 e ∧ H.1 2 3 e ≤ 31 from ⟨by omega, by omega⟩) rfl rfl
  have hE4 : cEx T [602, 603, 604, 605, 606, 607, 608, 609] H2 H := by rw [hH2]; exact cEx.wi hE (by decide)
  have g5 : H2.1 2 3 e = H.1 2 3 e := by subst hH2; rfl
  have g6 : H2.1 7 4 F.2.2.1 = H.1 7 4 F.2.2.1 := by subst hH2; rfl
  have g7 : H2.1 3 1 F.2.1 = H.1 3 1 F.2.1 := by subst hH2; rfl
  have g8 : H2.1 3 3 F.2.1 = H.1 3 3 F.2.1 := by subst hH2; rfl
  have g9 : H2.1 6 2 a0 = H.1 2 3 e := by subst hH2; exact if_pos rfl
  clear hH2
  refine J.run 4 rfl ⟨(hI3.is ta1), (hI3.is ta0)⟩ ?_
  try dsimp only
  refine J.gn fun H10 hH10 => ?_
  have hI11 : cJ F T w H10 := by rw [hH10]; exact cJ.wi hI3 trivial rfl rfl
  have hE12 : cEx T [602, 603, 604, 605, 606, 607, 608, 609] H10 H := by rw [hH10]; exact cEx.wi hE4 (by decide)
  have g13 : H10.1 2 3 e = H2.1 2 3 e := by subst hH10; rfl
  have g14 : H10.1 7 4 F.2.2.1 = H2.1 7 4 F.2.2.1 := by subst hH10; rfl
  have g15 : H10.1 3 1 F.2.1 = H2.1 3 1 F.2.1 := by subst hH10; rfl
  have g16 : H10.1 3 3 F.2.1 = H2.1 3 3 F.2.1 := by subst hH10; rfl
  have g17 : H10.1 6 2 a0 = H2.1 6 2 a0 := by subst hH10; rfl
  have g18 : H10.1 6 3 a0 = H2.1 2 4 e := by subst hH10; exact if_pos rfl
  clear hH10
  refine J.run 4 rfl ⟨(hI11.is ta1), (hI11.is ta0)⟩ ?_
  try dsimp only
  refine J.gn fun H19 hH19 => ?_
  have hI20 : cJ F T w H19 := by rw [hH19]; exact cJ.wi hI11 trivial rfl rfl
  have hE21 : cEx T [602, 603, 604, 605, 606, 607, 608, 609] H19 H := by rw [hH19]; exact cEx.wi hE12 (by decide)
  have g22 : H19.1 2 3 e = H10.1 2 3 e := by subst hH19; rfl
  have g23 : H19.1 7 4 F.2.2.1 = H10.1 7 4 F.2.2.1 := by subst hH19; rfl
  have g24 : H19.1 3 1 F.2.1 = H10.1 3 1 F.2.1 := by subst hH19; rfl
  have g25 : H19.1 3 3 F.2.1 = H10.1 3 3 F.2.1 := by subst hH19; rfl
  have g26 : H19.1 6 2 a0 = H10.1 6 2 a0 := by subst hH19; rfl
  have g27 : H19.1 6 3 a0 = H10.1 6 3 a0 := by subst hH19; rfl
  have g28 : H19.1 6 4 a0 = H10.1 2 5 e := by subst hH19; exact if_pos rfl
  clear hH19
  refine J.run 4 rfl ⟨(hI20.is ta1), (hI20.is ta0)⟩ ?_
  try dsimp only
  refine J.gn fun H29 hH29 => ?_
  have hI30 : cJ F T w H29 := by rw [hH29]; exact cJ.wi hI20 trivial rfl rfl
  have hE31 : cEx T [602, 603, 604, 605, 606, 607, 608, 609] H29 H := by rw [hH29]; exact cEx.wi hE21 (by decide)
  have g32 : H29.1 2 3 e = H19.1 2 3 e := by subst hH29; rfl
  have g33 : H29.1 7 4 F.2.2.1 = H19.1 7 4 F.2.2.1 := by subst hH29; rfl
  have g34 : H29.1 3 1 F.2.1 = H19.1 3 1 F.2.1 := by subst hH29; rfl
  have g35 : H29.1 3 3 F.2.1 = H19.1 3 3 F.2.1 := by subst hH29; rfl
  have g36 : H29.1 6 2 a0 = H19.1 6 2 a0 := by subst hH29; rfl
  have g37 : H29.1 6 3 a0 = H19.1 6 3 a0 := by subst hH29; rfl
  have g38 : H29.1 6 4 a0 = H19.1 6 4 a0 := by subst hH29; rfl
  have g39 : H29.1 6 5 a0 = H19.1 2 6 e := by subst hH29; exact if_pos rfl
  clear hH29
  have f40 : (-2147483648) ≤ H29.1 2 7 e ∧ H29.1 2 7 e ≤ 2147483647 := hI30.v 2 7 e ta1
  refine J.run 4 rfl ⟨(hI30.is ta1), (hI30.is ta0)⟩ ?_
  try dsimp only
  refine J.gn fun H41 hH41 => ?_
  have hI42 : cJ F T w H41 := by rw [hH41]; exact cJ.wi hI30 (show (-2147483648) ≤ H29.1 2 7 e ∧ H29.1 2 7 e ≤ 2147483647 from ⟨by omega, by omega⟩) rfl rfl
  have hE43 : cEx T [602, 603, 604, 605, 606, 607, 608, 609] H41 H := by rw [hH41]; exact cEx.wi hE31 (by decide)
  have g44 : H41.1 2 3 e = H29.1 2 3 e := by subst hH41; rfl
  have g45 : H41.1 7 4 F.2.2.1 = H29.1 7 4 F.2.2.1 := by subst hH41; rfl
  have g46 : H41.1 3 1 F.2.1 = H29.1 3 1 F.2.1 := by subst hH41; rfl
  have g47 : H41.1 3 3 F.2.1 = H29.1 3 3 F.2.1 := by subst hH41; rfl
  have g48 : H41.1 6 2 a0 = H29.1 6 2 a0 := by subst hH41; rfl
  have g49 : H41.1 6 3 a0 = H29.1 6 3 a0 := by subst hH41; rfl
  have g50 : H41.1 6 4 a0 = H29.1 6 4 a0 := by subst hH41; rfl
  have g51 : H41.1 6 5 a0 = H29.1 6 5 a0 := by subst hH41; rfl
  have g52 : H41.1 2 7 e = H29.1 2 7 e := by subst hH41; rfl
  have g53 : H41.1 6 6 a0 = H29.1 2 7 e := by subst hH41; exact if_pos rfl
  clear hH41
  have f54 : (-2147483648) ≤ H41.1 2 8 e ∧ H41.1 2 8 e ≤ 2147483647 := hI42.v 2 8 e ta1
  refine J.run 4 rfl ⟨(hI42.is ta1), (hI42.is ta0)⟩ ?_
  try dsimp only
  refine J.gn fun H55 hH55 => ?_
  have hI56 : cJ F T w H55 := by rw [hH55]; exact cJ.wi hI42 (show (-2147483648) ≤ H41.1 2 8 e ∧ H41.1 2 8 e ≤ 2147483647 from ⟨by omega, by omega⟩) rfl rfl
  have hE57 : cEx T [602, 603, 604, 605, 606, 607, 608, 609] H55 H := by rw [hH55]; exact cEx.wi hE43 (by decide)
  have g58 : H55.1 2 3 e = H41.1 2 3 e := by subst hH55; rfl
  have g59 : H55.1 7 4 F.2.2.1 = H41.1 7 4 F.2.2.1 := by subst hH55; rfl
  have g60 : H55.1 3 1 F.2.1 = H41.1 3 1 F.2.1 := by subst hH55; rfl
  have g61 : H55.1 3 3 F.2.1 = H41.1 3 3 F.2.1 := by subst hH55; rfl
  have g62 : H55.1 6 2 a0 = H41.1 6 2 a0 := by subst hH55; rfl
  have g63 : H55.1 6 3 a0 = H41.1 6 3 a0 := by subst hH55; rfl
  have g64 : H55.1 6 4 a0 = H41.1 6 4 a0 := by subst hH55; rfl
  have g65 : H55.1 6 5 a0 = H41.1 6 5 a0 := by subst hH55; rfl
  have g66 : H55.1 2 7 e = H41.1 2 7 e := by subst hH55; rfl
  have g67 : H55.1 6 6 a0 = H41.1 6 6 a0 := by subst hH55; rfl
  have g68 : H55.1 2 8 e = H41.1 2 8 e := by subst hH55; rfl
  have g69 : H55.1 6 7 a0 = H41.1 2 8 e := by subst hH55; exact if_pos rfl
  clear hH55
  refine J.run 3 rfl ⟨(hI56.is ta0), (show (0 : Int) = 0 ∨ (0 : Int) = 1 by omega)⟩ ?_
  try dsimp only
  refine J.gn fun H70 hH70 => ?_
  have hI71 : cJ F T w H70 := by rw [hH70]; exact cJ.wi hI56 (show 0 ≤ (0 : Int) ∧ (0 : Int) ≤ 1 from ⟨by omega, by omega⟩) rfl rfl
  have hE72 : cEx T [602, 603, 604, 605, 606, 607, 608, 609] H70 H := by rw [hH70]; exact cEx.wi hE57 (by decide)
  have g73 : H70.1 2 3 e = H55.1 2 3 e := by subst hH70; rfl
  have g74 : H70.1 7 4 F.2.2.1 = H55.1 7 4 F.2.2.1 := by subst hH70; rfl
  have g75 : H70.1 3 1 F.2.1 = H55.1 3 1 F.2.1 := by subst hH70; rfl
  have g76 : H70.1 3 3 F.2.1 = H55.1 3 3 F.2.1 := by subst hH70; rfl
  have g77 : H70.1 6 2 a0 = H55.1 6 2 a0 := by subst hH70; rfl
  have g78 : H70.1 6 3 a0 = H55.1 6 3 a0 := by subst hH70; rfl
  have g79 : H70.1 6 4 a0 = H55.1 6 4 a0 := by subst hH70; rfl
  have g80 : H70.1 6 5 a0 = H55.1 6 5 a0 := by subst hH70; rfl
  have g81 : H70.1 2 7 e = H55.1 2 7 e := by subst hH70; rfl
  have g82 : H70.1 6 6 a0 = H55.1 6 6 a0 := by subst hH70; rfl
  have g83 : H70.1 2 8 e = H55.1 2 8 e := by subst hH70; rfl
  have g84 : H70.1 6 7 a0 = H55.1 6 7 a0 := by subst hH70; rfl
  have g85 : H70.1 6 8 a0 = (0 : Int) := by subst hH70; exact if_pos rfl
  clear hH70
  refine J.run 3 rfl ⟨(hI71.is ta0), (show (0 : Int) = 0 ∨ (0 : Int) = 1 by omega)⟩ ?_
  try dsimp only
  refine J.gn fun H86 hH86 => ?_
  have hI87 : cJ F T w H86 := by rw [hH86]; exact cJ.wi hI71 (show 0 ≤ (0 : Int) ∧ (0 : Int) ≤ 1 from ⟨by omega, by omega⟩) rfl rfl
  have hE88 : cEx T [602, 603, 604, 605, 606, 607, 608, 609] H86 H := by rw [hH86]; exact cEx.wi hE72 (by decide)
  have g89 : H86.1 2 3 e = H70.1 2 3 e := by subst hH86; rfl
  have g90 : H86.1 7 4 F.2.2.1 = H70.1 7 4 F.2.2.1 := by subst hH86; rfl
  have g91 : H86.1 3 1 F.2.1 = H70.1 3 1 F.2.1 := by subst hH86; rfl
  have g92 : H86.1 3 3 F.2.1 = H70.1 3 3 F.2.1 := by subst hH86; rfl
  have g93 : H86.1 6 2 a0 = H70.1 6 2 a0 := by subst hH86; rfl
  have g94 : H86.1 6 3 a0 = H70.1 6 3 a0 := by subst hH86; rfl
  have g95 : H86.1 6 4 a0 = H70.1 6 4 a0 := by subst hH86; rfl
  have g96 : H86.1 6 5 a0 = H70.1 6 5 a0 := by subst hH86; rfl
  have g97 : H86.1 2 7 e = H70.1 2 7 e := by subst hH86; rfl
  have g98 : H86.1 6 6 a0 = H70.1 6 6 a0 := by subst hH86; rfl
  have g99 : H86.1 2 8 e = H70.1 2 8 e := by subst hH86; rfl
  have g100 : H86.1 6 7 a0 = H70.1 6 7 a0 := by subst hH86; rfl
  have g101 : H86.1 6 8 a0 = H70.1 6 8 a0 := by subst hH86; rfl
  have g102 : H86.1 6 9 a0 = (0 : Int) := by subst hH86; exact if_pos rfl
  clear hH86
  exact J.retv rfl rfl rfl ⟨_, rfl, T, hI87, hS, hE88, (show ((w.2.1 : Nat) : Int) - 2 * H86.1 7 4 F.2.2.1 - 13 * H86.1 3 1 F.2.1 - H86.1 3 3 F.2.1 ≤ ((w.2.1 : Nat) : Int) - 2 * H.1 7 4 F.2.2.1 - 13 * H.1 3 1 F.2.1 - H.1 3 3 F.2.1 + (0) by omega), (show ((w.2.2 : Nat) : Int) - 18 * H86.1 7 4 F.2.2.1 - 700 * H86.1 3 1 F.2.1 - 6 * H86.1 3 3 F.2.1 ≤ ((w.2.2 : Nat) : Int) - 18 * H.1 7 4 F.2.2.1 - 700 * H.1 3 1 F.2.1 - 6 * H.1 3 3 F.2.1 + 10 * (0) by omega), rfl⟩
end
