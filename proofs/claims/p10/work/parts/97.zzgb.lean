-- M: X8_perform
section
variable {d : Nat} {F : cG} 
set_option maxRecDepth 20000 in
set_option maxHeartbeats 8000000 in
theorem c_X8_perform {a0 : Nat} {t : Nat} {proposer : Int} {height : Int} {T : cP} {w : jW} {H : jH} (hI : cJ F T w H) (ta0 : T 8 a0) (ta1 : T 9 t) (hp0 : 0 ≤ proposer ∧ proposer ≤ 15) : J false (d + 1) 56 w (0, jargs 0 [.inr (some (8, a0)), .inr (some (9, t)), .inl proposer, .inl height], [], H) (jN fun v w' H' => ∃ T', cJ F T' w' H' ∧ (∀ k p, T k p → T' k p) ∧ cEx T [30032, 30033, 30034, 30035, 30036, 30037, 30038, 30039, 804, 808, 809, 811] H' H ∧ ((w'.2.1 : Nat) : Int) - 2 * H'.1 7 4 F.2.2.1 - 13 * H'.1 3 1 F.2.1 - H'.1 3 3 F.2.1 ≤ ((w.2.1 : Nat) : Int) - 2 * H.1 7 4 F.2.2.1 - 13 * H.1 3 1 F.2.1 - H.1 3 3 F.2.1 + (0) ∧ ((w'.2.2 : Nat) : Int) - 18 * H'.1 7 4 F.2.2.1 - 700 * H'.1 3 1 F.2.1 - 6 * H'.1 3 3 F.2.1 ≤ ((w.2.2 : Nat) : Int) - 18 * H.1 7 4 F.2.2.1 - 700 * H.1 3 1 F.2.1 - 6 * H.1 3 3 F.2.1 + 10 * (0) ∧ ∃ rv, v = some (.inl rv) ∧ (rv = 0 ∨ rv = 1)) := by
  have hE : cEx T [30032, 30033, 30034, 30035, 30036, 30037, 30038, 30039, 804, 808, 809, 811] H H := cEx.refl
  have hS : ∀ k p, T k p → T k p := fun _ _ z => z
  have f1 : 0 ≤ H.1 9 0 t ∧ H.1 9 0 t ≤ 4 := hI.v 9 0 t ta1
  refine J.run 3 rfl (hI.is ta1) ?_
  try dsimp only
  refine J.icmp rfl rfl rfl ⟨(show -2147483648 ≤ H.1 9 0 t ∧ H.1 9 0 t ≤ 2147483647 from ⟨by omega, by omega⟩), (show -2147483648 ≤ (1 : Int) ∧ (1 : Int) ≤ 2147483647 from ⟨by omega, by omega⟩)⟩ (fun hc => ?_) (fun hc => ?_)
  · have c2 : H.1 9 0 t = (1 : Int) := hc
    clear hc
    have f3 : 0 ≤ H.1 9 1 t ∧ H.1 9 1 t ≤ 199 := hI.v 9 1 t ta1
    have f4 : (-1) ≤ H.1 9 2 t ∧ H.1 9 2 t ≤ 199 := hI.v 9 2 t ta1
    refine J.run 5 rfl ⟨(hI.is ta1), (hI.is ta1)⟩ ?_
    try dsimp only
    refine J.inv rfl rfl rfl rfl rfl rfl ((jD_w rfl).mpr (hI.is ta0)) rfl rfl rfl rfl rfl (c_X8_placeOf (a0 := a0) (account := H.1 9 1 t) (node := H.1 9 2 t) hI ta0 ) ?_
    rintro v w H ⟨rfl, rfl, hv⟩
    obtain ⟨x5, rfl, r6⟩ := hv
    have r6' : -1 ≤ x5 ∧ x5 < H.1 8 4 a0 ∧ x5 ≤ 95 := r6
    try dsimp only [Option.toList, List.append, List.cons_append, List.nil_append]
    refine J.run0 7 rfl ?_
    try dsimp only
    refine J.inv rfl rfl rfl rfl rfl rfl ((jD_w rfl).mpr (hI.is ta0)) rfl rfl rfl rfl rfl (c_X8_allows (a0 := a0) (t := t) (place := x5) (proposer := proposer) (height := height) hI ta0 ta1 (show -1 ≤ x5 ∧ x5 < 96 from ⟨by omega, by omega⟩) (show 0 ≤ proposer ∧ proposer ≤ 15 from ⟨by omega, by omega⟩)) ?_
    rintro v w H ⟨rfl, rfl, hv⟩
    obtain ⟨x7, rfl, r8⟩ := hv
    have r8' : (x7 = 0 ∨ x7 = 1) ∧ (x7 = 1 → H.1 9 0 t = 1 → x5 = -1 → H.1 8 4 a0 < 96) ∧ (x7 = 1 → H.1 9 0 t = 2 → ¬ x5 = -1 ∧ H.1 8 8 a0 < 32) ∧ (x7 = 1 → H.1 9 0 t = 4 → ¬ H.1 9 4 t = -1) := r8
    try dsimp only [Option.toList, List.append, List.cons_append, List.nil_append]
    refine J.ifc rfl rfl rfl (show -2147483648 ≤ x7 ∧ x7 ≤ 2147483647 from ⟨by omega, by omega⟩) (fun hc => ?_) (fun hc => ?_)
    · have c9 : ¬ (x7 = (0 : Int)) := hc
      clear hc
      refine J.run 9 rfl ⟨⟨(hI.is ta0), hI.is (hI.r 8 0 32 a0 rfl ta0)⟩, (hI.is ta1), (show w.1 32 a0 ∧ 0 ≤ H.1 9 1 t ∧ H.1 9 1 t < 200 from ⟨hI.is (hI.r 8 0 32 a0 rfl ta0), by omega, by omega⟩), (show w.1 32 a0 ∧ 0 ≤ H.1 9 1 t ∧ H.1 9 1 t < 200 from ⟨hI.is (hI.r 8 0 32 a0 rfl ta0), by omega, by omega⟩)⟩ ?_
      try dsimp only
      refine J.gn fun H10 hH10 => ?_
      have hI11 : cJ F T w H10 := by rw [hH10]; exact cI.wRj hI (hI.r 8 0 32 a0 rfl ta0) trivial
      have hE12 : cEx T [30032, 30033, 30034, 30035, 30036, 30037, 30038, 30039, 804, 808, 809, 811] H10 H := by rw [hH10]; exact cEx.wR hE (by decide)
      have g13 : H10.1 9 0 t = H.1 9 0 t := by subst hH10; rfl
      have g14 : H10.1 8 4 a0 = H.1 8 4 a0 := by subst hH10; rfl
      have g15 : H10.1 8 8 a0 = H.1 8 8 a0 := by subst hH10; rfl
      have g16 : H10.1 9 4 t = H.1 9 4 t := by subst hH10; rfl
      have g17 : H10.1 9 1 t = H.1 9 1 t := by subst hH10; rfl
      have g18 : H10.1 9 2 t = H.1 9 2 t := by subst hH10; rfl
      have g19 : H10.1 7 4 F.2.2.1 = H.1 7 4 F.2.2.1 := by subst hH10; rfl
      have g20 : H10.1 3 1 F.2.1 = H.1 3 1 F.2.1 := by subst hH10; rfl
      have g21 : H10.1 3 3 F.2.1 = H.1 3 3 F.2.1 := by subst hH10; rfl
      clear hH10
      refine J.run 8 rfl ⟨⟨(hI11.is ta0), hI11.is (hI11.r 8 0 32 a0 rfl ta0)⟩, (show w.1 32 a0 ∧ 0 ≤ proposer ∧ proposer < 200 from ⟨hI11.is (hI11.r 8 0 32 a0 rfl ta0), by omega, by omega⟩), (show w.1 32 a0 ∧ 0 ≤ proposer ∧ proposer < 200 from ⟨hI11.is (hI11.r 8 0 32 a0 rfl ta0), by omega, by omega⟩)⟩ ?_
      try dsimp only
      refine J.gn fun H22 hH22 => ?_
      have hI23 : cJ F T w H22 := by rw [hH22]; exact cI.wRj hI11 (hI11.r 8 0 32 a0 rfl ta0) trivial
      have hE24 : cEx T [30032, 30033, 30034, 30035, 30036, 30037, 30038, 30039, 804, 808, 809, 811] H22 H := by rw [hH22]; exact cEx.wR hE12 (by decide)
      have g25 : H22.1 9 0 t = H10.1 9 0 t := by subst hH22; rfl
      have g26 : H22.1 8 4 a0 = H10.1 8 4 a0 := by subst hH22; rfl
      have g27 : H22.1 8 8 a0 = H10.1 8 8 a0 := by subst hH22; rfl
      have g28 : H22.1 9 4 t = H10.1 9 4 t := by subst hH22; rfl
      have g29 : H22.1 9 1 t = H10.1 9 1 t := by subst hH22; rfl
      have g30 : H22.1 9 2 t = H10.1 9 2 t := by subst hH22; rfl
      have g31 : H22.1 7 4 F.2.2.1 = H10.1 7 4 F.2.2.1 := by subst hH22; rfl
      have g32 : H22.1 3 1 F.2.1 = H10.1 3 1 F.2.1 := by subst hH22; rfl
      have g33 : H22.1 3 3 F.2.1 = H10.1 3 3 F.2.1 := by subst hH22; rfl
      clear hH22
      have f34 : 0 ≤ H22.1 9 0 t ∧ H22.1 9 0 t ≤ 4 := hI23.v 9 0 t ta1
      refine J.run 2 rfl (hI23.is ta1) ?_
      try dsimp only
      by_cases c35 : H22.1 9 0 t = 0
      · refine J.tsw rfl rfl rfl ⟨by omega, by omega⟩ (t := 104) (by rw [c35]; rfl) ?_
        have f36 : 0 ≤ H22.1 9 1 t ∧ H22.1 9 1 t ≤ 199 := hI23.v 9 1 t ta1
        refine J.run 10 rfl ⟨⟨(hI23.is ta0), hI23.is (hI23.r 8 0 32 a0 rfl ta0)⟩, (hI23.is ta1), (show w.1 32 a0 ∧ 0 ≤ H22.1 9 1 t ∧ H22.1 9 1 t < 200 from ⟨hI23.is (hI23.r 8 0 32 a0 rfl ta0), by omega, by omega⟩), (hI23.is ta1), (show w.1 32 a0 ∧ 0 ≤ H22.1 9 1 t ∧ H22.1 9 1 t < 200 from ⟨hI23.is (hI23.r 8 0 32 a0 rfl ta0), by omega, by omega⟩)⟩ ?_
        try dsimp only
        refine J.gn fun H37 hH37 => ?_
        have hI38 : cJ F T w H37 := by rw [hH37]; exact cI.wRj hI23 (hI23.r 8 0 32 a0 rfl ta0) trivial
        have hE39 : cEx T [30032, 30033, 30034, 30035, 30036, 30037, 30038, 30039, 804, 808, 809, 811] H37 H := by rw [hH37]; exact cEx.wR hE24 (by decide)
        have g40 : H37.1 9 0 t = H22.1 9 0 t := by subst hH37; rfl
        have g41 : H37.1 8 4 a0 = H22.1 8 4 a0 := by subst hH37; rfl
        have g42 : H37.1 8 8 a0 = H22.1 8 8 a0 := by subst hH37; rfl
        have g43 : H37.1 9 4 t = H22.1 9 4 t := by subst hH37; rfl
        have g44 : H37.1 9 1 t = H22.1 9 1 t := by subst hH37; rfl
        have g45 : H37.1 9 2 t = H22.1 9 2 t := by subst hH37; rfl
        have g46 : H37.1 7 4 F.2.2.1 = H22.1 7 4 F.2.2.1 := by subst hH37; rfl
        have g47 : H37.1 3 1 F.2.1 = H22.1 3 1 F.2.1 := by subst hH37; rfl
        have g48 : H37.1 3 3 F.2.1 = H22.1 3 3 F.2.1 := by subst hH37; rfl
        clear hH37
        refine J.run 2 rfl ⟨(hI38.is ta0), hI38.is (hI38.r 8 0 32 a0 rfl ta0)⟩ ?_
        try dsimp only
        have hx := hI38.tx ta1
        have f49 : (-1) ≤ H37.1 9 2 t ∧ H37.1 9 2 t ≤ 199 := hI38.v 9 2 t ta1
        refine J.run 8 rfl ⟨(hI38.is ta1), (show w.1 32 a0 ∧ 0 ≤ H37.1 9 2 t ∧ H37.1 9 2 t < 200 from ⟨hI38.is (hI38.r 8 0 32 a0 rfl ta0), by omega, by omega⟩), (hI38.is ta1), (show w.1 32 a0 ∧ 0 ≤ H37.1 9 2 t ∧ H37.1 9 2 t < 200 from ⟨hI38.is (hI38.r 8 0 32 a0 rfl ta0), by omega, by omega⟩)⟩ ?_
        try dsimp only
        refine J.gn fun H50 hH50 => ?_
        have hI51 : cJ F T w H50 := by rw [hH50]; exact cI.wRj hI38 (hI38.r 8 0 32 a0 rfl ta0) trivial
        have hE52 : cEx T [30032, 30033, 30034, 30035, 30036, 30037, 30038, 30039, 804, 808, 809, 811] H50 H := by rw [hH50]; exact cEx.wR hE39 (by decide)
        have g53 : H50.1 9 0 t = H37.1 9 0 t := by subst hH50; rfl
        have g54 : H50.1 8 4 a0 = H37.1 8 4 a0 := by subst hH50; rfl
        have g55 : H50.1 8 8 a0 = H37.1 8 8 a0 := by subst hH50; rfl
        have g56 : H50.1 9 4 t = H37.1 9 4 t := by subst hH50; rfl
        have g57 : H50.1 9 1 t = H37.1 9 1 t := by subst hH50; rfl
        have g58 : H50.1 9 2 t = H37.1 9 2 t := by subst hH50; rfl
        have g59 : H50.1 7 4 F.2.2.1 = H37.1 7 4 F.2.2.1 := by subst hH50; rfl
        have g60 : H50.1 3 1 F.2.1 = H37.1 3 1 F.2.1 := by subst hH50; rfl
        have g61 : H50.1 3 3 F.2.1 = H37.1 3 3 F.2.1 := by subst hH50; rfl
        clear hH50
        refine J.run0 2 rfl ?_
        try dsimp only
        exact J.retb rfl rfl rfl (show (1 : Int) = 0 ∨ (1 : Int) = 1 by omega) ⟨_, rfl, T, hI51, hS, hE52, (show ((w.2.1 : Nat) : Int) - 2 * H50.1 7 4 F.2.2.1 - 13 * H50.1 3 1 F.2.1 - H50.1 3 3 F.2.1 ≤ ((w.2.1 : Nat) : Int) - 2 * H.1 7 4 F.2.2.1 - 13 * H.1 3 1 F.2.1 - H.1 3 3 F.2.1 + (0) by omega), (show ((w.2.2 : Nat) : Int) - 18 * H50.1 7 4 F.2.2.1 - 700 * H50.1 3 1 F.2.1 - 6 * H50.1 3 3 F.2.1 ≤ ((w.2.2 : Nat) : Int) - 18 * H.1 7 4 F.2.2.1 - 700 * H.1 3 1 F.2.1 - 6 * H.1 3 3 F.2.1 + 10 * (0) by omega), _, rfl, (show ((1 : Int)) = 0 ∨ ((1 : Int)) = 1 from by omega)⟩
      by_cases c62 : H22.1 9 0 t = 1
      · refine J.tsw rfl rfl rfl ⟨by omega, by omega⟩ (t := 139) (by rw [c62]; rfl) ?_
        refine J.run0 3 rfl ?_
        try dsimp only
        refine J.inv rfl rfl rfl rfl rfl rfl ((jD_w rfl).mpr (hI23.is ta0)) rfl rfl rfl rfl rfl (c_X8_bond (a0 := a0) (t := t) (place := x5) hI23 ta0 ta1 (show -1 ≤ x5 ∧ x5 < 96 from ⟨by omega, by omega⟩) (show x5 = -1 → H22.1 8 4 a0 < 96 from by omega) (show H22.1 9 0 t = 1 from by omega)) ?_
        rintro v w64 H63 ⟨T65, hI66, shS67, ehE68, hr69, hr69s, hv⟩
        have hr69' : ((w64.2.1 : Nat) : Int) - 2 * H63.1 7 4 F.2.2.1 - 13 * H63.1 3 1 F.2.1 - H63.1 3 3 F.2.1 ≤ ((w.2.1 : Nat) : Int) - 2 * H22.1 7 4 F.2.2.1 - 13 * H22.1 3 1 F.2.1 - H22.1 3 3 F.2.1 + (0) := hr69
        have hr69s' : ((w64.2.2 : Nat) : Int) - 18 * H63.1 7 4 F.2.2.1 - 700 * H63.1 3 1 F.2.1 - 6 * H63.1 3 3 F.2.1 ≤ ((w.2.2 : Nat) : Int) - 18 * H22.1 7 4 F.2.2.1 - 700 * H22.1 3 1 F.2.1 - 6 * H22.1 3 3 F.2.1 + 10 * (0) := hr69s
        have hE68 : cEx T [30032, 30033, 30034, 30035, 30036, 30037, 30038, 30039, 804, 808, 809, 811] H63 H := cEx.trans ehE68 hE24 hS (by decide)
        have hS67 : ∀ k p, T k p → T65 k p := fun k p z => shS67 k p (hS k p z)
        have g70 : H63.1 9 0 t = H22.1 9 0 t := (ehE68.1 9 0 t ta1).1 (by decide)
        have g71 : H63.1 8 8 a0 = H22.1 8 8 a0 := (ehE68.1 8 8 a0 ta0).1 (by decide)
        have g72 : H63.1 9 4 t = H22.1 9 4 t := (ehE68.1 9 4 t ta1).1 (by decide)
        have g73 : H63.1 9 1 t = H22.1 9 1 t := (ehE68.1 9 1 t ta1).1 (by decide)
        have g74 : H63.1 9 2 t = H22.1 9 2 t := (ehE68.1 9 2 t ta1).1 (by decide)
        have g75 : H63.1 7 4 F.2.2.1 = H22.1 7 4 F.2.2.1 := (ehE68.1 7 4 F.2.2.1 hI23.top.2.2.1).1 (by decide)
        have g76 : H63.1 3 1 F.2.1 = H22.1 3 1 F.2.1 := (ehE68.1 3 1 F.2.1 hI23.top.2.1).1 (by decide)
        have g77 : H63.1 3 3 F.2.1 = H22.1 3 3 F.2.1 := (ehE68.1 3 3 F.2.1 hI23.top.2.1).1 (by decide)
        have t78 : T65 8 a0 := shS67 _ _ ta0
        have t79 : T65 9 t := shS67 _ _ ta1
        obtain rfl := hv
        try dsimp only [Option.toList, List.append, List.cons_append, List.nil_append]
        refine J.run0 2 rfl ?_
        try dsimp only
        exact J.retb rfl rfl rfl (show (1 : Int) = 0 ∨ (1 : Int) = 1 by omega) ⟨_, rfl, T65, hI66, hS67, hE68, (show ((w64.2.1 : Nat) : Int) - 2 * H63.1 7 4 F.2.2.1 - 13 * H63.1 3 1 F.2.1 - H63.1 3 3 F.2.1 ≤ ((w.2.1 : Nat) : Int) - 2 * H.1 7 4 F.2.2.1 - 13 * H.1 3 1 F.2.1 - H.1 3 3 F.2.1 + (0) by omega), (show ((w64.2.2 : Nat) : Int) - 18 * H63.1 7 4 F.2.2.1 - 700 * H63.1 3 1 F.2.1 - 6 * H63.1 3 3 F.2.1 ≤ ((w.2.2 : Nat) : Int) - 18 * H.1 7 4 F.2.2.1 - 700 * H.1 3 1 F.2.1 - 6 * H.1 3 3 F.2.1 + 10 * (0) by omega), _, rfl, (show ((1 : Int)) = 0 ∨ ((1 : Int)) = 1 from by omega)⟩
      by_cases c80 : H22.1 9 0 t = 2
      · refine J.tsw rfl rfl rfl ⟨by omega, by omega⟩ (t := 149) (by rw [c80]; rfl) ?_
        refine J.run0 6 rfl ?_
        try dsimp only
        refine J.inv rfl rfl rfl rfl rfl rfl ((jD_w rfl).mpr (hI23.is ta0)) rfl rfl rfl rfl rfl (c_X8_unbond (a0 := a0) (t := t) (place := x5) (due := height + (4 : Int)) hI23 ta0 ta1 (show 0 ≤ x5 ∧ x5 < H22.1 8 4 a0 from ⟨by omega, by omega⟩) (show H22.1 8 8 a0 < 32 from by omega)) ?_
        rintro v w82 H81 ⟨T83, hI84, shS85, ehE86, hr87, hr87s, hv⟩
        have hr87' : ((w82.2.1 : Nat) : Int) - 2 * H81.1 7 4 F.2.2.1 - 13 * H81.1 3 1 F.2.1 - H81.1 3 3 F.2.1 ≤ ((w.2.1 : Nat) : Int) - 2 * H22.1 7 4 F.2.2.1 - 13 * H22.1 3 1 F.2.1 - H22.1 3 3 F.2.1 + (0) := hr87
        have hr87s' : ((w82.2.2 : Nat) : Int) - 18 * H81.1 7 4 F.2.2.1 - 700 * H81.1 3 1 F.2.1 - 6 * H81.1 3 3 F.2.1 ≤ ((w.2.2 : Nat) : Int) - 18 * H22.1 7 4 F.2.2.1 - 700 * H22.1 3 1 F.2.1 - 6 * H22.1 3 3 F.2.1 + 10 * (0) := hr87s
        have hE86 : cEx T [30032, 30033, 30034, 30035, 30036, 30037, 30038, 30039, 804, 808, 809, 811] H81 H := cEx.trans ehE86 hE24 hS (by decide)
        have hS85 : ∀ k p, T k p → T83 k p := fun k p z => shS85 k p (hS k p z)
        have g88 : H81.1 9 0 t = H22.1 9 0 t := (ehE86.1 9 0 t ta1).1 (by decide)
        have g89 : H81.1 9 4 t = H22.1 9 4 t := (ehE86.1 9 4 t ta1).1 (by decide)
        have g90 : H81.1 9 1 t = H22.1 9 1 t := (ehE86.1 9 1 t ta1).1 (by decide)
        have g91 : H81.1 9 2 t = H22.1 9 2 t := (ehE86.1 9 2 t ta1).1 (by decide)
        have g92 : H81.1 7 4 F.2.2.1 = H22.1 7 4 F.2.2.1 := (ehE86.1 7 4 F.2.2.1 hI23.top.2.2.1).1 (by decide)
        have g93 : H81.1 3 1 F.2.1 = H22.1 3 1 F.2.1 := (ehE86.1 3 1 F.2.1 hI23.top.2.1).1 (by decide)
        have g94 : H81.1 3 3 F.2.1 = H22.1 3 3 F.2.1 := (ehE86.1 3 3 F.2.1 hI23.top.2.1).1 (by decide)
        have t95 : T83 8 a0 := shS85 _ _ ta0
        have t96 : T83 9 t := shS85 _ _ ta1
        obtain rfl := hv
        try dsimp only [Option.toList, List.append, List.cons_append, List.nil_append]
        refine J.run0 2 rfl ?_
        try dsimp only
        exact J.retb rfl rfl rfl (show (1 : Int) = 0 ∨ (1 : Int) = 1 by omega) ⟨_, rfl, T83, hI84, hS85, hE86, (show ((w82.2.1 : Nat) : Int) - 2 * H81.1 7 4 F.2.2.1 - 13 * H81.1 3 1 F.2.1 - H81.1 3 3 F.2.1 ≤ ((w.2.1 : Nat) : Int) - 2 * H.1 7 4 F.2.2.1 - 13 * H.1 3 1 F.2.1 - H.1 3 3 F.2.1 + (0) by omega), (show ((w82.2.2 : Nat) : Int) - 18 * H81.1 7 4 F.2.2.1 - 700 * H81.1 3 1 F.2.1 - 6 * H81.1 3 3 F.2.1 ≤ ((w.2.2 : Nat) : Int) - 18 * H.1 7 4 F.2.2.1 - 700 * H.1 3 1 F.2.1 - 6 * H.1 3 3 F.2.1 + 10 * (0) by omega), _, rfl, (show ((1 : Int)) = 0 ∨ ((1 : Int)) = 1 from by omega)⟩
      by_cases c97 : H22.1 9 0 t = 3
      · refine J.tsw rfl rfl rfl ⟨by omega, by omega⟩ (t := 162) (by rw [c97]; rfl) ?_
        have f98 : (-1) ≤ H22.1 9 2 t ∧ H22.1 9 2 t ≤ 199 := hI23.v 9 2 t ta1
        have f99 : -2147483648 ≤ jshl ((1 : Int)) (H22.1 9 2 t) ∧ jshl ((1 : Int)) (H22.1 9 2 t) ≤ 2147483647 := jI32 _
        have f100 : -2147483648 ≤ jxor (jshl ((1 : Int)) (H22.1 9 2 t)) ((-1 : Int)) ∧ jxor (jshl ((1 : Int)) (H22.1 9 2 t)) ((-1 : Int)) ≤ 2147483647 := jI32 _
        have f101 : -2147483648 ≤ jand (H22.1 8 9 a0) (jxor (jshl ((1 : Int)) (H22.1 9 2 t)) ((-1 : Int))) ∧ jand (H22.1 8 9 a0) (jxor (jshl ((1 : Int)) (H22.1 9 2 t)) ((-1 : Int))) ≤ 2147483647 := jI32 _
        refine J.run 11 rfl ⟨(hI23.is ta0), (hI23.is ta1), (hI23.is ta0)⟩ ?_
        try dsimp only
        refine J.gn fun H102 hH102 => ?_
        have hI103 : cJ F T w H102 := by rw [hH102]; exact cJ.wi hI23 trivial rfl rfl
        have hE104 : cEx T [30032, 30033, 30034, 30035, 30036, 30037, 30038, 30039, 804, 808, 809, 811] H102 H := by rw [hH102]; exact cEx.wi hE24 (by decide)
        have g105 : H102.1 9 0 t = H22.1 9 0 t := by subst hH102; rfl
        have g106 : H102.1 8 4 a0 = H22.1 8 4 a0 := by subst hH102; rfl
        have g107 : H102.1 8 8 a0 = H22.1 8 8 a0 := by subst hH102; rfl
        have g108 : H102.1 9 4 t = H22.1 9 4 t := by subst hH102; rfl
        have g109 : H102.1 9 1 t = H22.1 9 1 t := by subst hH102; rfl
        have g110 : H102.1 9 2 t = H22.1 9 2 t := by subst hH102; rfl
        have g111 : H102.1 7 4 F.2.2.1 = H22.1 7 4 F.2.2.1 := by subst hH102; rfl
        have g112 : H102.1 3 1 F.2.1 = H22.1 3 1 F.2.1 := by subst hH102; rfl
        have g113 : H102.1 3 3 F.2.1 = H22.1 3 3 F.2.1 := by subst hH102; rfl
        have g114 : H102.1 8 9 a0 = jand (H22.1 8 9 a0) (jxor (jshl ((1 : Int)) (H22.1 9 2 t)) ((-1 : Int))) := by subst hH102; exact if_pos rfl
        clear hH102
        refine J.run0 2 rfl ?_
        try dsimp only
        exact J.retb rfl rfl rfl (show (1 : Int) = 0 ∨ (1 : Int) = 1 by omega) ⟨_, rfl, T, hI103, hS, hE104, (show ((w.2.1 : Nat) : Int) - 2 * H102.1 7 4 F.2.2.1 - 13 * H102.1 3 1 F.2.1 - H102.1 3 3 F.2.1 ≤ ((w.2.1 : Nat) : Int) - 2 * H.1 7 4 F.2.2.1 - 13 * H.1 3 1 F.2.1 - H.1 3 3 F.2.1 + (0) by omega), (show ((w.2.2 : Nat) : Int) - 18 * H102.1 7 4 F.2.2.1 - 700 * H102.1 3 1 F.2.1 - 6 * H102.1 3 3 F.2.1 ≤ ((w.2.2 : Nat) : Int) - 18 * H.1 7 4 F.2.2.1 - 700 * H.1 3 1 F.2.1 - 6 * H.1 3 3 F.2.1 + 10 * (0) by omega), _, rfl, (show ((1 : Int)) = 0 ∨ ((1 : Int)) = 1 from by omega)⟩
      have c115 : H22.1 9 0 t < 0 ∨ 3 < H22.1 9 0 t := by omega
      refine J.tsw rfl rfl rfl ⟨by omega, by omega⟩ (t := 182) (by rw [if_pos c115]; rfl) ?_
      have f116 : (-1) ≤ H22.1 9 4 t ∧ H22.1 9 4 t ≤ 15 := hI23.v 9 4 t ta1
      refine J.run 5 rfl ⟨(hI23.is ta1), (hI23.is ta1)⟩ ?_
      try dsimp only
      refine J.inv rfl rfl rfl rfl rfl rfl ((jD_w rfl).mpr (hI23.is ta0)) rfl rfl rfl rfl rfl (c_X8_punish (a0 := a0) (node := H22.1 9 4 t) (height := H22.1 9 5 t) hI23 ta0 (show 0 ≤ (H22.1 9 4 t) ∧ (H22.1 9 4 t) ≤ 15 from ⟨by omega, by omega⟩)) ?_
      rintro v w118 H117 ⟨T119, hI120, shS121, ehE122, hr123, hr123s, hv⟩
      have hr123' : ((w118.2.1 : Nat) : Int) - 2 * H117.1 7 4 F.2.2.1 - 13 * H117.1 3 1 F.2.1 - H117.1 3 3 F.2.1 ≤ ((w.2.1 : Nat) : Int) - 2 * H22.1 7 4 F.2.2.1 - 13 * H22.1 3 1 F.2.1 - H22.1 3 3 F.2.1 + (0) := hr123
      have hr123s' : ((w118.2.2 : Nat) : Int) - 18 * H117.1 7 4 F.2.2.1 - 700 * H117.1 3 1 F.2.1 - 6 * H117.1 3 3 F.2.1 ≤ ((w.2.2 : Nat) : Int) - 18 * H22.1 7 4 F.2.2.1 - 700 * H22.1 3 1 F.2.1 - 6 * H22.1 3 3 F.2.1 + 10 * (0) := hr123s
      have hE122 : cEx T [30032, 30033, 30034, 30035, 30036, 30037, 30038, 30039, 804, 808, 809, 811] H117 H := cEx.trans ehE122 hE24 hS (by decide)
      have hS121 : ∀ k p, T k p → T119 k p := fun k p z => shS121 k p (hS k p z)
      have g124 : H117.1 9 0 t = H22.1 9 0 t := (ehE122.1 9 0 t ta1).1 (by decide)
      have g125 : H117.1 8 4 a0 = H22.1 8 4 a0 := (ehE122.1 8 4 a0 ta0).1 (by decide)
      have g126 : H117.1 8 8 a0 = H22.1 8 8 a0 := (ehE122.1 8 8 a0 ta0).1 (by decide)
      have g127 : H117.1 9 4 t = H22.1 9 4 t := (ehE122.1 9 4 t ta1).1 (by decide)
      have g128 : H117.1 9 1 t = H22.1 9 1 t := (ehE122.1 9 1 t ta1).1 (by decide)
      have g129 : H117.1 9 2 t = H22.1 9 2 t := (ehE122.1 9 2 t ta1).1 (by decide)
      have g130 : H117.1 7 4 F.2.2.1 = H22.1 7 4 F.2.2.1 := (ehE122.1 7 4 F.2.2.1 hI23.top.2.2.1).1 (by decide)
      have g131 : H117.1 3 1 F.2.1 = H22.1 3 1 F.2.1 := (ehE122.1 3 1 F.2.1 hI23.top.2.1).1 (by decide)
      have g132 : H117.1 3 3 F.2.1 = H22.1 3 3 F.2.1 := (ehE122.1 3 3 F.2.1 hI23.top.2.1).1 (by decide)
      have t133 : T119 8 a0 := shS121 _ _ ta0
      have t134 : T119 9 t := shS121 _ _ ta1
      obtain rfl := hv
      try dsimp only [Option.toList, List.append, List.cons_append, List.nil_append]
      refine J.run0 1 rfl ?_
      try dsimp only
      exact J.retb rfl rfl rfl (show (1 : Int) = 0 ∨ (1 : Int) = 1 by omega) ⟨_, rfl, T119, hI120, hS121, hE122, (show ((w118.2.1 : Nat) : Int) - 2 * H117.1 7 4 F.2.2.1 - 13 * H117.1 3 1 F.2.1 - H117.1 3 3 F.2.1 ≤ ((w.2.1 : Nat) : Int) - 2 * H.1 7 4 F.2.2.1 - 13 * H.1 3 1 F.2.1 - H.1 3 3 F.2.1 + (0) by omega), (show ((w118.2.2 : Nat) : Int) - 18 * H117.1 7 4 F.2.2.1 - 700 * H117.1 3 1 F.2.1 - 6 * H117.1 3 3 F.2.1 ≤ ((w.2.2 : Nat) : Int) - 18 * H.1 7 4 F.2.2.1 - 700 * H.1 3 1 F.2.1 - 6 * H.1 3 3 F.2.1 + 10 * (0) by omega), _, rfl, (show ((1 : Int)) = 0 ∨ ((1 : Int)) = 1 from by omega)⟩
    · have c135 : ¬ (¬ (x7 = (0 : Int))) := hc
      clear hc
      refine J.run0 1 rfl ?_
      try dsimp only
      exact J.retb rfl rfl rfl (show (0 : Int) = 0 ∨ (0 : Int) = 1 by omega) ⟨_, rfl, T, hI, hS, hE, (show ((w.2.1 : Nat) : Int) - 2 * H.1 7 4 F.2.2.1 - 13 * H.1 3 1 F.2.1 - H.1 3 3 F.2.1 ≤ ((w.2.1 : Nat) : Int) - 2 * H.1 7 4 F.2.2.1 - 13 * H.1 3 1 F.2.1 - H.1 3 3 F.2.1 + (0) by omega), (show ((w.2.2 : Nat) : Int) - 18 * H.1 7 4 F.2.2.1 - 700 * H.1 3 1 F.2.1 - 6 * H.1 3 3 F.2.1 ≤ ((w.2.2 : Nat) : Int) - 18 * H.1 7 4 F.2.2.1 - 700 * H.1 3 1 F.2.1 - 6 * H.1 3 3 F.2.1 + 10 * (0) by omega), _, rfl, (show ((0 : Int)) = 0 ∨ ((0 : Int)) = 1 from by omega)⟩
  · have c136 : ¬ (H.1 9 0 t = (1 : Int)) := hc
    clear hc
    refine J.run 3 rfl (hI.is ta1) ?_
    try dsimp only
    refine J.icmp rfl rfl rfl ⟨(show -2147483648 ≤ H.1 9 0 t ∧ H.1 9 0 t ≤ 2147483647 from ⟨by omega, by omega⟩), (show -2147483648 ≤ (2 : Int) ∧ (2 : Int) ≤ 2147483647 from ⟨by omega, by omega⟩)⟩ (fun hc => ?_) (fun hc => ?_)
    · have c137 : ¬ (H.1 9 0 t = (2 : Int)) := hc
      clear hc
      refine J.run0 7 rfl ?_
      try dsimp only
      refine J.inv rfl rfl rfl rfl rfl rfl ((jD_w rfl).mpr (hI.is ta0)) rfl rfl rfl rfl rfl (c_X8_allows (a0 := a0) (t := t) (place := (-1 : Int)) (proposer := proposer) (height := height) hI ta0 ta1 (show -1 ≤ (-1 : Int) ∧ (-1 : Int) < 96 from ⟨by omega, by omega⟩) (show 0 ≤ proposer ∧ proposer ≤ 15 from ⟨by omega, by omega⟩)) ?_
      rintro v w H ⟨rfl, rfl, hv⟩
      obtain ⟨x138, rfl, r139⟩ := hv
      have r139' : (x138 = 0 ∨ x138 = 1) ∧ (x138 = 1 → H.1 9 0 t = 1 → (-1 : Int) = -1 → H.1 8 4 a0 < 96) ∧ (x138 = 1 → H.1 9 0 t = 2 → ¬ (-1 : Int) = -1 ∧ H.1 8 8 a0 < 32) ∧ (x138 = 1 → H.1 9 0 t = 4 → ¬ H.1 9 4 t = -1) := r139
      try dsimp only [Option.toList, List.append, List.cons_append, List.nil_append]
      refine J.ifc rfl rfl rfl (show -2147483648 ≤ x138 ∧ x138 ≤ 2147483647 from ⟨by omega, by omega⟩) (fun hc => ?_) (fun hc => ?_)
      · have c140 : ¬ (x138 = (0 : Int)) := hc
        clear hc
        have f141 : 0 ≤ H.1 9 1 t ∧ H.1 9 1 t ≤ 199 := hI.v 9 1 t ta1
        refine J.run 9 rfl ⟨⟨(hI.is ta0), hI.is (hI.r 8 0 32 a0 rfl ta0)⟩, (hI.is ta1), (show w.1 32 a0 ∧ 0 ≤ H.1 9 1 t ∧ H.1 9 1 t < 200 from ⟨hI.is (hI.r 8 0 32 a0 rfl ta0), by omega, by omega⟩), (show w.1 32 a0 ∧ 0 ≤ H.1 9 1 t ∧ H.1 9 1 t < 200 from ⟨hI.is (hI.r 8 0 32 a0 rfl ta0), by omega, by omega⟩)⟩ ?_
        try dsimp only
        refine J.gn fun H142 hH142 => ?_
        have hI143 : cJ F T w H142 := by rw [hH142]; exact cI.wRj hI (hI.r 8 0 32 a0 rfl ta0) trivial
        have hE144 : cEx T [30032, 30033, 30034, 30035, 30036, 30037, 30038, 30039, 804, 808, 809, 811] H142 H := by rw [hH142]; exact cEx.wR hE (by decide)
        have g145 : H142.1 9 0 t = H.1 9 0 t := by subst hH142; rfl
        have g146 : H142.1 8 4 a0 = H.1 8 4 a0 := by subst hH142; rfl
        have g147 : H142.1 8 8 a0 = H.1 8 8 a0 := by subst hH142; rfl
        have g148 : H142.1 9 4 t = H.1 9 4 t := by subst hH142; rfl
        have g149 : H142.1 9 1 t = H.1 9 1 t := by subst hH142; rfl
        have g150 : H142.1 7 4 F.2.2.1 = H.1 7 4 F.2.2.1 := by subst hH142; rfl
        have g151 : H142.1 3 1 F.2.1 = H.1 3 1 F.2.1 := by subst hH142; rfl
        have g152 : H142.1 3 3 F.2.1 = H.1 3 3 F.2.1 := by subst hH142; rfl
        clear hH142
        refine J.run 8 rfl ⟨⟨(hI143.is ta0), hI143.is (hI143.r 8 0 32 a0 rfl ta0)⟩, (show w.1 32 a0 ∧ 0 ≤ proposer ∧ proposer < 200 from ⟨hI143.is (hI143.r 8 0 32 a0 rfl ta0), by omega, by omega⟩), (show w.1 32 a0 ∧ 0 ≤ proposer ∧ proposer < 200 from ⟨hI143.is (hI143.r 8 0 32 a0 rfl ta0), by omega, by omega⟩)⟩ ?_
        try dsimp only
        refine J.gn fun H153 hH153 => ?_
        have hI154 : cJ F T w H153 := by rw [hH153]; exact cI.wRj hI143 (hI143.r 8 0 32 a0 rfl ta0) trivial
        have hE155 : cEx T [30032, 30033, 30034, 30035, 30036, 30037, 30038, 30039, 804, 808, 809, 811] H153 H := by rw [hH153]; exact cEx.wR hE144 (by decide)
        have g156 : H153.1 9 0 t = H142.1 9 0 t := by subst hH153; rfl
        have g157 : H153.1 8 4 a0 = H142.1 8 4 a0 := by subst hH153; rfl
        have g158 : H153.1 8 8 a0 = H142.1 8 8 a0 := by subst hH153; rfl
        have g159 : H153.1 9 4 t = H142.1 9 4 t := by subst hH153; rfl
        have g160 : H153.1 9 1 t = H142.1 9 1 t := by subst hH153; rfl
        have g161 : H153.1 7 4 F.2.2.1 = H142.1 7 4 F.2.2.1 := by subst hH153; rfl
        have g162 : H153.1 3 1 F.2.1 = H142.1 3 1 F.2.1 := by subst hH153; rfl
        have g163 : H153.1 3 3 F.2.1 = H142.1 3 3 F.2.1 := by subst hH153; rfl
        clear hH153
        have f164 : 0 ≤ H153.1 9 0 t ∧ H153.1 9 0 t ≤ 4 := hI154.v 9 0 t ta1
        refine J.run 2 rfl (hI154.is ta1) ?_
        try dsimp only
        by_cases c165 : H153.1 9 0 t = 0
        · refine J.tsw rfl rfl rfl ⟨by omega, by omega⟩ (t := 104) (by rw [c165]; rfl) ?_
          have f166 : 0 ≤ H153.1 9 1 t ∧ H153.1 9 1 t ≤ 199 := hI154.v 9 1 t ta1
          refine J.run 10 rfl ⟨⟨(hI154.is ta0), hI154.is (hI154.r 8 0 32 a0 rfl ta0)⟩, (hI154.is ta1), (show w.1 32 a0 ∧ 0 ≤ H153.1 9 1 t ∧ H153.1 9 1 t < 200 from ⟨hI154.is (hI154.r 8 0 32 a0 rfl ta0), by omega, by omega⟩), (hI154.is ta1), (show w.1 32 a0 ∧ 0 ≤ H153.1 9 1 t ∧ H153.1 9 1 t < 200 from ⟨hI154.is (hI154.r 8 0 32 a0 rfl ta0), by omega, by omega⟩)⟩ ?_
          try dsimp only
          refine J.gn fun H167 hH167 => ?_
          have hI168 : cJ F T w H167 := by rw [hH167]; exact cI.wRj hI154 (hI154.r 8 0 32 a0 rfl ta0) trivial
          have hE169 : cEx T [30032, 30033, 30034, 30035, 30036, 30037, 30038, 30039, 804, 808, 809, 811] H167 H := by rw [hH167]; exact cEx.wR hE155 (by decide)
          have g170 : H167.1 9 0 t = H153.1 9 0 t := by subst hH167; rfl
          have g171 : H167.1 8 4 a0 = H153.1 8 4 a0 := by subst hH167; rfl
          have g172 : H167.1 8 8 a0 = H153.1 8 8 a0 := by subst hH167; rfl
          have g173 : H167.1 9 4 t = H153.1 9 4 t := by subst hH167; rfl
          have g174 : H167.1 9 1 t = H153.1 9 1 t := by subst hH167; rfl
          have g175 : H167.1 7 4 F.2.2.1 = H153.1 7 4 F.2.2.1 := by subst hH167; rfl
          have g176 : H167.1 3 1 F.2.1 = H153.1 3 1 F.2.1 := by subst hH167; rfl
          have g177 : H167.1 3 3 F.2.1 = H153.1 3 3 F.2.1 := by subst hH167; rfl
          clear hH167
          refine J.run 2 rfl ⟨(hI168.is ta0), hI168.is (hI168.r 8 0 32 a0 rfl ta0)⟩ ?_
          try dsimp only
          have hx := hI168.tx ta1
          have f178 : (-1) ≤ H167.1 9 2 t ∧ H167.1 9 2 t ≤ 199 := hI168.v 9 2 t ta1
          refine J.run 8 rfl ⟨(hI168.is ta1), (show w.1 32 a0 ∧ 0 ≤ H167.1 9 2 t ∧ H167.1 9 2 t < 200 from ⟨hI168.is (hI168.r 8 0 32 a0 rfl ta0), by omega, by omega⟩), (hI168.is ta1), (show w.1 32 a0 ∧ 0 ≤ H167.1 9 2 t ∧ H167.1 9 2 t < 200 from ⟨hI168.is (hI168.r 8 0 32 a0 rfl ta0), by omega, by omega⟩)⟩ ?_
          try dsimp only
          refine J.gn fun H179 hH179 => ?_
          have hI180 : cJ F T w H179 := by rw [hH179]; exact cI.wRj hI168 (hI168.r 8 0 32 a0 rfl ta0) trivial
          have hE181 : cEx T [30032, 30033, 30034, 30035, 30036, 30037, 30038, 30039, 804, 808, 809, 811] H179 H := by rw [hH179]; exact cEx.wR hE169 (by decide)
          have g182 : H179.1 9 0 t = H167.1 9 0 t := by subst hH179; rfl
          have g183 : H179.1 8 4 a0 = H167.1 8 4 a0 := by subst hH179; rfl
          have g184 : H179.1 8 8 a0 = H167.1 8 8 a0 := by subst hH179; rfl
          have g185 : H179.1 9 4 t = H167.1 9 4 t := by subst hH179; rfl
          have g186 : H179.1 9 1 t = H167.1 9 1 t := by subst hH179; rfl
          have g187 : H179.1 7 4 F.2.2.1 = H167.1 7 4 F.2.2.1 := by subst hH179; rfl
          have g188 : H179.1 3 1 F.2.1 = H167.1 3 1 F.2.1 := by subst hH179; rfl
          have g189 : H179.1 3 3 F.2.1 = H167.1 3 3 F.2.1 := by subst hH179; rfl
          have g190 : H179.1 9 2 t = H167.1 9 2 t := by subst hH179; rfl
          clear hH179
          refine J.run0 2 rfl ?_
          try dsimp only
          exact J.retb rfl rfl rfl (show (1 : Int) = 0 ∨ (1 : Int) = 1 by omega) ⟨_, rfl, T, hI180, hS, hE181, (show ((w.2.1 : Nat) : Int) - 2 * H179.1 7 4 F.2.2.1 - 13 * H179.1 3 1 F.2.1 - H179.1 3 3 F.2.1 ≤ ((w.2.1 : Nat) : Int) - 2 * H.1 7 4 F.2.2.1 - 13 * H.1 3 1 F.2.1 - H.1 3 3 F.2.1 + (0) by omega), (show ((w.2.2 : Nat) : Int) - 18 * H179.1 7 4 F.2.2.1 - 700 * H179.1 3 1 F.2.1 - 6 * H179.1 3 3 F.2.1 ≤ ((w.2.2 : Nat) : Int) - 18 * H.1 7 4 F.2.2.1 - 700 * H.1 3 1 F.2.1 - 6 * H.1 3 3 F.2.1 + 10 * (0) by omega), _, rfl, (show ((1 : Int)) = 0 ∨ ((1 : Int)) = 1 from by omega)⟩
        by_cases c191 : H153.1 9 0 t = 1
        · refine J.tsw rfl rfl rfl ⟨by omega, by omega⟩ (t := 139) (by rw [c191]; rfl) ?_
          refine J.run0 3 rfl ?_
          try dsimp only
          refine J.inv rfl rfl rfl rfl rfl rfl ((jD_w rfl).mpr (hI154.is ta0)) rfl rfl rfl rfl rfl (c_X8_bond (a0 := a0) (t := t) (place := (-1 : Int)) hI154 ta0 ta1 (show -1 ≤ (-1 : Int) ∧ (-1 : Int) < 96 from ⟨by omega, by omega⟩) (show (-1 : Int) = -1 → H153.1 8 4 a0 < 96 from by omega) (show H153.1 9 0 t = 1 from by omega)) ?_
          rintro v w193 H192 ⟨T194, hI195, shS196, ehE197, hr198, hr198s, hv⟩
          have hr198' : ((w193.2.1 : Nat) : Int) - 2 * H192.1 7 4 F.2.2.1 - 13 * H192.1 3 1 F.2.1 - H192.1 3 3 F.2.1 ≤ ((w.2.1 : Nat) : Int) - 2 * H153.1 7 4 F.2.2.1 - 13 * H153.1 3 1 F.2.1 - H153.1 3 3 F.2.1 + (0) := hr198
          have hr198s' : ((w193.2.2 : Nat) : Int) - 18 * H192.1 7 4 F.2.2.1 - 700 * H192.1 3 1 F.2.1 - 6 * H192.1 3 3 F.2.1 ≤ ((w.2.2 : Nat) : Int) - 18 * H153.1 7 4 F.2.2.1 - 700 * H153.1 3 1 F.2.1 - 6 * H153.1 3 3 F.2.1 + 10 * (0) := hr198s
          have hE197 : cEx T [30032, 30033, 30034, 30035, 30036, 30037, 30038, 30039, 804, 808, 809, 811] H192 H := cEx.trans ehE197 hE155 hS (by decide)
          have hS196 : ∀ k p, T k p → T194 k p := fun k p z => shS196 k p (hS k p z)
          have g199 : H192.1 9 0 t = H153.1 9 0 t := (ehE197.1 9 0 t ta1).1 (by decide)
          have g200 : H192.1 8 8 a0 = H153.1 8 8 a0 := (ehE197.1 8 8 a0 ta0).1 (by decide)
          have g201 : H192.1 9 4 t = H153.1 9 4 t := (ehE197.1 9 4 t ta1).1 (by decide)
          have g202 : H192.1 9 1 t = H153.1 9 1 t := (ehE197.1 9 1 t ta1).1 (by decide)
          have g203 : H192.1 7 4 F.2.2.1 = H153.1 7 4 F.2.2.1 := (ehE197.1 7 4 F.2.2.1 hI154.top.2.2.1).1 (by decide)
          have g204 : H192.1 3 1 F.2.1 = H153.1 3 1 F.2.1 := (ehE197.1 3 1 F.2.1 hI154.top.2.1).1 (by decide)
          have g205 : H192.1 3 3 F.2.1 = H153.1 3 3 F.2.1 := (ehE197.1 3 3 F.2.1 hI154.top.2.1).1 (by decide)
          have t206 : T194 8 a0 := shS196 _ _ ta0
          have t207 : T194 9 t := shS196 _ _ ta1
          obtain rfl := hv
          try dsimp only [Option.toList, List.append, List.cons_append, List.nil_append]
          refine J.run0 2 rfl ?_
          try dsimp only
          exact J.retb rfl rfl rfl (show (1 : Int) = 0 ∨ (1 : Int) = 1 by omega) ⟨_, rfl, T194, hI195, hS196, hE197, (show ((w193.2.1 : Nat) : Int) - 2 * H192.1 7 4 F.2.2.1 - 13 * H192.1 3 1 F.2.1 - H192.1 3 3 F.2.1 ≤ ((w.2.1 : Nat) : Int) - 2 * H.1 7 4 F.2.2.1 - 13 * H.1 3 1 F.2.1 - H.1 3 3 F.2.1 + (0) by omega), (show ((w193.2.2 : Nat) : Int) - 18 * H192.1 7 4 F.2.2.1 - 700 * H192.1 3 1 F.2.1 - 6 * H192.1 3 3 F.2.1 ≤ ((w.2.2 : Nat) : Int) - 18 * H.1 7 4 F.2.2.1 - 700 * H.1 3 1 F.2.1 - 6 * H.1 3 3 F.2.1 + 10 * (0) by omega), _, rfl, (show ((1 : Int)) = 0 ∨ ((1 : Int)) = 1 from by omega)⟩
        by_cases c208 : H153.1 9 0 t = 2
        · refine J.tsw rfl rfl rfl ⟨by omega, by omega⟩ (t := 149) (by rw [c208]; rfl) ?_
          refine J.run0 6 rfl ?_
          try dsimp only
          refine J.inv rfl rfl rfl rfl rfl rfl ((jD_w rfl).mpr (hI154.is ta0)) rfl rfl rfl rfl rfl (c_X8_unbond (a0 := a0) (t := t) (place := (-1 : Int)) (due := height + (4 : Int)) hI154 ta0 ta1 (show 0 ≤ (-1 : Int) ∧ (-1 : Int) < H153.1 8 4 a0 from ⟨by omega, by omega⟩) (show H153.1 8 8 a0 < 32 from by omega)) ?_
          rintro v w210 H209 ⟨T211, hI212, shS213, ehE214, hr215, hr215s, hv⟩
          have hr215' : ((w210.2.1 : Nat) : Int) - 2 * H209.1 7 4 F.2.2.1 - 13 * H209.1 3 1 F.2.1 - H209.1 3 3 F.2.1 ≤ ((w.2.1 : Nat) : Int) - 2 * H153.1 7 4 F.2.2.1 - 13 * H153.1 3 1 F.2.1 - H153.1 3 3 F.2.1 + (0) := hr215
          have hr215s' : ((w210.2.2 : Nat) : Int) - 18 * H209.1 7 4 F.2.2.1 - 700 * H209.1 3 1 F.2.1 - 6 * H209.1 3 3 F.2.1 ≤ ((w.2.2 : Nat) : Int) - 18 * H153.1 7 4 F.2.2.1 - 700 * H153.1 3 1 F.2.1 - 6 * H153.1 3 3 F.2.1 + 10 * (0) := hr215s
          have hE214 : cEx T [30032, 30033, 30034, 30035, 30036, 30037, 30038, 30039, 804, 808, 809, 811] H209 H := cEx.trans ehE214 hE155 hS (by decide)
          have hS213 : ∀ k p, T k p → T211 k p := fun k p z => shS213 k p (hS k p z)
          have g216 : H209.1 9 0 t = H153.1 9 0 t := (ehE214.1 9 0 t ta1).1 (by decide)
          have g217 : H209.1 9 4 t = H153.1 9 4 t := (ehE214.1 9 4 t ta1).1 (by decide)
          have g218 : H209.1 9 1 t = H153.1 9 1 t := (ehE214.1 9 1 t ta1).1 (by decide)
          have g219 : H209.1 7 4 F.2.2.1 = H153.1 7 4 F.2.2.1 := (ehE214.1 7 4 F.2.2.1 hI154.top.2.2.1).1 (by decide)
          have g220 : H209.1 3 1 F.2.1 = H153.1 3 1 F.2.1 := (ehE214.1 3 1 F.2.1 hI154.top.2.1).1 (by decide)
          have g221 : H209.1 3 3 F.2.1 = H153.1 3 3 F.2.1 := (ehE214.1 3 3 F.2.1 hI154.top.2.1).1 (by decide)
          have t222 : T211 8 a0 := shS213 _ _ ta0
          have t223 : T211 9 t := shS213 _ _ ta1
          obtain rfl := hv
          try dsimp only [Option.toList, List.append, List.cons_append, List.nil_append]
          refine J.run0 2 rfl ?_
          try dsimp only
          exact J.retb rfl rfl rfl (show (1 : Int) = 0 ∨ (1 : Int) = 1 by omega) ⟨_, rfl, T211, hI212, hS213, hE214, (show ((w210.2.1 : Nat) : Int) - 2 * H209.1 7 4 F.2.2.1 - 13 * H209.1 3 1 F.2.1 - H209.1 3 3 F.2.1 ≤ ((w.2.1 : Nat) : Int) - 2 * H.1 7 4 F.2.2.1 - 13 * H.1 3 1 F.2.1 - H.1 3 3 F.2.1 + (0) by omega), (show ((w210.2.2 : Nat) : Int) - 18 * H209.1 7 4 F.2.2.1 - 700 * H209.1 3 1 F.2.1 - 6 * H209.1 3 3 F.2.1 ≤ ((w.2.2 : Nat) : Int) - 18 * H.1 7 4 F.2.2.1 - 700 * H.1 3 1 F.2.1 - 6 * H.1 3 3 F.2.1 + 10 * (0) by omega), _, rfl, (show ((1 : Int)) = 0 ∨ ((1 : Int)) = 1 from by omega)⟩
        by_cases c224 : H153.1 9 0 t = 3
        · refine J.tsw rfl rfl rfl ⟨by omega, by omega⟩ (t := 162) (by rw [c224]; rfl) ?_
          have f225 : (-1) ≤ H153.1 9 2 t ∧ H153.1 9 2 t ≤ 199 := hI154.v 9 2 t ta1
          have f226 : -2147483648 ≤ jshl ((1 : Int)) (H153.1 9 2 t) ∧ jshl ((1 : Int)) (H153.1 9 2 t) ≤ 2147483647 := jI32 _
          have f227 : -2147483648 ≤ jxor (jshl ((1 : Int)) (H153.1 9 2 t)) ((-1 : Int)) ∧ jxor (jshl ((1 : Int)) (H153.1 9 2 t)) ((-1 : Int)) ≤ 2147483647 := jI32 _
          have f228 : -2147483648 ≤ jand (H153.1 8 9 a0) (jxor (jshl ((1 : Int)) (H153.1 9 2 t)) ((-1 : Int))) ∧ jand (H153.1 8 9 a0) (jxor (jshl ((1 : Int)) (H153.1 9 2 t)) ((-1 : Int))) ≤ 2147483647 := jI32 _
          refine J.run 11 rfl ⟨(hI154.is ta0), (hI154.is ta1), (hI154.is ta0)⟩ ?_
          try dsimp only
          refine J.gn fun H229 hH229 => ?_
          have hI230 : cJ F T w H229 := by rw [hH229]; exact cJ.wi hI154 trivial rfl rfl
          have hE231 : cEx T [30032, 30033, 30034, 30035, 30036, 30037, 30038, 30039, 804, 808, 809, 811] H229 H := by rw [hH229]; exact cEx.wi hE155 (by decide)
          have g232 : H229.1 9 0 t = H153.1 9 0 t := by subst hH229; rfl
          have g233 : H229.1 8 4 a0 = H153.1 8 4 a0 := by subst hH229; rfl
          have g234 : H229.1 8 8 a0 = H153.1 8 8 a0 := by subst hH229; rfl
          have g235 : H229.1 9 4 t = H153.1 9 4 t := by subst hH229; rfl
          have g236 : H229.1 9 1 t = H153.1 9 1 t := by subst hH229; rfl
          have g237 : H229.1 7 4 F.2.2.1 = H153.1 7 4 F.2.2.1 := by subst hH229; rfl
          have g238 : H229.1 3 1 F.2.1 = H153.1 3 1 F.2.1 := by subst hH229; rfl
          have g239 : H229.1 3 3 F.2.1 = H153.1 3 3 F.2.1 := by subst hH229; rfl
          have g240 : H229.1 9 2 t = H153.1 9 2 t := by subst hH229; rfl
          have g241 : H229.1 8 9 a0 = jand (H153.1 8 9 a0) (jxor (jshl ((1 : Int)) (H153.1 9 2 t)) ((-1 : Int))) := by subst hH229; exact if_pos rfl
          clear hH229
          refine J.run0 2 rfl ?_
          try dsimp only
          exact J.retb rfl rfl rfl (show (1 : Int) = 0 ∨ (1 : Int) = 1 by omega) ⟨_, rfl, T, hI230, hS, hE231, (show ((w.2.1 : Nat) : Int) - 2 * H229.1 7 4 F.2.2.1 - 13 * H229.1 3 1 F.2.1 - H229.1 3 3 F.2.1 ≤ ((w.2.1 : Nat) : Int) - 2 * H.1 7 4 F.2.2.1 - 13 * H.1 3 1 F.2.1 - H.1 3 3 F.2.1 + (0) by omega), (show ((w.2.2 : Nat) : Int) - 18 * H229.1 7 4 F.2.2.1 - 700 * H229.1 3 1 F.2.1 - 6 * H229.1 3 3 F.2.1 ≤ ((w.2.2 : Nat) : Int) - 18 * H.1 7 4 F.2.2.1 - 700 * H.1 3 1 F.2.1 - 6 * H.1 3 3 F.2.1 + 10 * (0) by omega), _, rfl, (show ((1 : Int)) = 0 ∨ ((1 : Int)) = 1 from by omega)⟩
        have c242 : H153.1 9 0 t < 0 ∨ 3 < H153.1 9 0 t := by omega
        refine J.tsw rfl rfl rfl ⟨by omega, by omega⟩ (t := 182) (by rw [if_pos c242]; rfl) ?_
        have f243 : (-1) ≤ H153.1 9 4 t ∧ H153.1 9 4 t ≤ 15 := hI154.v 9 4 t ta1
        refine J.run 5 rfl ⟨(hI154.is ta1), (hI154.is ta1)⟩ ?_
        try dsimp only
        refine J.inv rfl rfl rfl rfl rfl rfl ((jD_w rfl).mpr (hI154.is ta0)) rfl rfl rfl rfl rfl (c_X8_punish (a0 := a0) (node := H153.1 9 4 t) (height := H153.1 9 5 t) hI154 ta0 (show 0 ≤ (H153.1 9 4 t) ∧ (H153.1 9 4 t) ≤ 15 from ⟨by omega, by omega⟩)) ?_
        rintro v w245 H244 ⟨T246, hI247, shS248, ehE249, hr250, hr250s, hv⟩
        have hr250' : ((w245.2.1 : Nat) : Int) - 2 * H244.1 7 4 F.2.2.1 - 13 * H244.1 3 1 F.2.1 - H244.1 3 3 F.2.1 ≤ ((w.2.1 : Nat) : Int) - 2 * H153.1 7 4 F.2.2.1 - 13 * H153.1 3 1 F.2.1 - H153.1 3 3 F.2.1 + (0) := hr250
        have hr250s' : ((w245.2.2 : Nat) : Int) - 18 * H244.1 7 4 F.2.2.1 - 700 * H244.1 3 1 F.2.1 - 6 * H244.1 3 3 F.2.1 ≤ ((w.2.2 : Nat) : Int) - 18 * H153.1 7 4 F.2.2.1 - 700 * H153.1 3 1 F.2.1 - 6 * H153.1 3 3 F.2.1 + 10 * (0) := hr250s
        have hE249 : cEx T [30032, 30033, 30034, 30035, 30036, 30037, 30038, 30039, 804, 808, 809, 811] H244 H := cEx.trans ehE249 hE155 hS (by decide)
        have hS248 : ∀ k p, T k p → T246 k p := fun k p z => shS248 k p (hS k p z)
        have g251 : H244.1 9 0 t = H153.1 9 0 t := (ehE249.1 9 0 t ta1).1 (by decide)
        have g252 : H244.1 8 4 a0 = H153.1 8 4 a0 := (ehE249.1 8 4 a0 ta0).1 (by decide)
        have g253 : H244.1 8 8 a0 = H153.1 8 8 a0 := (ehE249.1 8 8 a0 ta0).1 (by decide)
        have g254 : H244.1 9 4 t = H153.1 9 4 t := (ehE249.1 9 4 t ta1).1 (by decide)
        have g255 : H244.1 9 1 t = H153.1 9 1 t := (ehE249.1 9 1 t ta1).1 (by decide)
        have g256 : H244.1 7 4 F.2.2.1 = H153.1 7 4 F.2.2.1 := (ehE249.1 7 4 F.2.2.1 hI154.top.2.2.1).1 (by decide)
        have g257 : H244.1 3 1 F.2.1 = H153.1 3 1 F.2.1 := (ehE249.1 3 1 F.2.1 hI154.top.2.1).1 (by decide)
        have g258 : H244.1 3 3 F.2.1 = H153.1 3 3 F.2.1 := (ehE249.1 3 3 F.2.1 hI154.top.2.1).1 (by decide)
        have t259 : T246 8 a0 := shS248 _ _ ta0
        have t260 : T246 9 t := shS248 _ _ ta1
        obtain rfl := hv
        try dsimp only [Option.toList, List.append, List.cons_append, List.nil_append]
        refine J.run0 1 rfl ?_
        try dsimp only
        exact J.retb rfl rfl rfl (show (1 : Int) = 0 ∨ (1 : Int) = 1 by omega) ⟨_, rfl, T246, hI247, hS248, hE249, (show ((w245.2.1 : Nat) : Int) - 2 * H244.1 7 4 F.2.2.1 - 13 * H244.1 3 1 F.2.1 - H244.1 3 3 F.2.1 ≤ ((w.2.1 : Nat) : Int) - 2 * H.1 7 4 F.2.2.1 - 13 * H.1 3 1 F.2.1 - H.1 3 3 F.2.1 + (0) by omega), (show ((w245.2.2 : Nat) : Int) - 18 * H244.1 7 4 F.2.2.1 - 700 * H244.1 3 1 F.2.1 - 6 * H244.1 3 3 F.2.1 ≤ ((w.2.2 : Nat) : Int) - 18 * H.1 7 4 F.2.2.1 - 700 * H.1 3 1 F.2.1 - 6 * H.1 3 3 F.2.1 + 10 * (0) by omega), _, rfl, (show ((1 : Int)) = 0 ∨ ((1 : Int)) = 1 from by omega)⟩
      · have c261 : ¬ (¬ (x138 = (0 : Int))) := hc
        clear hc
        refine J.run0 1 rfl ?_
        try dsimp only
        exact J.retb rfl rfl rfl (show (0 : Int) = 0 ∨ (0 : Int) = 1 by omega) ⟨_, rfl, T, hI, hS, hE, (show ((w.2.1 : Nat) : Int) - 2 * H.1 7 4 F.2.2.1 - 13 * H.1 3 1 F.2.1 - H.1 3 3 F.2.1 ≤ ((w.2.1 : Nat) : Int) - 2 * H.1 7 4 F.2.2.1 - 13 * H.1 3 1 F.2.1 - H.1 3 3 F.2.1 + (0) by omega), (show ((w.2.2 : Nat) : Int) - 18 * H.1 7 4 F.2.2.1 - 700 * H.1 3 1 F.2.1 - 6 * H.1 3 3 F.2.1 ≤ ((w.2.2 : Nat) : Int) - 18 * H.1 7 4 F.2.2.1 - 700 * H.1 3 1 F.2.1 - 6 * H.1 3 3 F.2.1 + 10 * (0) by omega), _, rfl, (show ((0 : Int)) = 0 ∨ ((0 : Int)) = 1 from by omega)⟩
    · have c262 : ¬ (¬ (H.1 9 0 t = (2 : Int))) := hc
      clear hc
      have f263 : 0 ≤ H.1 9 1 t ∧ H.1 9 1 t ≤ 199 := hI.v 9 1 t ta1
      have f264 : (-1) ≤ H.1 9 2 t ∧ H.1 9 2 t ≤ 199 := hI.v 9 2 t ta1
      refine J.run 5 rfl ⟨(hI.is ta1), (hI.is ta1)⟩ ?_
      try dsimp only
      refine J.inv rfl rfl rfl rfl rfl rfl ((jD_w rfl).mpr (hI.is ta0)) rfl rfl rfl rfl rfl (c_X8_placeOf (a0 := a0) (account := H.1 9 1 t) (node := H.1 9 2 t) hI ta0 ) ?_
      rintro v w H ⟨rfl, rfl, hv⟩
      obtain ⟨x265, rfl, r266⟩ := hv
      have r266' : -1 ≤ x265 ∧ x265 < H.1 8 4 a0 ∧ x265 ≤ 95 := r266
      try dsimp only [Option.toList, List.append, List.cons_append, List.nil_append]
      refine J.run0 7 rfl ?_
      try dsimp only
      refine J.inv rfl rfl rfl rfl rfl rfl ((jD_w rfl).mpr (hI.is ta0)) rfl rfl rfl rfl rfl (c_X8_allows (a0 := a0) (t := t) (place := x265) (proposer := proposer) (height := height) hI ta0 ta1 (show -1 ≤ x265 ∧ x265 < 96 from ⟨by omega, by omega⟩) (show 0 ≤ proposer ∧ proposer ≤ 15 from ⟨by omega, by omega⟩)) ?_
      rintro v w H ⟨rfl, rfl, hv⟩
      obtain ⟨x267, rfl, r268⟩ := hv
      have r268' : (x267 = 0 ∨ x267 = 1) ∧ (x267 = 1 → H.1 9 0 t = 1 → x265 = -1 → H.1 8 4 a0 < 96) ∧ (x267 = 1 → H.1 9 0 t = 2 → ¬ x265 = -1 ∧ H.1 8 8 a0 < 32) ∧ (x267 = 1 → H.1 9 0 t = 4 → ¬ H.1 9 4 t = -1) := r268
      try dsimp only [Option.toList, List.append, List.cons_append, List.nil_append]
      refine J.ifc rfl rfl rfl (show -2147483648 ≤ x267 ∧ x267 ≤ 2147483647 from ⟨by omega, by omega⟩) (fun hc => ?_) (fun hc => ?_)
      · have c269 : ¬ (x267 = (0 : Int)) := hc
        clear hc
        refine J.run 9 rfl ⟨⟨(hI.is ta0), hI.is (hI.r 8 0 32 a0 rfl ta0)⟩, (hI.is ta1), (show w.1 32 a0 ∧ 0 ≤ H.1 9 1 t ∧ H.1 9 1 t < 200 from ⟨hI.is (hI.r 8 0 32 a0 rfl ta0), by omega, by omega⟩), (show w.1 32 a0 ∧ 0 ≤ H.1 9 1 t ∧ H.1 9 1 t < 200 from ⟨hI.is (hI.r 8 0 32 a0 rfl ta0), by omega, by omega⟩)⟩ ?_
        try dsimp only
        refine J.gn fun H270 hH270 => ?_
        have hI271 : cJ F T w H270 := by rw [hH270]; exact cI.wRj hI (hI.r 8 0 32 a0 rfl ta0) trivial
        have hE272 : cEx T [30032, 30033, 30034, 30035, 30036, 30037, 30038, 30039, 804, 808, 809, 811] H270 H := by rw [hH270]; exact cEx.wR hE (by decide)
        have g273 : H270.1 9 0 t = H.1 9 0 t := by subst hH270; rfl
        have g274 : H270.1 8 4 a0 = H.1 8 4 a0 := by subst hH270; rfl
        have g275 : H270.1 8 8 a0 = H.1 8 8 a0 := by subst hH270; rfl
        have g276 : H270.1 9 4 t = H.1 9 4 t := by subst hH270; rfl
        have g277 : H270.1 9 1 t = H.1 9 1 t := by subst hH270; rfl
        have g278 : H270.1 9 2 t = H.1 9 2 t := by subst hH270; rfl
        have g279 : H270.1 7 4 F.2.2.1 = H.1 7 4 F.2.2.1 := by subst hH270; rfl
        have g280 : H270.1 3 1 F.2.1 = H.1 3 1 F.2.1 := by subst hH270; rfl
        have g281 : H270.1 3 3 F.2.1 = H.1 3 3 F.2.1 := by subst hH270; rfl
        clear hH270
        refine J.run 8 rfl ⟨⟨(hI271.is ta0), hI271.is (hI271.r 8 0 32 a0 rfl ta0)⟩, (show w.1 32 a0 ∧ 0 ≤ proposer ∧ proposer < 200 from ⟨hI271.is (hI271.r 8 0 32 a0 rfl ta0), by omega, by omega⟩), (show w.1 32 a0 ∧ 0 ≤ proposer ∧ proposer < 200 from ⟨hI271.is (hI271.r 8 0 32 a0 rfl ta0), by omega, by omega⟩)⟩ ?_
        try dsimp only
        refine J.gn fun H282 hH282 => ?_
        have hI283 : cJ F T w H282 := by rw [hH282]; exact cI.wRj hI271 (hI271.r 8 0 32 a0 rfl ta0) trivial
        have hE284 : cEx T [30032, 30033, 30034, 30035, 30036, 30037, 30038, 30039, 804, 808, 809, 811] H282 H := by rw [hH282]; exact cEx.wR hE272 (by decide)
        have g285 : H282.1 9 0 t = H270.1 9 0 t := by subst hH282; rfl
        have g286 : H282.1 8 4 a0 = H270.1 8 4 a0 := by subst hH282; rfl
        have g287 : H282.1 8 8 a0 = H270.1 8 8 a0 := by subst hH282; rfl
        have g288 : H282.1 9 4 t = H270.1 9 4 t := by subst hH282; rfl
        have g289 : H282.1 9 1 t = H270.1 9 1 t := by subst hH282; rfl
        have g290 : H282.1 9 2 t = H270.1 9 2 t := by subst hH282; rfl
        have g291 : H282.1 7 4 F.2.2.1 = H270.1 7 4 F.2.2.1 := by subst hH282; rfl
        have g292 : H282.1 3 1 F.2.1 = H270.1 3 1 F.2.1 := by subst hH282; rfl
        have g293 : H282.1 3 3 F.2.1 = H270.1 3 3 F.2.1 := by subst hH282; rfl
        clear hH282
        have f294 : 0 ≤ H282.1 9 0 t ∧ H282.1 9 0 t ≤ 4 := hI283.v 9 0 t ta1
        refine J.run 2 rfl (hI283.is ta1) ?_
        try dsimp only
        by_cases c295 : H282.1 9 0 t = 0
        · refine J.tsw rfl rfl rfl ⟨by omega, by omega⟩ (t := 104) (by rw [c295]; rfl) ?_
          have f296 : 0 ≤ H282.1 9 1 t ∧ H282.1 9 1 t ≤ 199 := hI283.v 9 1 t ta1
          refine J.run 10 rfl ⟨⟨(hI283.is ta0), hI283.is (hI283.r 8 0 32 a0 rfl ta0)⟩, (hI283.is ta1), (show w.1 32 a0 ∧ 0 ≤ H282.1 9 1 t ∧ H282.1 9 1 t < 200 from ⟨hI283.is (hI283.r 8 0 32 a0 rfl ta0), by omega, by omega⟩), (hI283.is ta1), (show w.1 32 a0 ∧ 0 ≤ H282.1 9 1 t ∧ H282.1 9 1 t < 200 from ⟨hI283.is (hI283.r 8 0 32 a0 rfl ta0), by omega, by omega⟩)⟩ ?_
          try dsimp only
          refine J.gn fun H297 hH297 => ?_
          have hI298 : cJ F T w H297 := by rw [hH297]; exact cI.wRj hI283 (hI283.r 8 0 32 a0 rfl ta0) trivial
          have hE299 : cEx T [30032, 30033, 30034, 30035, 30036, 30037, 30038, 30039, 804, 808, 809, 811] H297 H := by rw [hH297]; exact cEx.wR hE284 (by decide)
          have g300 : H297.1 9 0 t = H282.1 9 0 t := by subst hH297; rfl
          have g301 : H297.1 8 4 a0 = H282.1 8 4 a0 := by subst hH297; rfl
          have g302 : H297.1 8 8 a0 = H282.1 8 8 a0 := by subst hH297; rfl
          have g303 : H297.1 9 4 t = H282.1 9 4 t := by subst hH297; rfl
          have g304 : H297.1 9 1 t = H282.1 9 1 t := by subst hH297; rfl
          have g305 : H297.1 9 2 t = H282.1 9 2 t := by subst hH297; rfl
          have g306 : H297.1 7 4 F.2.2.1 = H282.1 7 4 F.2.2.1 := by subst hH297; rfl
          have g307 : H297.1 3 1 F.2.1 = H282.1 3 1 F.2.1 := by subst hH297; rfl
          have g308 : H297.1 3 3 F.2.1 = H282.1 3 3 F.2.1 := by subst hH297; rfl
          clear hH297
          refine J.run 2 rfl ⟨(hI298.is ta0), hI298.is (hI298.r 8 0 32 a0 rfl ta0)⟩ ?_
          try dsimp only
          have hx := hI298.tx ta1
          have f309 : (-1) ≤ H297.1 9 2 t ∧ H297.1 9 2 t ≤ 199 := hI298.v 9 2 t ta1
          refine J.run 8 rfl ⟨(hI298.is ta1), (show w.1 32 a0 ∧ 0 ≤ H297.1 9 2 t ∧ H297.1 9 2 t < 200 from ⟨hI298.is (hI298.r 8 0 32 a0 rfl ta0), by omega, by omega⟩), (hI298.is ta1), (show w.1 32 a0 ∧ 0 ≤ H297.1 9 2 t ∧ H297.1 9 2 t < 200 from ⟨hI298.is (hI298.r 8 0 32 a0 rfl ta0), by omega, by omega⟩)⟩ ?_
          try dsimp only
          refine J.gn fun H310 hH310 => ?_
          have hI311 : cJ F T w H310 := by rw [hH310]; exact cI.wRj hI298 (hI298.r 8 0 32 a0 rfl ta0) trivial
          have hE312 : cEx T [30032, 30033, 30034, 30035, 30036, 30037, 30038, 30039, 804, 808, 809, 811] H310 H := by rw [hH310]; exact cEx.wR hE299 (by decide)
          have g313 : H310.1 9 0 t = H297.1 9 0 t := by subst hH310; rfl
          have g314 : H310.1 8 4 a0 = H297.1 8 4 a0 := by subst hH310; rfl
          have g315 : H310.1 8 8 a0 = H297.1 8 8 a0 := by subst hH310; rfl
          have g316 : H310.1 9 4 t = H297.1 9 4 t := by subst hH310; rfl
          have g317 : H310.1 9 1 t = H297.1 9 1 t := by subst hH310; rfl
          have g318 : H310.1 9 2 t = H297.1 9 2 t := by subst hH310; rfl
          have g319 : H310.1 7 4 F.2.2.1 = H297.1 7 4 F.2.2.1 := by subst hH310; rfl
          have g320 : H310.1 3 1 F.2.1 = H297.1 3 1 F.2.1 := by subst hH310; rfl
          have g321 : H310.1 3 3 F.2.1 = H297.1 3 3 F.2.1 := by subst hH310; rfl
          clear hH310
          refine J.run0 2 rfl ?_
          try dsimp only
          exact J.retb rfl rfl rfl (show (1 : Int) = 0 ∨ (1 : Int) = 1 by omega) ⟨_, rfl, T, hI311, hS, hE312, (show ((w.2.1 : Nat) : Int) - 2 * H310.1 7 4 F.2.2.1 - 13 * H310.1 3 1 F.2.1 - H310.1 3 3 F.2.1 ≤ ((w.2.1 : Nat) : Int) - 2 * H.1 7 4 F.2.2.1 - 13 * H.1 3 1 F.2.1 - H.1 3 3 F.2.1 + (0) by omega), (show ((w.2.2 : Nat) : Int) - 18 * H310.1 7 4 F.2.2.1 - 700 * H310.1 3 1 F.2.1 - 6 * H310.1 3 3 F.2.1 ≤ ((w.2.2 : Nat) : Int) - 18 * H.1 7 4 F.2.2.1 - 700 * H.1 3 1 F.2.1 - 6 * H.1 3 3 F.2.1 + 10 * (0) by omega), _, rfl, (show ((1 : Int)) = 0 ∨ ((1 : Int)) = 1 from by omega)⟩
        by_cases c322 : H282.1 9 0 t = 1
        · refine J.tsw rfl rfl rfl ⟨by omega, by omega⟩ (t := 139) (by rw [c322]; rfl) ?_
          refine J.run0 3 rfl ?_
          try dsimp only
          refine J.inv rfl rfl rfl rfl rfl rfl ((jD_w rfl).mpr (hI283.is ta0)) rfl rfl rfl rfl rfl (c_X8_bond (a0 := a0) (t := t) (place := x265) hI283 ta0 ta1 (show -1 ≤ x265 ∧ x265 < 96 from ⟨by omega, by omega⟩) (show x265 = -1 → H282.1 8 4 a0 < 96 from by omega) (show H282.1 9 0 t = 1 from by omega)) ?_
          rintro v w324 H323 ⟨T325, hI326, shS327, ehE328, hr329, hr329s, hv⟩
          have hr329' : ((w324.2.1 : Nat) : Int) - 2 * H323.1 7 4 F.2.2.1 - 13 * H323.1 3 1 F.2.1 - H323.1 3 3 F.2.1 ≤ ((w.2.1 : Nat) : Int) - 2 * H282.1 7 4 F.2.2.1 - 13 * H282.1 3 1 F.2.1 - H282.1 3 3 F.2.1 + (0) := hr329
          have hr329s' : ((w324.2.2 : Nat) : Int) - 18 * H323.1 7 4 F.2.2.1 - 700 * H323.1 3 1 F.2.1 - 6 * H323.1 3 3 F.2.1 ≤ ((w.2.2 : Nat) : Int) - 18 * H282.1 7 4 F.2.2.1 - 700 * H282.1 3 1 F.2.1 - 6 * H282.1 3 3 F.2.1 + 10 * (0) := hr329s
          have hE328 : cEx T [30032, 30033, 30034, 30035, 30036, 30037, 30038, 30039, 804, 808, 809, 811] H323 H := cEx.trans ehE328 hE284 hS (by decide)
          have hS327 : ∀ k p, T k p → T325 k p := fun k p z => shS327 k p (hS k p z)
          have g330 : H323.1 9 0 t = H282.1 9 0 t := (ehE328.1 9 0 t ta1).1 (by decide)
          have g331 : H323.1 8 8 a0 = H282.1 8 8 a0 := (ehE328.1 8 8 a0 ta0).1 (by decide)
          have g332 : H323.1 9 4 t = H282.1 9 4 t := (ehE328.1 9 4 t ta1).1 (by decide)
          have g333 : H323.1 9 1 t = H282.1 9 1 t := (ehE328.1 9 1 t ta1).1 (by decide)
          have g334 : H323.1 9 2 t = H282.1 9 2 t := (ehE328.1 9 2 t ta1).1 (by decide)
          have g335 : H323.1 7 4 F.2.2.1 = H282.1 7 4 F.2.2.1 := (ehE328.1 7 4 F.2.2.1 hI283.top.2.2.1).1 (by decide)
          have g336 : H323.1 3 1 F.2.1 = H282.1 3 1 F.2.1 := (ehE328.1 3 1 F.2.1 hI283.top.2.1).1 (by decide)
          have g337 : H323.1 3 3 F.2.1 = H282.1 3 3 F.2.1 := (ehE328.1 3 3 F.2.1 hI283.top.2.1).1 (by decide)
          have t338 : T325 8 a0 := shS327 _ _ ta0
          have t339 : T325 9 t := shS327 _ _ ta1
          obtain rfl := hv
          try dsimp only [Option.toList, List.append, List.cons_append, List.nil_append]
          refine J.run0 2 rfl ?_
          try dsimp only
          exact J.retb rfl rfl rfl (show (1 : Int) = 0 ∨ (1 : Int) = 1 by omega) ⟨_, rfl, T325, hI326, hS327, hE328, (show ((w324.2.1 : Nat) : Int) - 2 * H323.1 7 4 F.2.2.1 - 13 * H323.1 3 1 F.2.1 - H323.1 3 3 F.2.1 ≤ ((w.2.1 : Nat) : Int) - 2 * H.1 7 4 F.2.2.1 - 13 * H.1 3 1 F.2.1 - H.1 3 3 F.2.1 + (0) by omega), (show ((w324.2.2 : Nat) : Int) - 18 * H323.1 7 4 F.2.2.1 - 700 * H323.1 3 1 F.2.1 - 6 * H323.1 3 3 F.2.1 ≤ ((w.2.2 : Nat) : Int) - 18 * H.1 7 4 F.2.2.1 - 700 * H.1 3 1 F.2.1 - 6 * H.1 3 3 F.2.1 + 10 * (0) by omega), _, rfl, (show ((1 : Int)) = 0 ∨ ((1 : Int)) = 1 from by omega)⟩
        by_cases c340 : H282.1 9 0 t = 2
        · refine J.tsw rfl rfl rfl ⟨by omega, by omega⟩ (t := 149) (by rw [c340]; rfl) ?_
          refine J.run0 6 rfl ?_
          try dsimp only
          refine J.inv rfl rfl rfl rfl rfl rfl ((jD_w rfl).mpr (hI283.is ta0)) rfl rfl rfl rfl rfl (c_X8_unbond (a0 := a0) (t := t) (place := x265) (due := height + (4 : Int)) hI283 ta0 ta1 (show 0 ≤ x265 ∧ x265 < H282.1 8 4 a0 from ⟨by omega, by omega⟩) (show H282.1 8 8 a0 < 32 from by omega)) ?_
          rintro v w342 H341 ⟨T343, hI344, shS345, ehE346, hr347, hr347s, hv⟩
          have hr347' : ((w342.2.1 : Nat) : Int) - 2 * H341.1 7 4 F.2.2.1 - 13 * H341.1 3 1 F.2.1 - H341.1 3 3 F.2.1 ≤ ((w.2.1 : Nat) : Int) - 2 * H282.1 7 4 F.2.2.1 - 13 * H282.1 3 1 F.2.1 - H282.1 3 3 F.2.1 + (0) := hr347
          have hr347s' : ((w342.2.2 : Nat) : Int) - 18 * H341.1 7 4 F.2.2.1 - 700 * H341.1 3 1 F.2.1 - 6 * H341.1 3 3 F.2.1 ≤ ((w.2.2 : Nat) : Int) - 18 * H282.1 7 4 F.2.2.1 - 700 * H282.1 3 1 F.2.1 - 6 * H282.1 3 3 F.2.1 + 10 * (0) := hr347s
          have hE346 : cEx T [30032, 30033, 30034, 30035, 30036, 30037, 30038, 30039, 804, 808, 809, 811] H341 H := cEx.trans ehE346 hE284 hS (by decide)
          have hS345 : ∀ k p, T k p → T343 k p := fun k p z => shS345 k p (hS k p z)
          have g348 : H341.1 9 0 t = H282.1 9 0 t := (ehE346.1 9 0 t ta1).1 (by decide)
          have g349 : H341.1 9 4 t = H282.1 9 4 t := (ehE346.1 9 4 t ta1).1 (by decide)
          have g350 : H341.1 9 1 t = H282.1 9 1 t := (ehE346.1 9 1 t ta1).1 (by decide)
          have g351 : H341.1 9 2 t = H282.1 9 2 t := (ehE346.1 9 2 t ta1).1 (by decide)
          have g352 : H341.1 7 4 F.2.2.1 = H282.1 7 4 F.2.2.1 := (ehE346.1 7 4 F.2.2.1 hI283.top.2.2.1).1 (by decide)
          have g353 : H341.1 3 1 F.2.1 = H282.1 3 1 F.2.1 := (ehE346.1 3 1 F.2.1 hI283.top.2.1).1 (by decide)
          have g354 : H341.1 3 3 F.2.1 = H282.1 3 3 F.2.1 := (ehE346.1 3 3 F.2.1 hI283.top.2.1).1 (by decide)
          have t355 : T343 8 a0 := shS345 _ _ ta0
          have t356 : T343 9 t := shS345 _ _ ta1
          obtain rfl := hv
          try dsimp only [Option.toList, List.append, List.cons_append, List.nil_append]
          refine J.run0 2 rfl ?_
          try dsimp only
          exact J.retb rfl rfl rfl (show (1 : Int) = 0 ∨ (1 : Int) = 1 by omega) ⟨_, rfl, T343, hI344, hS345, hE346, (show ((w342.2.1 : Nat) : Int) - 2 * H341.1 7 4 F.2.2.1 - 13 * H341.1 3 1 F.2.1 - H341.1 3 3 F.2.1 ≤ ((w.2.1 : Nat) : Int) - 2 * H.1 7 4 F.2.2.1 - 13 * H.1 3 1 F.2.1 - H.1 3 3 F.2.1 + (0) by omega), (show ((w342.2.2 : Nat) : Int) - 18 * H341.1 7 4 F.2.2.1 - 700 * H341.1 3 1 F.2.1 - 6 * H341.1 3 3 F.2.1 ≤ ((w.2.2 : Nat) : Int) - 18 * H.1 7 4 F.2.2.1 - 700 * H.1 3 1 F.2.1 - 6 * H.1 3 3 F.2.1 + 10 * (0) by omega), _, rfl, (show ((1 : Int)) = 0 ∨ ((1 : Int)) = 1 from by omega)⟩
        by_cases c357 : H282.1 9 0 t = 3
        · refine J.tsw rfl rfl rfl ⟨by omega, by omega⟩ (t := 162) (by rw [c357]; rfl) ?_
          have f358 : (-1) ≤ H282.1 9 2 t ∧ H282.1 9 2 t ≤ 199 := hI283.v 9 2 t ta1
          have f359 : -2147483648 ≤ jshl ((1 : Int)) (H282.1 9 2 t) ∧ jshl ((1 : Int)) (H282.1 9 2 t) ≤ 2147483647 := jI32 _
          have f360 : -2147483648 ≤ jxor (jshl ((1 : Int)) (H282.1 9 2 t)) ((-1 : Int)) ∧ jxor (jshl ((1 : Int)) (H282.1 9 2 t)) ((-1 : Int)) ≤ 2147483647 := jI32 _
          have f361 : -2147483648 ≤ jand (H282.1 8 9 a0) (jxor (jshl ((1 : Int)) (H282.1 9 2 t)) ((-1 : Int))) ∧ jand (H282.1 8 9 a0) (jxor (jshl ((1 : Int)) (H282.1 9 2 t)) ((-1 : Int))) ≤ 2147483647 := jI32 _
          refine J.run 11 rfl ⟨(hI283.is ta0), (hI283.is ta1), (hI283.is ta0)⟩ ?_
          try dsimp only
          refine J.gn fun H362 hH362 => ?_
          have hI363 : cJ F T w H362 := by rw [hH362]; exact cJ.wi hI283 trivial rfl rfl
          have hE364 : cEx T [30032, 30033, 30034, 30035, 30036, 30037, 30038, 30039, 804, 808, 809, 811] H362 H := by rw [hH362]; exact cEx.wi hE284 (by decide)
          have g365 : H362.1 9 0 t = H282.1 9 0 t := by subst hH362; rfl
          have g366 : H362.1 8 4 a0 = H282.1 8 4 a0 := by subst hH362; rfl
          have g367 : H362.1 8 8 a0 = H282.1 8 8 a0 := by subst hH362; rfl
          have g368 : H362.1 9 4 t = H282.1 9 4 t := by subst hH362; rfl
          have g369 : H362.1 9 1 t = H282.1 9 1 t := by subst hH362; rfl
          have g370 : H362.1 9 2 t = H282.1 9 2 t := by subst hH362; rfl
          have g371 : H362.1 7 4 F.2.2.1 = H282.1 7 4 F.2.2.1 := by subst hH362; rfl
          have g372 : H362.1 3 1 F.2.1 = H282.1 3 1 F.2.1 := by subst hH362; rfl
          have g373 : H362.1 3 3 F.2.1 = H282.1 3 3 F.2.1 := by subst hH362; rfl
          have g374 : H362.1 8 9 a0 = jand (H282.1 8 9 a0) (jxor (jshl ((1 : Int)) (H282.1 9 2 t)) ((-1 : Int))) := by subst hH362; exact if_pos rfl
          clear hH362
          refine J.run0 2 rfl ?_
          try dsimp only
          exact J.retb rfl rfl rfl (show (1 : Int) = 0 ∨ (1 : Int) = 1 by omega) ⟨_, rfl, T, hI363, hS, hE364, (show ((w.2.1 : Nat) : Int) - 2 * H362.1 7 4 F.2.2.1 - 13 * H362.1 3 1 F.2.1 - H362.1 3 3 F.2.1 ≤ ((w.2.1 : Nat) : Int) - 2 * H.1 7 4 F.2.2.1 - 13 * H.1 3 1 F.2.1 - H.1 3 3 F.2.1 + (0) by omega), (show ((w.2.2 : Nat) : Int) - 18 * H362.1 7 4 F.2.2.1 - 700 * H362.1 3 1 F.2.1 - 6 * H362.1 3 3 F.2.1 ≤ ((w.2.2 : Nat) : Int) - 18 * H.1 7 4 F.2.2.1 - 700 * H.1 3 1 F.2.1 - 6 * H.1 3 3 F.2.1 + 10 * (0) by omega), _, rfl, (show ((1 : Int)) = 0 ∨ ((1 : Int)) = 1 from by omega)⟩
        have c375 : H282.1 9 0 t < 0 ∨ 3 < H282.1 9 0 t := by omega
        refine J.tsw rfl rfl rfl ⟨by omega, by omega⟩ (t := 182) (by rw [if_pos c375]; rfl) ?_
        have f376 : (-1) ≤ H282.1 9 4 t ∧ H282.1 9 4 t ≤ 15 := hI283.v 9 4 t ta1
        refine J.run 5 rfl ⟨(hI283.is ta1), (hI283.is ta1)⟩ ?_
        try dsimp only
        refine J.inv rfl rfl rfl rfl rfl rfl ((jD_w rfl).mpr (hI283.is ta0)) rfl rfl rfl rfl rfl (c_X8_punish (a0 := a0) (node := H282.1 9 4 t) (height := H282.1 9 5 t) hI283 ta0 (show 0 ≤ (H282.1 9 4 t) ∧ (H282.1 9 4 t) ≤ 15 from ⟨by omega, by omega⟩)) ?_
        rintro v w378 H377 ⟨T379, hI380, shS381, ehE382, hr383, hr383s, hv⟩
        have hr383' : ((w378.2.1 : Nat) : Int) - 2 * H377.1 7 4 F.2.2.1 - 13 * H377.1 3 1 F.2.1 - H377.1 3 3 F.2.1 ≤ ((w.2.1 : Nat) : Int) - 2 * H282.1 7 4 F.2.2.1 - 13 * H282.1 3 1 F.2.1 - H282.1 3 3 F.2.1 + (0) := hr383
        have hr383s' : ((w378.2.2 : Nat) : Int) - 18 * H377.1 7 4 F.2.2.1 - 700 * H377.1 3 1 F.2.1 - 6 * H377.1 3 3 F.2.1 ≤ ((w.2.2 : Nat) : Int) - 18 * H282.1 7 4 F.2.2.1 - 700 * H282.1 3 1 F.2.1 - 6 * H282.1 3 3 F.2.1 + 10 * (0) := hr383s
        have hE382 : cEx T [30032, 30033, 30034, 30035, 30036, 30037, 30038, 30039, 804, 808, 809, 811] H377 H := cEx.trans ehE382 hE284 hS (by decide)
        have hS381 : ∀ k p, T k p → T379 k p := fun k p z => shS381 k p (hS k p z)
        have g384 : H377.1 9 0 t = H282.1 9 0 t := (ehE382.1 9 0 t ta1).1 (by decide)
        have g385 : H377.1 8 4 a0 = H282.1 8 4 a0 := (ehE382.1 8 4 a0 ta0).1 (by decide)
        have g386 : H377.1 8 8 a0 = H282.1 8 8 a0 := (ehE382.1 8 8 a0 ta0).1 (by decide)
        have g387 : H377.1 9 4 t = H282.1 9 4 t := (ehE382.1 9 4 t ta1).1 (by decide)
        have g388 : H377.1 9 1 t = H282.1 9 1 t := (ehE382.1 9 1 t ta1).1 (by decide)
        have g389 : H377.1 9 2 t = H282.1 9 2 t := (ehE382.1 9 2 t ta1).1 (by decide)
        have g390 : H377.1 7 4 F.2.2.1 = H282.1 7 4 F.2.2.1 := (ehE382.1 7 4 F.2.2.1 hI283.top.2.2.1).1 (by decide)
        have g391 : H377.1 3 1 F.2.1 = H282.1 3 1 F.2.1 := (ehE382.1 3 1 F.2.1 hI283.top.2.1).1 (by decide)
        have g392 : H377.1 3 3 F.2.1 = H282.1 3 3 F.2.1 := (ehE382.1 3 3 F.2.1 hI283.top.2.1).1 (by decide)
        have t393 : T379 8 a0 := shS381 _ _ ta0
        have t394 : T379 9 t := shS381 _ _ ta1
        obtain rfl := hv
        try dsimp only [Option.toList, List.append, List.cons_append, List.nil_append]
        refine J.run0 1 rfl ?_
        try dsimp only
        exact J.retb rfl rfl rfl (show (1 : Int) = 0 ∨ (1 : Int) = 1 by omega) ⟨_, rfl, T379, hI380, hS381, hE382, (show ((w378.2.1 : Nat) : Int) - 2 * H377.1 7 4 F.2.2.1 - 13 * H377.1 3 1 F.2.1 - H377.1 3 3 F.2.1 ≤ ((w.2.1 : Nat) : Int) - 2 * H.1 7 4 F.2.2.1 - 13 * H.1 3 1 F.2.1 - H.1 3 3 F.2.1 + (0) by omega), (show ((w378.2.2 : Nat) : Int) - 18 * H377.1 7 4 F.2.2.1 - 700 * H377.1 3 1 F.2.1 - 6 * H377.1 3 3 F.2.1 ≤ ((w.2.2 : Nat) : Int) - 18 * H.1 7 4 F.2.2.1 - 700 * H.1 3 1 F.2.1 - 6 * H.1 3 3 F.2.1 + 10 * (0) by omega), _, rfl, (show ((1 : Int)) = 0 ∨ ((1 : Int)) = 1 from by omega)⟩
      · have c395 : ¬ (¬ (x267 = (0 : Int))) := hc
        clear hc
        refine J.run0 1 rfl ?_
        try dsimp only
        exact J.retb rfl rfl rfl (show (0 : Int) = 0 ∨ (0 : Int) = 1 by omega) ⟨_, rfl, T, hI, hS, hE, (show ((w.2.1 : Nat) : Int) - 2 * H.1 7 4 F.2.2.1 - 13 * H.1 3 1 F.2.1 - H.1 3 3 F.2.1 ≤ ((w.2.1 : Nat) : Int) - 2 * H.1 7 4 F.2.2.1 - 13 * H.1 3 1 F.2.1 - H.1 3 3 F.2.1 + (0) by omega), (show ((w.2.2 : Nat) : Int) - 18 * H.1 7 4 F.2.2.1 - 700 * H.1 3 1 F.2.1 - 6 * H.1 3 3 F.2.1 ≤ ((w.2.2 : Nat) : Int) - 18 * H.1 7 4 F.2.2.1 - 700 * H.1 3 1 F.2.1 - 6 * H.1 3 3 F.2.1 + 10 * (0) by omega), _, rfl, (show ((0 : Int)) = 0 ∨ ((0 : Int)) = 1 from by omega)⟩
end
-- M: X8_settle
section
variable {d : Nat} {F : cG} 
set_option maxRecDepth 20000 in
set_option maxHeartbeats 8000000 in
theorem c_X8_settle_l0 {a0 : Nat} {T0 : cP} {w0 : jW} {H0 : jH} (hI0 : cJ F T0 w0 H0) (ta0 : T0 8 a0)  : ∀ (m : Nat), (∀ (k : Int) (T : cP) (w : jW) (H : jH) (lv : jL), 96 - k < (m : Int) → (0 ≤ k ∧ k ≤ 96) → (((w.2.1 : Nat) : Int) - 2 * H.1 7 4 F.2.2.1 - 13 * H.1 3 1 F.2.1 - H.1 3 3 F.2.1 ≤ ((w0.2.1 : Nat) : Int) - 2 * H0.1 7 4 F.2.2.1 - 13 * H0.1 3 1 F.2.1 - H0.1 3 3 F.2.1 + (0)) → (((w.2.2 : Nat) : Int) - 18 * H.1 7 4 F.2.2.1 - 700 * H.1 3 1 F.2.1 - 6 * H.1 3 3 F.2.1 ≤ ((w0.2.2 : Nat) : Int) - 18 * H0.1 7 4 F.2.2.1 - 700 * H0.1 3 1 F.2.1 - 6 * H0.1 3 3 F.2.1 + 10 * (0)) → cJ F T w H → (∀ k p, T0 k p → T k p) → cEx T0 [30043, 813] H H0 → ((lv = [(1, .inl k), (0, .inr (some (8, a0)))]) ∨ (∃ j2 : Int, lv = [(1, .inl k), (2, .inl j2), (0, .inr (some (8, a0)))])) → J false d 62 w (2, lv, [], H) (jN fun v w' H' => ∃ T', cJ F T' w' H' ∧ (∀ k p, T0 k p → T' k p) ∧ cEx T0 [30043, 813] H' H0 ∧ ((w'.2.1 : Nat) : Int) - 2 * H'.1 7 4 F.2.2.1 - 13 * H'.1 3 1 F.2.1 - H'.1 3 3 F.2.1 ≤ ((w0.2.1 : Nat) : Int) - 2 * H0.1 7 4 F.2.2.1 - 13 * H0.1 3 1 F.2.1 - H0.1 3 3 F.2.1 + (0) ∧ ((w'.2.2 : Nat) : Int) - 18 * H'.1 7 4 F.2.2.1 - 700 * H'.1 3 1 F.2.1 - 6 * H'.1 3 3 F.2.1 ≤ ((w0.2.2 : Nat) : Int) - 18 * H0.1 7 4 F.2.2.1 - 700 * H0.1 3 1 F.2.1 - 6 * H0.1 3 3 F.2.1 + 10 * (0) ∧ v = none)) := by
  intro m
  induction m with
  | zero =>
    skip
    · intro k T w H lv hm hi0 hi1 hi2 hI hS hE hlv
      exfalso
      omega
  | succ m ih =>
    skip
    · intro k T w H lv hm hi0 hi1 hi2 hI hS hE hlv
      rcases hlv with rfl | ⟨j2, rfl⟩
      · skip
        have f1 : 0 ≤ H.1 8 4 a0 ∧ H.1 8 4 a0 ≤ 96 := hI.v 8 4 a0 (hS _ _ ta0)
        refine J.run 3 rfl (hI.is (hS _ _ ta0)) ?_
        try dsimp only
        refine J.icmp rfl rfl rfl ⟨(show -2147483648 ≤ k ∧ k ≤ 2147483647 from ⟨by omega, by omega⟩), (show -2147483648 ≤ H.1 8 4 a0 ∧ H.1 8 4 a0 ≤ 2147483647 from ⟨by omega, by omega⟩)⟩ (fun hc => ?_) (fun hc => ?_)
        · have c2 : H.1 8 4 a0 ≤ k := hc
          clear hc
          exact J.retv rfl rfl rfl ⟨_, rfl, T, hI, hS, hE, (show ((w.2.1 : Nat) : Int) - 2 * H.1 7 4 F.2.2.1 - 13 * H.1 3 1 F.2.1 - H.1 3 3 F.2.1 ≤ ((w0.2.1 : Nat) : Int) - 2 * H0.1 7 4 F.2.2.1 - 13 * H0.1 3 1 F.2.1 - H0.1 3 3 F.2.1 + (0) by omega), (show ((w.2.2 : Nat) : Int) - 18 * H.1 7 4 F.2.2.1 - 700 * H.1 3 1 F.2.1 - 6 * H.1 3 3 F.2.1 ≤ ((w0.2.2 : Nat) : Int) - 18 * H0.1 7 4 F.2.2.1 - 700 * H0.1 3 1 F.2.1 - 6 * H0.1 3 3 F.2.1 + 10 * (0) by omega), rfl⟩
        · have c3 : ¬ (H.1 8 4 a0 ≤ k) := hc
          clear hc
          have f4 : 0 ≤ H.2.2.1 34 a0 (k) ∧ H.2.2.1 34 a0 (k) ≤ 15 := hI.i 34 a0 (k) (hI.r 8 2 34 a0 rfl (hS _ _ ta0))
          have f5 : -2147483648 ≤ jushr (H.1 8 9 a0) (H.2.2.1 34 a0 (k)) ∧ jushr (H.1 8 9 a0) (H.2.2.1 34 a0 (k)) ≤ 2147483647 := jI32 _
          have f6 : -2147483648 ≤ jand (jushr (H.1 8 9 a0) (H.2.2.1 34 a0 (k))) ((1 : Int)) ∧ jand (jushr (H.1 8 9 a0) (H.2.2.1 34 a0 (k))) ((1 : Int)) ≤ 2147483647 := jI32 _
          refine J.run 11 rfl ⟨⟨(hI.is (hS _ _ ta0)), hI.is (hI.r 8 2 34 a0 rfl (hS _ _ ta0))⟩, (show w.1 34 a0 ∧ 0 ≤ k ∧ k < 96 from ⟨hI.is (hI.r 8 2 34 a0 rfl (hS _ _ ta0)), by omega, by omega⟩), (hI.is (hS _ _ ta0))⟩ ?_
          try dsimp only
          refine J.ifc rfl rfl rfl (show -2147483648 ≤ jand (jushr (H.1 8 9 a0) (H.2.2.1 34 a0 (k))) ((1 : Int)) ∧ jand (jushr (H.1 8 9 a0) (H.2.2.1 34 a0 (k))) ((1 : Int)) ≤ 2147483647 from ⟨by omega, by omega⟩) (fun hc => ?_) (fun hc => ?_)
          · have c7 : ¬ (jand (jushr (H.1 8 9 a0) (H.2.2.1 34 a0 (k))) ((1 : Int)) = (0 : Int)) := hc
            clear hc
            refine J.run0 2 rfl ?_
            try dsimp only
            exact ih (k + 1) T w H _ (show 96 - (k + 1) < _ by omega) (show 0 ≤ (k + 1) ∧ (k + 1) ≤ 96 from ⟨by omega, by omega⟩) (show ((w.2.1 : Nat) : Int) - 2 * H.1 7 4 F.2.2.1 - 13 * H.1 3 1 F.2.1 - H.1 3 3 F.2.1 ≤ ((w0.2.1 : Nat) : Int) - 2 * H0.1 7 4 F.2.2.1 - 13 * H0.1 3 1 F.2.1 - H0.1 3 3 F.2.1 + (0) from by omega) (show ((w.2.2 : Nat) : Int) - 18 * H.1 7 4 F.2.2.1 - 700 * H.1 3 1 F.2.1 - 6 * H.1 3 3 F.2.1 ≤ ((w0.2.2 : Nat) : Int) - 18 * H0.1 7 4 F.2.2.1 - 700 * H0.1 3 1 F.2.1 - 6 * H0.1 3 3 F.2.1 + 10 * (0) from by omega) hI hS hE  (Or.inr (⟨_, rfl⟩))
          · have c8 : ¬ (¬ (jand (jushr (H.1 8 9 a0) (H.2.2.1 34 a0 (k))) ((1 : Int)) = (0 : Int))) := hc
            clear hc
            refine J.run 11 rfl ⟨⟨(hI.is (hS _ _ ta0)), (hI.o 8 12 43 a0 rfl (hS _ _ ta0)).1⟩, (show w.1 43 (H.2.2.2.2 8 12 a0) ∧ 0 ≤ H.2.2.1 34 a0 (k) ∧ H.2.2.1 34 a0 (k) < 16 from ⟨hI.is (hI.o 8 12 43 a0 rfl (hS _ _ ta0)).2, by omega, by omega⟩), ⟨(hI.is (hS _ _ ta0)), hI.is (hI.r 8 3 35 a0 rfl (hS _ _ ta0))⟩, (show w.1 35 a0 ∧ 0 ≤ k ∧ k < 96 from ⟨hI.is (hI.r 8 3 35 a0 rfl (hS _ _ ta0)), by omega, by omega⟩), (show w.1 43 (H.2.2.2.2 8 12 a0) ∧ 0 ≤ H.2.2.1 34 a0 (k) ∧ H.2.2.1 34 a0 (k) < 16 from ⟨hI.is (hI.o 8 12 43 a0 rfl (hS _ _ ta0)).2, by omega, by omega⟩)⟩ ?_
            try dsimp only
            refine J.gn fun H9 hH9 => ?_
            have hI10 : cJ F T w H9 := by rw [hH9]; exact cI.wRj hI (hI.o 8 12 43 a0 rfl (hS _ _ ta0)).2 trivial
            have hE11 : cEx T0 [30043, 813] H9 H0 := by rw [hH9]; exact cEx.wR hE (by decide)
            have g12 : H9.1 7 4 F.2.2.1 = H.1 7 4 F.2.2.1 := by subst hH9; rfl
            have g13 : H9.1 3 1 F.2.1 = H.1 3 1 F.2.1 := by subst hH9; rfl
            have g14 : H9.1 3 3 F.2.1 = H.1 3 3 F.2.1 := by subst hH9; rfl
            have g15 : H9.1 8 4 a0 = H.1 8 4 a0 := by subst hH9; rfl
            clear hH9
            refine J.run 9 rfl ⟨(hI10.is (hS _ _ ta0)), ⟨(hI10.is (hS _ _ ta0)), hI10.is (hI10.r 8 3 35 a0 rfl (hS _ _ ta0))⟩, (show w.1 35 a0 ∧ 0 ≤ k ∧ k < 96 from ⟨hI10.is (hI10.r 8 3 35 a0 rfl (hS _ _ ta0)), by omega, by omega⟩), (hI10.is (hS _ _ ta0))⟩ ?_
            try dsimp only
            refine J.gn fun H16 hH16 => ?_
            have hI17 : cJ F T w H16 := by rw [hH16]; exact cJ.wi hI10 trivial rfl rfl
            have hE18 : cEx T0 [30043, 813] H16 H0 := by rw [hH16]; exact cEx.wi hE11 (by decide)
            have g19 : H16.1 7 4 F.2.2.1 = H9.1 7 4 F.2.2.1 := by subst hH16; rfl
            have g20 : H16.1 3 1 F.2.1 = H9.1 3 1 F.2.1 := by subst hH16; rfl
            have g21 : H16.1 3 3 F.2.1 = H9.1 3 3 F.2.1 := by subst hH16; rfl
            have g22 : H16.1 8 4 a0 = H9.1 8 4 a0 := by subst hH16; rfl
            have g23 : H16.1 8 13 a0 = (H9.1 8 13 a0) + (H9.2.2.1 35 a0 (k)) := by subst hH16; exact if_pos rfl
            clear hH16
            refine J.run0 2 rfl ?_
            try dsimp only
            exact ih (k + 1) T w H16 _ (show 96 - (k + 1) < _ by omega) (show 0 ≤ (k + 1) ∧ (k + 1) ≤ 96 from ⟨by omega, by omega⟩) (show ((w.2.1 : Nat) : Int) - 2 * H16.1 7 4 F.2.2.1 - 13 * H16.1 3 1 F.2.1 - H16.1 3 3 F.2.1 ≤ ((w0.2.1 : Nat) : Int) - 2 * H0.1 7 4 F.2.2.1 - 13 * H0.1 3 1 F.2.1 - H0.1 3 3 F.2.1 + (0) from by omega) (show ((w.2.2 : Nat) : Int) - 18 * H16.1 7 4 F.2.2.1 - 700 * H16.1 3 1 F.2.1 - 6 * H16.1 3 3 F.2.1 ≤ ((w0.2.2 : Nat) : Int) - 18 * H0.1 7 4 F.2.2.1 - 700 * H0.1 3 1 F.2.1 - 6 * H0.1 3 3 F.2.1 + 10 * (0) from by omega) hI17 hS hE18  (Or.inr (⟨_, rfl⟩))
      · skip
        have f24 : 0 ≤ H.1 8 4 a0 ∧ H.1 8 4 a0 ≤ 96 := hI.v 8 4 a0 (hS _ _ ta0)
        refine J.run 3 rfl (hI.is (hS _ _ ta0)) ?_
        try dsimp only
        refine J.icmp rfl rfl rfl ⟨(show -2147483648 ≤ k ∧ k ≤ 2147483647 from ⟨by omega, by omega⟩), (show -2147483648 ≤ H.1 8 4 a0 ∧ H.1 8 4 a0 ≤ 2147483647 from ⟨by omega, by omega⟩)⟩ (fun hc => ?_) (fun hc => ?_)
        · have c25 : H.1 8 4 a0 ≤ k := hc
          clear hc
          exact J.retv rfl rfl rfl ⟨_, rfl, T, hI, hS, hE, (show ((w.2.1 : Nat) : Int) - 2 * H.1 7 4 F.2.2.1 - 13 * H.1 3 1 F.2.1 - H.1 3 3 F.2.1 ≤ ((w0.2.1 : Nat) : Int) - 2 * H0.1 7 4 F.2.2.1 - 13 * H0.1 3 1 F.2.1 - H0.1 3 3 F.2.1 + (0) by omega), (show ((w.2.2 : Nat) : Int) - 18 * H.1 7 4 F.2.2.1 - 700 * H.1 3 1 F.2.1 - 6 * H.1 3 3 F.2.1 ≤ ((w0.2.2 : Nat) : Int) - 18 * H0.1 7 4 F.2.2.1 - 700 * H0.1 3 1 F.2.1 - 6 * H0.1 3 3 F.2.1 + 10 * (0) by omega), rfl⟩
        · have c26 : ¬ (H.1 8 4 a0 ≤ k) := hc
          clear hc
          have f27 : 0 ≤ H.2.2.1 34 a0 (k) ∧ H.2.2.1 34 a0 (k) ≤ 15 := hI.i 34 a0 (k) (hI.r 8 2 34 a0 rfl (hS _ _ ta0))
          have f28 : -2147483648 ≤ jushr (H.1 8 9 a0) (H.2.2.1 34 a0 (k)) ∧ jushr (H.1 8 9 a0) (H.2.2.1 34 a0 (k)) ≤ 2147483647 := jI32 _
          have f29 : -2147483648 ≤ jand (jushr (H.1 8 9 a0) (H.2.2.1 34 a0 (k))) ((1 : Int)) ∧ jand (jushr (H.1 8 9 a0) (H.2.2.1 34 a0 (k))) ((1 : Int)) ≤ 2147483647 := jI32 _
          refine J.run 11 rfl ⟨⟨(hI.is (hS _ _ ta0)), hI.is (hI.r 8 2 34 a0 rfl (hS _ _ ta0))⟩, (show w.1 34 a0 ∧ 0 ≤ k ∧ k < 96 from ⟨hI.is (hI.r 8 2 34 a0 rfl (hS _ _ ta0)), by omega, by omega⟩), (hI.is (hS _ _ ta0))⟩ ?_
          try dsimp only
          refine J.ifc rfl rfl rfl (show -2147483648 ≤ jand (jushr (H.1 8 9 a0) (H.2.2.1 34 a0 (k))) ((1 : Int)) ∧ jand (jushr (H.1 8 9 a0) (H.2.2.1 34 a0 (k))) ((1 : Int)) ≤ 2147483647 from ⟨by omega, by omega⟩) (fun hc => ?_) (fun hc => ?_)
          · have c30 : ¬ (jand (jushr (H.1 8 9 a0) (H.2.2.1 34 a0 (k))) ((1 : Int)) = (0 : Int)) := hc
            clear hc
            refine J.run0 2 rfl ?_
            try dsimp only
            exact ih (k + 1) T w H _ (show 96 - (k + 1) < _ by omega) (show 0 ≤ (k + 1) ∧ (k + 1) ≤ 96 from ⟨by omega, by omega⟩) (show ((w.2.1 : Nat) : Int) - 2 * H.1 7 4 F.2.2.1 - 13 * H.1 3 1 F.2.1 - H.1 3 3 F.2.1 ≤ ((w0.2.1 : Nat) : Int) - 2 * H0.1 7 4 F.2.2.1 - 13 * H0.1 3 1 F.2.1 - H0.1 3 3 F.2.1 + (0) from by omega) (show ((w.2.2 : Nat) : Int) - 18 * H.1 7 4 F.2.2.1 - 700 * H.1 3 1 F.2.1 - 6 * H.1 3 3 F.2.1 ≤ ((w0.2.2 : Nat) : Int) - 18 * H0.1 7 4 F.2.2.1 - 700 * H0.1 3 1 F.2.1 - 6 * H0.1 3 3 F.2.1 + 10 * (0) from by omega) hI hS hE  (Or.inr (⟨_, rfl⟩))
          · have c31 : ¬ (¬ (jand (jushr (H.1 8 9 a0) (H.2.2.1 34 a0 (k))) ((1 : Int)) = (0 : Int))) := hc
            clear hc
            refine J.run 11 rfl ⟨⟨(hI.is (hS _ _ ta0)), (hI.o 8 12 43 a0 rfl (hS _ _ ta0)).1⟩, (show w.1 43 (H.2.2.2.2 8 12 a0) ∧ 0 ≤ H.2.2.1 34 a0 (k) ∧ H.2.2.1 34 a0 (k) < 16 from ⟨hI.is (hI.o 8 12 43 a0 rfl (hS _ _ ta0)).2, by omega, by omega⟩), ⟨(hI.is (hS _ _ ta0)), hI.is (hI.r 8 3 35 a0 rfl (hS _ _ ta0))⟩, (show w.1 35 a0 ∧ 0 ≤ k ∧ k < 96 from ⟨hI.is (hI.r 8 3 35 a0 rfl (hS _ _ ta0)), by omega, by omega⟩), (show w.1 43 (H.2.2.2.2 8 12 a0) ∧ 0 ≤ H.2.2.1 34 a0 (k) ∧ H.2.2.1 34 a0 (k) < 16 from ⟨hI.is (hI.o 8 12 43 a0 rfl (hS _ _ ta0)).2, by omega, by omega⟩)⟩ ?_
            try dsimp only
            refine J.gn fun H32 hH32 => ?_
            have hI33 : cJ F T w H32 := by rw [hH32]; exact cI.wRj hI (hI.o 8 12 43 a0 rfl (hS _ _ ta0)).2 trivial
            have hE34 : cEx T0 [30043, 813] H32 H0 := by rw [hH32]; exact cEx.wR hE (by decide)
            have g35 : H32.1 7 4 F.2.2.1 = H.1 7 4 F.2.2.1 := by subst hH32; rfl
            have g36 : H32.1 3 1 F.2.1 = H.1 3 1 F.2.1 := by subst hH32; rfl
            have g37 : H32.1 3 3 F.2.1 = H.1 3 3 F.2.1 := by subst hH32; rfl
            have g38 : H32.1 8 4 a0 = H.1 8 4 a0 := by subst hH32; rfl
            clear hH32
            refine J.run 9 rfl ⟨(hI33.is (hS _ _ ta0)), ⟨(hI33.is (hS _ _ ta0)), hI33.is (hI33.r 8 3 35 a0 rfl (hS _ _ ta0))⟩, (show w.1 35 a0 ∧ 0 ≤ k ∧ k < 96 from ⟨hI33.is (hI33.r 8 3 35 a0 rfl (hS _ _ ta0)), by omega, by omega⟩), (hI33.is (hS _ _ ta0))⟩ ?_
            try dsimp only
            refine J.gn fun H39 hH39 => ?_
            have hI40 : cJ F T w H39 := by rw [hH39]; exact cJ.wi hI33 trivial rfl rfl
            have hE41 : cEx T0 [30043, 813] H39 H0 := by rw [hH39]; exact cEx.wi hE34 (by decide)
            have g42 : H39.1 7 4 F.2.2.1 = H32.1 7 4 F.2.2.1 := by subst hH39; rfl
            have g43 : H39.1 3 1 F.2.1 = H32.1 3 1 F.2.1 := by subst hH39; rfl
            have g44 : H39.1 3 3 F.2.1 = H32.1 3 3 F.2.1 := by subst hH39; rfl
            have g45 : H39.1 8 4 a0 = H32.1 8 4 a0 := by subst hH39; rfl
            have g46 : H39.1 8 13 a0 = (H32.1 8 13 a0) + (H32.2.2.1 35 a0 (k)) := by subst hH39; exact if_pos rfl
            clear hH39
            refine J.run0 2 rfl ?_
            try dsimp only
            exact ih (k + 1) T w H39 _ (show 96 - (k + 1) < _ by omega) (show 0 ≤ (k + 1) ∧ (k + 1) ≤ 96 from ⟨by omega, by omega⟩) (show ((w.2.1 : Nat) : Int) - 2 * H39.1 7 4 F.2.2.1 - 13 * H39.1 3 1 F.2.1 - H39.1 3 3 F.2.1 ≤ ((w0.2.1 : Nat) : Int) - 2 * H0.1 7 4 F.2.2.1 - 13 * H0.1 3 1 F.2.1 - H0.1 3 3 F.2.1 + (0) from by omega) (show ((w.2.2 : Nat) : Int) - 18 * H39.1 7 4 F.2.2.1 - 700 * H39.1 3 1 F.2.1 - 6 * H39.1 3 3 F.2.1 ≤ ((w0.2.2 : Nat) : Int) - 18 * H0.1 7 4 F.2.2.1 - 700 * H0.1 3 1 F.2.1 - 6 * H0.1 3 3 F.2.1 + 10 * (0) from by omega) hI40 hS hE41  (Or.inr (⟨_, rfl⟩))
set_option maxRecDepth 20000 in
set_option maxHeartbeats 8000000 in
theorem c_X8_settle {a0 : Nat} {T : cP} {w : jW} {H : jH} (hI : cJ F T w H) (ta0 : T 8 a0)  : J false d 62 w (0, jargs 0 [.inr (some (8, a0))], [], H) (jN fun v w' H' => ∃ T', cJ F T' w' H' ∧ (∀ k p, T k p → T' k p) ∧ cEx T [30043, 813] H' H ∧ ((w'.2.1 : Nat) : Int) - 2 * H'.1 7 4 F.2.2.1 - 13 * H'.1 3 1 F.2.1 - H'.1 3 3 F.2.1 ≤ ((w.2.1 : Nat) : Int) - 2 * H.1 7 4 F.2.2.1 - 13 * H.1 3 1 F.2.1 - H.1 3 3 F.2.1 + (0) ∧ ((w'.2.2 : Nat) : Int) - 18 * H'.1 7 4 F.2.2.1 - 700 * H'.1 3 1 F.2.1 - 6 * H'.1 3 3 F.2.1 ≤ ((w.2.2 : Nat) : Int) - 18 * H.1 7 4 F.2.2.1 - 700 * H.1 3 1 F.2.1 - 6 * H.1 3 3 F.2.1 + 10 * (0) ∧ v = none) := by
  have hE : cEx T [30043, 813] H H := cEx.refl
  have hS : ∀ k p, T k p → T k p := fun _ _ z => z
  refine J.run0 2 rfl ?_
  try dsimp only
  exact (c_X8_settle_l0 (a0 := a0) hI ta0  ((96 - ((0 : Int)) : Int).toNat + 1)) ((0 : Int)) T w H _ (show 96 - ((0 : Int)) < _ by omega) (show 0 ≤ ((0 : Int)) ∧ ((0 : Int)) ≤ 96 from ⟨by omega, by omega⟩) (show ((w.2.1 : Nat) : Int) - 2 * H.1 7 4 F.2.2.1 - 13 * H.1 3 1 F.2.1 - H.1 3 3 F.2.1 ≤ ((w.2.1 : Nat) : Int) - 2 * H.1 7 4 F.2.2.1 - 13 * H.1 3 1 F.2.1 - H.1 3 3 F.2.1 + (0) from by omega) (show ((w.2.2 : Nat) : Int) - 18 * H.1 7 4 F.2.2.1 - 700 * H.1 3 1 F.2.1 - 6 * H.1 3 3 F.2.1 ≤ ((w.2.2 : Nat) : Int) - 18 * H.1 7 4 F.2.2.1 - 700 * H.1 3 1 F.2.1 - 6 * H.1 3 3 F.2.1 + 10 * (0) from by omega) hI hS hE  (Or.inl rfl)
end
-- M: X8_beLike
section
variable {d : Nat} {F : cG} 
set_option maxRecDepth 20000 in
set_option maxHeartbeats 8000000 in
theorem c_X8_beLike {a0 : Nat} {s : Nat} {T : cP} {w : jW} {H : jH} (hI : cJ F T w H) (ta0 : T 8 a0) (ta1 : T 8 s) (hp0 : a0 ≠ s) : J false d 54 w (0, jargs 0 [.inr (some (8, a0)), .inr (some (8, s))], [], H) (jN fun v w' H' => ∃ T', cJ F T' w' H' ∧ (∀ k p, T k p → T' k p) ∧ cEx T [30032, 30033, 30034, 30035, 30036, 30037, 30038, 30039, 804, 808, 809, 811] H' H ∧ ((w'.2.1 : Nat) : Int) - 2 * H'.1 7 4 F.2.2.1 - 13 * H'.1 3 1 F.2.1 - H'.1 3 3 F.2.1 ≤ ((w.2.1 : Nat) : Int) - 2 * H.1 7 4 F.2.2.1 - 13 * H.1 3 1 F.2.1 - H.1 3 3 F.2.1 + (0) ∧ ((w'.2.2 : Nat) : Int) - 18 * H'.1 7 4 F.2.2.1 - 700 * H'.1 3 1 F.2.1 - 6 * H'.1 3 3 F.2.1 ≤ ((w.2.2 : Nat) : Int) - 18 * H.1 7 4 F.2.2.1 - 700 * H.1 3 1 F.2.1 - 6 * H.1 3 3 F.2.1 + 10 * (0) ∧ v = none) := by
  have hE : cEx T [30032, 30033, 30034, 30035, 30036, 30037, 30038, 30039, 804, 808, 809, 811] H H := cEx.refl
  have hS : ∀ k p, T k p → T k p := fun _ _ z => z
  refine J.run 7 rfl ⟨⟨(hI.is ta1), hI.is (hI.r 8 0 32 s rfl ta1)⟩, ⟨(hI.is ta0), hI.is (hI.r 8 0 32 a0 rfl ta0)⟩⟩ ?_
  try dsimp only
  refine J.cpy (n1 := 200) (n2 := 200) rfl rfl rfl rfl rfl (fun z => hp0 z.2.symm) rfl ((jD_w rfl).mpr (hI.is (hI.r 8 0 32 s rfl ta1))) ((jD_w rfl).mpr (hI.is (hI.r 8 0 32 a0 rfl ta0))) ⟨by omega, by omega, by omega⟩ (by show _ ≤ (200 : Int); omega) (by show _ ≤ (200 : Int); omega) ?_
  refine J.gn fun H1 hH1 => ?_
  have hI2 : cJ F T w H1 := by rw [hH1]; exact cI.wR hI (fun i => jcpy_r (fun i => hI.i 32 _ i (hI.r 8 0 32 s rfl ta1)) (fun i => hI.i 32 _ i (hI.r 8 0 32 a0 rfl ta0)) i)
  have hE3 : cEx T [30032, 30033, 30034, 30035, 30036, 30037, 30038, 30039, 804, 808, 809, 811] H1 H := by rw [hH1]; exact cEx.wR hE (by decide)
  have g4 : H1.1 7 4 F.2.2.1 = H.1 7 4 F.2.2.1 := by subst hH1; rfl
  have g5 : H1.1 3 1 F.2.1 = H.1 3 1 F.2.1 := by subst hH1; rfl
  have g6 : H1.1 3 3 F.2.1 = H.1 3 3 F.2.1 := by subst hH1; rfl
  clear hH1
  refine J.run 7 rfl ⟨⟨(hI2.is ta1), hI2.is (hI2.r 8 1 33 s rfl ta1)⟩, ⟨(hI2.is ta0), hI2.is (hI2.r 8 1 33 a0 rfl ta0)⟩⟩ ?_
  try dsimp only
  refine J.cpy (n1 := 96) (n2 := 96) rfl rfl rfl rfl rfl (fun z => hp0 z.2.symm) rfl ((jD_w rfl).mpr (hI2.is (hI2.r 8 1 33 s rfl ta1))) ((jD_w rfl).mpr (hI2.is (hI2.r 8 1 33 a0 rfl ta0))) ⟨by omega, by omega, by omega⟩ (by show _ ≤ (96 : Int); omega) (by show _ ≤ (96 : Int); omega) ?_
  refine J.gn fun H7 hH7 => ?_
  have hI8 : cJ F T w H7 := by rw [hH7]; exact cI.wR hI2 (fun i => jcpy_r (fun i => hI2.i 33 _ i (hI2.r 8 1 33 s rfl ta1)) (fun i => hI2.i 33 _ i (hI2.r 8 1 33 a0 rfl ta0)) i)
  have hE9 : cEx T [30032, 30033, 30034, 30035, 30036, 30037, 30038, 30039, 804, 808, 809, 811] H7 H := by rw [hH7]; exact cEx.wR hE3 (by decide)
  have g10 : H7.1 7 4 F.2.2.1 = H1.1 7 4 F.2.2.1 := by subst hH7; rfl
  have g11 : H7.1 3 1 F.2.1 = H1.1 3 1 F.2.1 := by subst hH7; rfl
  have g12 : H7.1 3 3 F.2.1 = H1.1 3 3 F.2.1 := by subst hH7; rfl
  clear hH7
  refine J.run 7 rfl ⟨⟨(hI8.is ta1), hI8.is (hI8.r 8 2 34 s rfl ta1)⟩, ⟨(hI8.is ta0), hI8.is (hI8.r 8 2 34 a0 rfl ta0)⟩⟩ ?_
  try dsimp only
  refine J.cpy (n1 := 96) (n2 := 96) rfl rfl rfl rfl rfl (fun z => hp0 z.2.symm) rfl ((jD_w rfl).mpr (hI8.is (hI8.r 8 2 34 s rfl ta1))) ((jD_w rfl).mpr (hI8.is (hI8.r 8 2 34 a0 rfl ta0))) ⟨by omega, by omega, by omega⟩ (by show _ ≤ (96 : Int); omega) (by show _ ≤ (96 : Int); omega) ?_
  refine J.gn fun H13 hH13 => ?_
  have hI14 : cJ F T w H13 := by rw [hH13]; exact cI.wR hI8 (fun i => jcpy_r (fun i => hI8.i 34 _ i (hI8.r 8 2 34 s rfl ta1)) (fun i => hI8.i 34 _ i (hI8.r 8 2 34 a0 rfl ta0)) i)
  have hE15 : cEx T [30032, 30033, 30034, 30035, 30036, 30037, 30038, 30039, 804, 808, 809, 811] H13 H := by rw [hH13]; exact cEx.wR hE9 (by decide)
  have g16 : H13.1 7 4 F.2.2.1 = H7.1 7 4 F.2.2.1 := by subst hH13; rfl
  have g17 : H13.1 3 1 F.2.1 = H7.1 3 1 F.2.1 := by subst hH13; rfl
  have g18 : H13.1 3 3 F.2.1 = H7.1 3 3 F.2.1 := by subst hH13; rfl
  clear hH13
  refine J.run 7 rfl ⟨⟨(hI14.is ta1), hI14.is (hI14.r 8 3 35 s rfl ta1)⟩, ⟨(hI14.is ta0), hI14.is (hI14.r 8 3 35 a0 rfl ta0)⟩⟩ ?_
  try dsimp only
  refine J.cpy (n1 := 96) (n2 := 96) rfl rfl rfl rfl rfl (fun z => hp0 z.2.symm) rfl ((jD_w rfl).mpr (hI14.is (hI14.r 8 3 35 s rfl ta1))) ((jD_w rfl).mpr (hI14.is (hI14.r 8 3 35 a0 rfl ta0))) ⟨by omega, by omega, by omega⟩ (by show _ ≤ (96 : Int); omega) (by show _ ≤ (96 : Int); omega) ?_
  refine J.gn fun H19 hH19 => ?_
  have hI20 : cJ F T w H19 := by rw [hH19]; exact cI.wR hI14 (fun i => jcpy_r (fun i => hI14.i 35 _ i (hI14.r 8 3 35 s rfl ta1)) (fun i => hI14.i 35 _ i (hI14.r 8 3 35 a0 rfl ta0)) i)
  have hE21 : cEx T [30032, 30033, 30034, 30035, 30036, 30037, 30038, 30039, 804, 808, 809, 811] H19 H := by rw [hH19]; exact cEx.wR hE15 (by decide)
  have g22 : H19.1 7 4 F.2.2.1 = H13.1 7 4 F.2.2.1 := by subst hH19; rfl
  have g23 : H19.1 3 1 F.2.1 = H13.1 3 1 F.2.1 := by subst hH19; rfl
  have g24 : H19.1 3 3 F.2.1 = H13.1 3 3 F.2.1 := by subst hH19; rfl
  clear hH19
  have f25 : 0 ≤ H19.1 8 4 s ∧ H19.1 8 4 s ≤ 96 := hI20.v 8 4 s ta1
  refine J.run 4 rfl ⟨(hI20.is ta1), (hI20.is ta0)⟩ ?_
  try dsimp only
  refine J.gn fun H26 hH26 => ?_
  have hI27 : cJ F T w H26 := by rw [hH26]; exact cJ.wi hI20 (show 0 ≤ H19.1 8 4 s ∧ H19.1 8 4 s ≤ 96 from ⟨by omega, by omega⟩) rfl rfl
  have hE28 : cEx T [30032, 30033, 30034, 30035, 30036, 30037, 30038, 30039, 804, 808, 809, 811] H26 H := by rw [hH26]; exact cEx.wi hE21 (by decide)
  have g29 : H26.1 7 4 F.2.2.1 = H19.1 7 4 F.2.2.1 := by subst hH26; rfl
  have g30 : H26.1 3 1 F.2.1 = H19.1 3 1 F.2.1 := by subst hH26; rfl
  have g31 : H26.1 3 3 F.2.1 = H19.1 3 3 F.2.1 := by subst hH26; rfl
  have g33 : H26.1 8 4 a0 = H19.1 8 4 s := by subst hH26; exact if_pos rfl
  have g34 : s ≠ a0 → H26.1 8 4 s = H19.1 8 4 s := by subst hH26; exact fun z => if_neg z
  clear hH26
  refine J.run 7 rfl ⟨⟨(hI27.is ta1), hI27.is (hI27.r 8 5 36 s rfl ta1)⟩, ⟨(hI27.is ta0), hI27.is (hI27.r 8 5 36 a0 rfl ta0)⟩⟩ ?_
  try dsimp only
  refine J.cpy (n1 := 32) (n2 := 32) rfl rfl rfl rfl rfl (fun z => hp0 z.2.symm) rfl ((jD_w rfl).mpr (hI27.is (hI27.r 8 5 36 s rfl ta1))) ((jD_w rfl).mpr (hI27.is (hI27.r 8 5 36 a0 rfl ta0))) ⟨by omega, by omega, by omega⟩ (by show _ ≤ (32 : Int); omega) (by show _ ≤ (32 : Int); omega) ?_
  refine J.gn fun H35 hH35 => ?_
  have hI36 : cJ F T w H35 := by rw [hH35]; exact cI.wR hI27 (fun i => jcpy_r (fun i => hI27.i 36 _ i (hI27.r 8 5 36 s rfl ta1)) (fun i => hI27.i 36 _ i (hI27.r 8 5 36 a0 rfl ta0)) i)
  have hE37 : cEx T [30032, 30033, 30034, 30035, 30036, 30037, 30038, 30039, 804, 808, 809, 811] H35 H := by rw [hH35]; exact cEx.wR hE28 (by decide)
  have g38 : H35.1 7 4 F.2.2.1 = H26.1 7 4 F.2.2.1 := by subst hH35; rfl
  have g39 : H35.1 3 1 F.2.1 = H26.1 3 1 F.2.1 := by subst hH35; rfl
  have g40 : H35.1 3 3 F.2.1 = H26.1 3 3 F.2.1 := by subst hH35; rfl
  have g41 : H35.1 8 4 a0 = H26.1 8 4 a0 := by subst hH35; rfl
  have g42 : H35.1 8 4 s = H26.1 8 4 s := by subst hH35; rfl
  clear hH35
  refine J.run 7 rfl ⟨⟨(hI36.is ta1), hI36.is (hI36.r 8 6 37 s rfl ta1)⟩, ⟨(hI36.is ta0), hI36.is (hI36.r 8 6 37 a0 rfl ta0)⟩⟩ ?_
  try dsimp only
  refine J.cpy (n1 := 32) (n2 := 32) rfl rfl rfl rfl rfl (fun z => hp0 z.2.symm) rfl ((jD_w rfl).mpr (hI36.is (hI36.r 8 6 37 s rfl ta1))) ((jD_w rfl).mpr (hI36.is (hI36.r 8 6 37 a0 rfl ta0))) ⟨by omega, by omega, by omega⟩ (by show _ ≤ (32 : Int); omega) (by show _ ≤ (32 : Int); omega) ?_
  refine J.gn fun H43 hH43 => ?_
  have hI44 : cJ F T w H43 := by rw [hH43]; exact cI.wR hI36 (fun i => jcpy_r (fun i => hI36.i 37 _ i (hI36.r 8 6 37 s rfl ta1)) (fun i => hI36.i 37 _ i (hI36.r 8 6 37 a0 rfl ta0)) i)
  have hE45 : cEx T [30032, 30033, 30034, 30035, 30036, 30037, 30038, 30039, 804, 808, 809, 811] H43 H := by rw [hH43]; exact cEx.wR hE37 (by decide)
  have g46 : H43.1 7 4 F.2.2.1 = H35.1 7 4 F.2.2.1 := by subst hH43; rfl
  have g47 : H43.1 3 1 F.2.1 = H35.1 3 1 F.2.1 := by subst hH43; rfl
  have g48 : H43.1 3 3 F.2.1 = H35.1 3 3 F.2.1 := by subst hH43; rfl
  have g49 : H43.1 8 4 a0 = H35.1 8 4 a0 := by subst hH43; rfl
  have g50 : H43.1 8 4 s = H35.1 8 4 s := by subst hH43; rfl
  clear hH43
  refine J.run 7 rfl ⟨⟨(hI44.is ta1), hI44.is (hI44.r 8 7 38 s rfl ta1)⟩, ⟨(hI44.is ta0), hI44.is (hI44.r 8 7 38 a0 rfl ta0)⟩⟩ ?_
  try dsimp only
  refine J.cpy (n1 := 32) (n2 := 32) rfl rfl rfl rfl rfl (fun z => hp0 z.2.symm) rfl ((jD_w rfl).mpr (hI44.is (hI44.r 8 7 38 s rfl ta1))) ((jD_w rfl).mpr (hI44.is (hI44.r 8 7 38 a0 rfl ta0))) ⟨by omega, by omega, by omega⟩ (by show _ ≤ (32 : Int); omega) (by show _ ≤ (32 : Int); omega) ?_
  refine J.gn fun H51 hH51 => ?_
  have hI52 : cJ F T w H51 := by rw [hH51]; exact cI.wR hI44 (fun i => jcpy_r (fun i => hI44.i 38 _ i (hI44.r 8 7 38 s rfl ta1)) (fun i => hI44.i 38 _ i (hI44.r 8 7 38 a0 rfl ta0)) i)
  have hE53 : cEx T [30032, 30033, 30034, 30035, 30036, 30037, 30038, 30039, 804, 808, 809, 811] H51 H := by rw [hH51]; exact cEx.wR hE45 (by decide)
  have g54 : H51.1 7 4 F.2.2.1 = H43.1 7 4 F.2.2.1 := by subst hH51; rfl
  have g55 : H51.1 3 1 F.2.1 = H43.1 3 1 F.2.1 := by subst hH51; rfl
  have g56 : H51.1 3 3 F.2.1 = H43.1 3 3 F.2.1 := by subst hH51; rfl
  have g57 : H51.1 8 4 a0 = H43.1 8 4 a0 := by subst hH51; rfl
  have g58 : H51.1 8 4 s = H43.1 8 4 s := by subst hH51; rfl
  clear hH51
  have f59 : 0 ≤ H51.1 8 8 s ∧ H51.1 8 8 s ≤ 32 := hI52.v 8 8 s ta1
  refine J.run 4 rfl ⟨(hI52.is ta1), (hI52.is ta0)⟩ ?_
  try dsimp only
  refine J.gn fun H60 hH60 => ?_
  have hI61 : cJ F T w H60 := by rw [hH60]; exact cJ.wi hI52 (show 0 ≤ H51.1 8 8 s ∧ H51.1 8 8 s ≤ 32 from ⟨by omega, by omega⟩) rfl rfl
  have hE62 : cEx T [30032, 30033, 30034, 30035, 30036, 30037, 30038, 30039, 804, 808, 809, 811] H60 H := by rw [hH60]; exact cEx.wi hE53 (by decide)
  have g63 : H60.1 7 4 F.2.2.1 = H51.1 7 4 F.2.2.1 := by subst hH60; rfl
  have g64 : H60.1 3 1 F.2.1 = H51.1 3 1 F.2.1 := by subst hH60; rfl
  have g65 : H60.1 3 3 F.2.1 = H51.1 3 3 F.2.1 := by subst hH60; rfl
  have g66 : H60.1 8 4 a0 = H51.1 8 4 a0 := by subst hH60; rfl
  have g67 : H60.1 8 4 s = H51.1 8 4 s := by subst hH60; rfl
  have g69 : H60.1 8 8 a0 = H51.1 8 8 s := by subst hH60; exact if_pos rfl
  have g70 : s ≠ a0 → H60.1 8 8 s = H51.1 8 8 s := by subst hH60; exact fun z => if_neg z
  clear hH60
  refine J.run 4 rfl ⟨(hI61.is ta1), (hI61.is ta0)⟩ ?_
  try dsimp only
  refine J.gn fun H71 hH71 => ?_
  have hI72 : cJ F T w H71 := by rw [hH71]; exact cJ.wi hI61 trivial rfl rfl
  have hE73 : cEx T [30032, 30033, 30034, 30035, 30036, 30037, 30038, 30039, 804, 808, 809, 811] H71 H := by rw [hH71]; exact cEx.wi hE62 (by decide)
  have g74 : H71.1 7 4 F.2.2.1 = H60.1 7 4 F.2.2.1 := by subst hH71; rfl
  have g75 : H71.1 3 1 F.2.1 = H60.1 3 1 F.2.1 := by subst hH71; rfl
  have g76 : H71.1 3 3 F.2.1 = H60.1 3 3 F.2.1 := by subst hH71; rfl
  have g77 : H71.1 8 4 a0 = H60.1 8 4 a0 := by subst hH71; rfl
  have g78 : H71.1 8 4 s = H60.1 8 4 s := by subst hH71; rfl
  have g79 : H71.1 8 8 a0 = H60.1 8 8 a0 := by subst hH71; rfl
  have g80 : H71.1 8 8 s = H60.1 8 8 s := by subst hH71; rfl
  have g81 : H71.1 8 9 a0 = H60.1 8 9 s := by subst hH71; exact if_pos rfl
  clear hH71
  refine J.run 7 rfl ⟨⟨(hI72.is ta1), hI72.is (hI72.r 8 10 39 s rfl ta1)⟩, ⟨(hI72.is ta0), hI72.is (hI72.r 8 10 39 a0 rfl ta0)⟩⟩ ?_
  try dsimp only
  refine J.cpy (n1 := 16) (n2 := 16) rfl rfl rfl rfl rfl (fun z => hp0 z.2.symm) rfl ((jD_w rfl).mpr (hI72.is (hI72.r 8 10 39 s rfl ta1))) ((jD_w rfl).mpr (hI72.is (hI72.r 8 10 39 a0 rfl ta0))) ⟨by omega, by omega, by omega⟩ (by show _ ≤ (16 : Int); omega) (by show _ ≤ (16 : Int); omega) ?_
  refine J.gn fun H82 hH82 => ?_
  have hI83 : cJ F T w H82 := by rw [hH82]; exact cI.wR hI72 (fun i => jcpy_r (fun i => hI72.i 39 _ i (hI72.r 8 10 39 s rfl ta1)) (fun i => hI72.i 39 _ i (hI72.r 8 10 39 a0 rfl ta0)) i)
  have hE84 : cEx T [30032, 30033, 30034, 30035, 30036, 30037, 30038, 30039, 804, 808, 809, 811] H82 H := by rw [hH82]; exact cEx.wR hE73 (by decide)
  have g85 : H82.1 7 4 F.2.2.1 = H71.1 7 4 F.2.2.1 := by subst hH82; rfl
  have g86 : H82.1 3 1 F.2.1 = H71.1 3 1 F.2.1 := by subst hH82; rfl
  have g87 : H82.1 3 3 F.2.1 = H71.1 3 3 F.2.1 := by subst hH82; rfl
  have g88 : H82.1 8 4 a0 = H71.1 8 4 a0 := by subst hH82; rfl
  have g89 : H82.1 8 4 s = H71.1 8 4 s := by subst hH82; rfl
  have g90 : H82.1 8 8 a0 = H71.1 8 8 a0 := by subst hH82; rfl
  have g91 : H82.1 8 8 s = H71.1 8 8 s := by subst hH82; rfl
  have g92 : H82.1 8 9 a0 = H71.1 8 9 a0 := by subst hH82; rfl
  clear hH82
  refine J.run 4 rfl ⟨(hI83.is ta1), (hI83.is ta0)⟩ ?_
  try dsimp only
  refine J.gn fun H93 hH93 => ?_
  have hI94 : cJ F T w H93 := by rw [hH93]; exact cJ.wi hI83 trivial rfl rfl
  have hE95 : cEx T [30032, 30033, 30034, 30035, 30036, 30037, 30038, 30039, 804, 808, 809, 811] H93 H := by rw [hH93]; exact cEx.wi hE84 (by decide)
  have g96 : H93.1 7 4 F.2.2.1 = H82.1 7 4 F.2.2.1 := by subst hH93; rfl
  have g97 : H93.1 3 1 F.2.1 = H82.1 3 1 F.2.1 := by subst hH93; rfl
  have g98 : H93.1 3 3 F.2.1 = H82.1 3 3 F.2.1 := by subst hH93; rfl
  have g99 : H93.1 8 4 a0 = H82.1 8 4 a0 := by subst hH93; rfl
  have g100 : H93.1 8 4 s = H82.1 8 4 s := by subst hH93; rfl
  have g101 : H93.1 8 8 a0 = H82.1 8 8 a0 := by subst hH93; rfl
  have g102 : H93.1 8 8 s = H82.1 8 8 s := by subst hH93; rfl
  have g103 : H93.1 8 9 a0 = H82.1 8 9 a0 := by subst hH93; rfl
  have g104 : H93.1 8 11 a0 = H82.1 8 11 s := by subst hH93; exact if_pos rfl
  clear hH93
  exact J.retv rfl rfl rfl ⟨_, rfl, T, hI94, hS, hE95, (show ((w.2.1 : Nat) : Int) - 2 * H93.1 7 4 F.2.2.1 - 13 * H93.1 3 1 F.2.1 - H93.1 3 3 F.2.1 ≤ ((w.2.1 : Nat) : Int) - 2 * H.1 7 4 F.2.2.1 - 13 * H.1 3 1 F.2.1 - H.1 3 3 F.2.1 + (0) by omega), (show ((w.2.2 : Nat) : Int) - 18 * H93.1 7 4 F.2.2.1 - 700 * H93.1 3 1 F.2.1 - 6 * H93.1 3 3 F.2.1 ≤ ((w.2.2 : Nat) : Int) - 18 * H.1 7 4 F.2.2.1 - 700 * H.1 3 1 F.2.1 - 6 * H.1 3 3 F.2.1 + 10 * (0) by omega), rfl⟩
end
-- M: X4_clear
section
variable {d : Nat} {F : cG} 
set_option maxRecDepth 20000 in
set_option maxHeartbeats 8000000 in
theorem c_X4_clear {a0 : Nat} {T : cP} {w : jW} {H : jH} (hI : cJ F T w H) (ta0 : T 4 a0)  : J false d 24 w (0, jargs 0 [.inr (some (4, a0))], [], H) (jN fun v w' H' => ∃ T', cJ F T' w' H' ∧ (∀ k p, T k p → T' k p) ∧ cEx T [401, 402] H' H ∧ ((w'.2.1 : Nat) : Int) - 2 * H'.1 7 4 F.2.2.1 - 13 * H'.1 3 1 F.2.1 - H'.1 3 3 F.2.1 ≤ ((w.2.1 : Nat) : Int) - 2 * H.1 7 4 F.2.2.1 - 13 * H.1 3 1 F.2.1 - H.1 3 3 F.2.1 + (0) ∧ ((w'.2.2 : Nat) : Int) - 18 * H'.1 7 4 F.2.2.1 - 700 * H'.1 3 1 F.2.1 - 6 * H'.1 3 3 F.2.1 ≤ ((w.2.2 : Nat) : Int) - 18 * H.1 7 4 F.2.2.1 - 700 * H.1 3 1 F.2.1 - 6 * H.1 3 3 F.2.1 + 10 * (0) ∧ v = none) := by
  have hE : cEx T [401, 402] H H := cEx.refl
  have hS : ∀ k p, T k p → T k p := fun _ _ z => z
  refine J.run 3 rfl (hI.is ta0) ?_
  try dsimp only
  refine J.gn fun H1 hH1 => ?_
  have hI2 : cJ F T w H1 := by rw [hH1]; exact cJ.wi hI (show 0 ≤ (0 : Int) ∧ (0 : Int) ≤ 96 from ⟨by omega, by omega⟩) rfl rfl
  have hE3 : cEx T [401, 402] H1 H := by rw [hH1]; exact cEx.wi hE (by decide)
  have g4 : H1.1 7 4 F.2.2.1 = H.1 7 4 F.2.2.1 := by subst hH1; rfl
  have g5 : H1.1 3 1 F.2.1 = H.1 3 1 F.2.1 := by subst hH1; rfl
  have g6 : H1.1 3 3 F.2.1 = H.1 3 3 F.2.1 := by subst hH1; rfl
  have g7 : H1.1 4 1 a0 = (0 : Int) := by subst hH1; exact if_pos rfl
  clear hH1
  refine J.run 3 rfl (hI2.is ta0) ?_
  try dsimp only
  refine J.gn fun H8 hH8 => ?_
  have hI9 : cJ F T w H8 := by rw [hH8]; exact cJ.wi hI2 trivial rfl rfl
  have hE10 : cEx T [401, 402] H8 H := by rw [hH8]; exact cEx.wi hE3 (by decide)
  have g11 : H8.1 7 4 F.2.2.1 = H1.1 7 4 F.2.2.1 := by subst hH8; rfl
  have g12 : H8.1 3 1 F.2.1 = H1.1 3 1 F.2.1 := by subst hH8; rfl
  have g13 : H8.1 3 3 F.2.1 = H1.1 3 3 F.2.1 := by subst hH8; rfl
  have g14 : H8.1 4 1 a0 = H1.1 4 1 a0 := by subst hH8; rfl
  have g15 : H8.1 4 2 a0 = (0 : Int) := by subst hH8; exact if_pos rfl
  clear hH8
  exact J.retv rfl rfl rfl ⟨_, rfl, T, hI9, hS, hE10, (show ((w.2.1 : Nat) : Int) - 2 * H8.1 7 4 F.2.2.1 - 13 * H8.1 3 1 F.2.1 - H8.1 3 3 F.2.1 ≤ ((w.2.1 : Nat) : Int) - 2 * H.1 7 4 F.2.2.1 - 13 * H.1 3 1 F.2.1 - H.1 3 3 F.2.1 + (0) by omega), (show ((w.2.2 : Nat) : Int) - 18 * H8.1 7 4 F.2.2.1 - 700 * H8.1 3 1 F.2.1 - 6 * H8.1 3 3 F.2.1 ≤ ((w.2.2 : Nat) : Int) - 18 * H.1 7 4 F.2.2.1 - 700 * H.1 3 1 F.2.1 - 6 * H.1 3 3 F.2.1 + 10 * (0) by omega), rfl⟩
end
