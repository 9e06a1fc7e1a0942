/-! the class's calls on a new object: fault, power, start, told -/
section SN
variable {b : Bool} {d : Nat} {w : jW} {H : jH} {F : cF} {je mp bp sp : Nat → Nat}
theorem cPic.sm (hF : fRm F) (hP : cPic F w (zc 16) H je mp bp sp) : wSm w := cRoom.small hF (zc_inv 16 (Nat.le_refl _)) hP.2.2.2.2
theorem cPic.n16 (hP : cPic F w (zc 16) H je mp bp sp) {n : Nat} (hn : n < 16) : cNd w (v16 n) (zk (zc 16)) H n (fN F n) (fO F n) (bp 0) (je n) := by
  have h := hP.2.2.2.1 n hn
  rw [zN16 n, zh16 n] at h
  exact h
theorem cPic.b16 (hP : cPic F w (zc 16) H je mp bp sp) {i : Nat} (hi : i < 2) : H.2.2.2.1 21 (fL F) (i : Int) = some (bp i) ∧ cBlk w H bp sp i := by
  have h := hP.2.2.1.2.2.2.1 i (by rw [zB16]; exact hi)
  exact ⟨h.1, h.2.2⟩
theorem range_succ_c (g : Nat → Bool) (n : Nat) : (List.range (n + 1)).countP g = (List.range n).countP g + if g n = true then 1 else 0 := by
  rw [List.range_succ, List.countP_append]
  by_cases h : g n = true
  · simp [h]
  · simp [h]
abbrev fLv (F : cF) (i : Nat) (c : Int) : jL := [(2, .inl (i : Int)), (1, .inl c), (0, .inr (some (10, fX F)))]
theorem c_faultyNodes_l {g : Nat → Bool} (hT : cTop F w H) (h6 : ∀ n, n < 16 → w.1 6 (fN F n)) (hg : ∀ n, n < 16 → H.1 6 10 (fN F n) = if g n = true then 1 else 0) : ∀ (m i : Nat), i + m = 16 → J b d 105 w (4, fLv F i (((List.range i).countP g : Nat) : Int), [], H) (jN fun r w' H' => r = some (.inl (((List.range 16).countP g : Nat) : Int)) ∧ w' = w ∧ H' = H) := by
  obtain ⟨⟨t1, t2, -⟩, tn, -⟩ := hT
  intro m
  induction m with
  | zero =>
    intro i hi
    obtain rfl : i = 16 := by omega
    refine J.run0 2 rfl ?_
    try dsimp only
    refine J.icmp rfl rfl rfl ⟨⟨by decide, by decide⟩, by decide, by decide⟩ (fun _ => ?_) (fun hc => absurd (show (16 : Int) ≤ (16 : Nat) by decide) hc)
    refine J.run0 1 rfl ?_
    try dsimp only
    exact J.reti rfl rfl rfl ⟨_, rfl, rfl, rfl, rfl⟩
  | succ m ih =>
    intro i hi
    have hi16 : i < 16 := by omega
    refine J.run0 2 rfl ?_
    try dsimp only
    refine J.icmp rfl rfl rfl ⟨⟨by omega, by omega⟩, by decide, by decide⟩ (fun hc => absurd (show (16 : Int) ≤ (i : Int) from hc) (by omega)) (fun _ => ?_)
    refine J.run 4 rfl ⟨⟨t1, t2⟩, t2, show (0 : Int) ≤ i by omega, show (i : Int) < 16 by omega⟩ ?_
    try dsimp only
    try dsimp only
    rw [tn i hi16]
    refine J.run 1 rfl (h6 i hi16) ?_
    try dsimp only
    try dsimp only
    rw [hg i hi16]
    have e := range_succ_c g i
    by_cases hgi : g i = true
    · rw [if_pos hgi] at e ⊢
      refine J.ifc rfl rfl rfl ⟨by decide, by decide⟩ (fun hc => absurd hc (show ¬ (1 : Int) = 0 by decide)) (fun _ => ?_)
      refine J.run0 1 rfl ?_
      try dsimp only
      refine J.run0 2 rfl ?_
      try dsimp only
      have h9 := ih (i + 1) (by omega)
      rw [e] at h9
      exact h9
    · rw [if_neg hgi] at e ⊢
      refine J.ifc rfl rfl rfl ⟨by decide, by decide⟩ (fun _ => ?_) (fun hc => absurd rfl hc)
      refine J.run0 2 rfl ?_
      try dsimp only
      have h9 := ih (i + 1) (by omega)
      rw [e] at h9
      exact h9
theorem c_faultyNodes {g : Nat → Bool} (hT : cTop F w H) (h6 : ∀ n, n < 16 → w.1 6 (fN F n)) (hg : ∀ n, n < 16 → H.1 6 10 (fN F n) = if g n = true then 1 else 0) : J b d 105 w (0, jargs 0 [.inr (some (10, fX F))], [], H) (jN fun r w' H' => r = some (.inl (((List.range 16).countP g : Nat) : Int)) ∧ w' = w ∧ H' = H) := by
  refine J.run0 4 rfl ?_
  try dsimp only
  exact c_faultyNodes_l hT h6 hg 16 0 rfl
theorem one_of_16 : ∀ m, m < 16 → (List.range 16).countP (fun j => decide (j = m)) = 1 := by decide
theorem c_fault {n : Int} (hF : fRm F) (hP : cPic F w (zc 16) H je mp bp sp) (bn : jR n) : J b (d + 6) 72 w (0, jargs 0 [.inr (some (10, fX F)), .inl n], [], H) (cOut H (if 0 ≤ n ∧ n ≤ 15 then 0 else 1) 14 1) := by
  have hw := hP.sm hF
  obtain ⟨⟨t1, t2, -⟩, tn, ti, -⟩ := hP.1
  by_cases h : 0 ≤ n ∧ n ≤ 15
  rotate_left
  · rw [if_neg h]
    refine J.run0 1 rfl ?_
    try dsimp only
    refine J.ins rfl rfl rfl rfl rfl rfl rfl rfl rfl (c_isNode bn) ?_
    rintro r w H ⟨rfl, rfl, rfl⟩
    rw [if_neg h]
    refine J.ifc rfl rfl rfl ⟨by decide, by decide⟩ (fun hc => absurd rfl hc) (fun _ => ?_)
    exact c_thr hw (by decide) rfl rfl rfl rfl
  rw [if_pos h]
  refine J.run0 1 rfl ?_
  try dsimp only
  refine J.ins rfl rfl rfl rfl rfl rfl rfl rfl rfl (c_isNode bn) ?_
  rintro r w H ⟨rfl, rfl, rfl⟩
  rw [if_pos h]
  refine J.ifc rfl rfl rfl ⟨by decide, by decide⟩ (fun _ => ?_) (fun hc => absurd (show ¬ (1 : Int) = 0 by decide) hc)
  obtain ⟨m, rfl⟩ : ∃ m : Nat, n = (m : Int) := ⟨n.toNat, by omega⟩
  have hm : m < 16 := by omega
  have h6 : ∀ n, n < 16 → w.1 6 (fN F n) := fun n hn => (hP.n16 hn).1.1
  refine J.run 4 rfl ⟨⟨t1, t2⟩, t2, h.1, show (m : Int) < 16 by omega⟩ ?_
  try dsimp only
  try dsimp only
  rw [tn m hm]
  refine J.run 6 rfl ⟨⟨h6 m hm, Or.inr rfl⟩, ⟨t1, t2⟩, t2, h.1, show (m : Int) < 16 by omega⟩ ?_
  try dsimp only
  try dsimp only
  rw [tn m hm]
  refine J.run 3 rfl ⟨h6 m hm, Or.inl rfl⟩ ?_
  try dsimp only
  refine J.gn fun H1 hH1 => ?_
  have k1 : jK [6] [] H1 H := by
    rw [hH1]
    refine jK.int ?_ (by decide)
    refine jK.int ?_ (by decide)
    exact jK.refl _ _ _
  have g1 : ∀ j, j < 16 → H1.1 6 10 (fN F j) = if decide (j = m) = true then 1 else 0 := fun j hj => by
    rw [hH1]
    show jupF (jupF H.1 6 10 (fN F m) 1) 6 11 (fN F m) 0 6 10 (fN F j) = _
    rw [jupF_ne fun z => absurd z.2.1 (by decide)]
    by_cases hjm : j = m
    · subst hjm
      rw [if_pos (by simp)]
      exact if_pos rfl
    · rw [jupF_ne fun z => hjm (ti j m hj hm z.2.2), if_neg (by simp [hjm])]
      exact (hP.n16 hj).2.1.2.2.2.2.2.2.1
  clear hH1
  refine J.inv rfl rfl rfl rfl rfl rfl ((jD_w rfl).mpr t1) rfl rfl rfl rfl rfl (c_faultyNodes (g := fun j => decide (j = m)) (hP.1.mv (fun _ _ h => h) k1 (by decide) (fun h => (nomatch h))) h6 g1) ?_
  rintro r w H1 ⟨rfl, rfl, rfl⟩
  refine J.reti rfl rfl rfl ?_
  rw [one_of_16 m hm]
  exact cOut.ok hw (k1.cl rfl rfl)
/-- power answers nothing -/
theorem c_power {n x : Int} (hF : fRm F) (hP : cPic F w (zc 16) H je mp bp sp) (bn : jR n) (bx : jR x) : J b (d + 6) 79 w (0, jargs 0 [.inr (some (10, fX F)), .inl n, .inl x], [], H)
    (fun o w' H' => jCl H' H ∧ ((((0 ≤ n ∧ n ≤ 15) ∧ 0 ≤ x ∧ x ≤ 13) ∧ o = .inl none) ∨ (¬ (0 ≤ n ∧ n ≤ 15) ∧ o = .inr 14) ∨ ((0 ≤ n ∧ n ≤ 15) ∧ ¬ (0 ≤ x ∧ x ≤ 13) ∧ o = .inr 12)) ∧ w'.2.1 ≤ 30000 ∧ w'.2.2 ≤ 1000000) := by
  have hw := hP.sm hF
  obtain ⟨⟨t1, t2, -⟩, tn, ti, -⟩ := hP.1
  refine J.run0 1 rfl ?_
  try dsimp only
  refine J.ins rfl rfl rfl rfl rfl rfl rfl rfl rfl (c_isNode bn) ?_
  rintro r w H ⟨rfl, rfl, rfl⟩
  by_cases h : 0 ≤ n ∧ n ≤ 15
  rotate_left
  · rw [if_neg h]
    refine J.ifc rfl rfl rfl ⟨by decide, by decide⟩ (fun hc => absurd rfl hc) (fun _ => ?_)
    exact J.thr rfl rfl rfl rfl ⟨jCl.refl _, Or.inr (Or.inl ⟨h, rfl⟩), by show w.2.1 + 1 ≤ 30000; have := hw.1; omega, by show w.2.2 + 6 ≤ 1000000; have := hw.2; omega⟩
  rw [if_pos h]
  refine J.ifc rfl rfl rfl ⟨by decide, by decide⟩ (fun _ => ?_) (fun hc => absurd (show ¬ (1 : Int) = 0 by decide) hc)
  have thr : ∀ lv : jL, ¬ (0 ≤ x ∧ x ≤ 13) → J b (d + 6) 79 w (27, lv, [], H) (fun o w' H' => jCl H' H ∧ ((((0 ≤ n ∧ n ≤ 15) ∧ 0 ≤ x ∧ x ≤ 13) ∧ o = .inl none) ∨ (¬ (0 ≤ n ∧ n ≤ 15) ∧ o = .inr 14) ∨ ((0 ≤ n ∧ n ≤ 15) ∧ ¬ (0 ≤ x ∧ x ≤ 13) ∧ o = .inr 12)) ∧ w'.2.1 ≤ 30000 ∧ w'.2.2 ≤ 1000000) := fun lv hx => J.thr rfl rfl rfl rfl ⟨jCl.refl _, Or.inr (Or.inr ⟨h, hx, rfl⟩), by show w.2.1 + 1 ≤ 30000; have := hw.1; omega, by show w.2.2 + 6 ≤ 1000000; have := hw.2; omega⟩
  refine J.run0 1 rfl ?_
  try dsimp only
  refine J.ifc rfl rfl rfl bx (fun hc => thr _ (by have : x < 0 := hc; omega)) (fun hc => ?_)
  have hc' : ¬ x < 0 := hc
  refine J.run0 2 rfl ?_
  try dsimp only
  refine J.icmp rfl rfl rfl ⟨bx, by decide, by decide⟩ (fun hc2 => ?_) (fun hc2 => thr _ (by have : ¬ x ≤ 13 := hc2; omega))
  have hc2' : x ≤ 13 := hc2
  obtain ⟨m, rfl⟩ : ∃ m : Nat, n = (m : Int) := ⟨n.toNat, by omega⟩
  have hm : m < 16 := by omega
  refine J.run 4 rfl ⟨⟨t1, t2⟩, t2, h.1, show (m : Int) < 16 by omega⟩ ?_
  try dsimp only
  try dsimp only
  rw [tn m hm]
  refine J.run 2 rfl (hP.n16 hm).1.1 ?_
  try dsimp only
  refine J.gn fun H1 hH1 => ?_
  have k1 : jK [6] [] H1 H := by
    rw [hH1]
    refine jK.int ?_ (by decide)
    exact jK.refl _ _ _
  clear hH1
  exact J.retv rfl rfl rfl ⟨k1.cl rfl rfl, Or.inl ⟨⟨h, by omega, hc2'⟩, rfl⟩, by have := hw.1; omega, by have := hw.2; omega⟩
theorem c_start {n : Int} (hF : fRm F) (hP : cPic F w (zc 16) H je mp bp sp) (bn : jR n) : J b (d + 6) 80 w (0, jargs 0 [.inr (some (10, fX F)), .inl n], [], H) (cOut H (if 0 ≤ n ∧ n ≤ 15 then 2 else 1) (if 0 ≤ n ∧ n ≤ 15 then 13 else 14) 0) := by
  have hw := hP.sm hF
  obtain ⟨⟨t1, t2, -⟩, tn, ti, -⟩ := hP.1
  by_cases h : 0 ≤ n ∧ n ≤ 15
  rotate_left
  · rw [if_neg h, if_neg h]
    refine J.run0 1 rfl ?_
    try dsimp only
    refine J.ins rfl rfl rfl rfl rfl rfl rfl rfl rfl (c_isNode bn) ?_
    rintro r w H ⟨rfl, rfl, rfl⟩
    rw [if_neg h]
    refine J.ifc rfl rfl rfl ⟨by decide, by decide⟩ (fun hc => absurd rfl hc) (fun _ => ?_)
    exact c_thr hw (by decide) rfl rfl rfl rfl
  rw [if_pos h, if_pos h]
  refine J.run0 1 rfl ?_
  try dsimp only
  refine J.ins rfl rfl rfl rfl rfl rfl rfl rfl rfl (c_isNode bn) ?_
  rintro r w H ⟨rfl, rfl, rfl⟩
  rw [if_pos h]
  refine J.ifc rfl rfl rfl ⟨by decide, by decide⟩ (fun _ => ?_) (fun hc => absurd (show ¬ (1 : Int) = 0 by decide) hc)
  obtain ⟨m, rfl⟩ : ∃ m : Nat, n = (m : Int) := ⟨n.toNat, by omega⟩
  have hm : m < 16 := by omega
  have hN := hP.n16 hm
  have ed : H.1 6 11 (fN F m) = 0 := hN.2.1.2.2.2.2.2.2.2.1
  refine J.run 4 rfl ⟨⟨t1, t2⟩, t2, h.1, show (m : Int) < 16 by omega⟩ ?_
  try dsimp only
  try dsimp only
  rw [tn m hm]
  refine J.run 3 rfl hN.1.1 ?_
  try dsimp only
  try dsimp only
  rw [ed]
  refine J.ifc rfl rfl rfl ⟨by decide, by decide⟩ (fun hc => absurd rfl hc) (fun _ => ?_)
  exact c_thr hw (by decide) rfl rfl rfl rfl
def tolA (n what : Int) : Int := match what.toNat with
  | 0 => 1
  | 1 => 0
  | 2 => if n = 1 then 1 else 0
  | 3 => 0
  | 4 => -1
  | 5 => -1
  | 6 => -1
  | 7 => -1
  | 8 => if n = 1 then 2 else 0
  | 9 => 0
  | 10 => 1
  | _ => if n = 1 then 24 else 0
abbrev isN (n : Int) : Prop := 0 ≤ n ∧ n ≤ 15
def tolK (n what : Int) : Int := if isN n then (if 0 ≤ what ∧ what ≤ 11 then 0 else 2) else 1
set_option maxRecDepth 8000 in
theorem c_told {n what : Int} (hF : fRm F) (hP : cPic F w (zc 16) H je mp bp sp) (bn : jR n) (bx : jR what) : J b (d + 6) 81 w (0, jargs 0 [.inr (some (10, fX F)), .inl n, .inl what], [], H) (cOut H (tolK n what) (if isN n then 12 else 14) (tolA n what)) := by
  have hw := hP.sm hF
  obtain ⟨⟨t1, t2, -⟩, tn, ti, -⟩ := hP.1
  unfold tolK
  by_cases h : isN n
  rotate_left
  · rw [if_neg h, if_neg h]
    refine J.run0 1 rfl ?_
    try dsimp only
    refine J.ins rfl rfl rfl rfl rfl rfl rfl rfl rfl (c_isNode bn) ?_
    rintro r w H ⟨rfl, rfl, rfl⟩
    rw [if_neg h]
    refine J.ifc rfl rfl rfl ⟨by decide, by decide⟩ (fun hc => absurd rfl hc) (fun _ => ?_)
    exact c_thr hw (by decide) rfl rfl rfl rfl
  rw [if_pos h, if_pos h]
  refine J.run0 1 rfl ?_
  try dsimp only
  refine J.ins rfl rfl rfl rfl rfl rfl rfl rfl rfl (c_isNode bn) ?_
  rintro r w H ⟨rfl, rfl, rfl⟩
  rw [if_pos h]
  refine J.ifc rfl rfl rfl ⟨by decide, by decide⟩ (fun _ => ?_) (fun hc => absurd (show ¬ (1 : Int) = 0 by decide) hc)
  obtain ⟨m, rfl⟩ : ∃ m : Nat, n = (m : Int) := ⟨n.toNat, by omega⟩
  have hm : m < 16 := by omega
  have hN := hP.n16 hm
  have ed : H.1 6 11 (fN F m) = 0 := hN.2.1.2.2.2.2.2.2.2.1
  have ef : H.1 6 10 (fN F m) = 0 := hN.2.1.2.2.2.2.2.2.1
  have h6 := hN.1.1
  have hG := (hP.b16 (i := 0) (by decide)).2
  have ht0 : H.1 0 1 (bp 0) = 0 := hG.1.2.2.2.1
  have fr := hN.2.2.1.2.2.2.2 (v16_e m)
  refine J.run 4 rfl ⟨⟨t1, t2⟩, t2, h.1, show (m : Int) < 16 by omega⟩ ?_
  try dsimp only
  try dsimp only
  rw [tn m hm]
  refine J.run0 2 rfl ?_
  try dsimp only
  by_cases hx : 0 ≤ what ∧ what ≤ 11
  rotate_left
  · rw [if_neg hx]
    refine J.tsw rfl rfl rfl bx (if_pos (by omega)) ?_
    exact c_thr hw (by decide) rfl rfl rfl rfl
  rw [if_pos hx]
  have hdn : ∀ {pc : Nat} {lv : jL} {off : Int} {t : Nat} {Post : jO → jW → jH → Prop}, xat 81 pc = some (.ifCond .eq off, 3) → xj pc off = some t → J b (d + 6) 81 w (t, lv, [], H) Post → J b (d + 6) 81 w (pc, lv, [.inl (H.1 6 11 (fN F m))], H) Post := fun {pc lv off t Post} hi hj hh => by
    rw [ed]
    exact J.ifc rfl hi hj ⟨by decide, by decide⟩ (fun _ => hh) (fun hc => absurd rfl hc)
  have hwh : what = 0 ∨ what = 1 ∨ what = 2 ∨ what = 3 ∨ what = 4 ∨ what = 5 ∨ what = 6 ∨ what = 7 ∨ what = 8 ∨ what = 9 ∨ what = 10 ∨ what = 11 := by omega
  rcases hwh with rfl | rfl | rfl | rfl | rfl | rfl | rfl | rfl | rfl | rfl | rfl | rfl
  · refine J.tsw rfl rfl rfl bx rfl ?_
    refine J.run0 1 rfl ?_
    try dsimp only
    refine J.inv rfl rfl rfl rfl rfl rfl ((jD_w rfl).mpr h6) rfl rfl rfl rfl rfl (c_height h6 hN.2.1.2.1 hG.1.2.1 hG.1.1) ?_
    rintro r w H ⟨rfl, rfl, rfl⟩
    refine J.reti rfl rfl rfl ?_
    rw [ht0]
    exact cOut.ok hw (jCl.refl _)
  · refine J.tsw rfl rfl rfl bx rfl ?_
    refine J.run 2 rfl h6 ?_
    try dsimp only
    refine hdn rfl rfl ?_
    refine J.run 2 rfl h6 ?_
    try dsimp only
    refine J.reti rfl rfl rfl ?_
    try dsimp only
    rw [show H.1 6 2 (fN F m) = 0 from hN.2.1.2.2.1]
    exact cOut.ok hw (jCl.refl _)
  · refine J.tsw rfl rfl rfl bx rfl ?_
    refine J.run 2 rfl h6 ?_
    try dsimp only
    refine hdn rfl rfl ?_
    refine J.run 2 rfl h6 ?_
    try dsimp only
    refine J.reti rfl rfl rfl ?_
    try dsimp only
    have e : H.1 6 3 (fN F m) = tolA m 2 := by
      rw [hN.2.1.2.2.2.1]
      show (((v16 m).2.1 : Nat) : Int) = if (m : Int) = 1 then 1 else 0
      unfold v16
      by_cases h1 : m = 1
      · rw [if_pos h1, if_pos (show (m : Int) = 1 by omega)]; rfl
      · rw [if_neg h1, if_neg (show ¬ (m : Int) = 1 by omega)]; rfl
    rw [e]
    exact cOut.ok hw (jCl.refl _)
  · refine J.tsw rfl rfl rfl bx rfl ?_
    have el : H.2.2.2.2 6 1 (fN F m) = bp 0 := hN.2.1.2.1
    refine J.run 2 rfl ⟨h6, by rw [el]; exact hG.1.2.1⟩ ?_
    try dsimp only
    try dsimp only
    rw [el]
    refine J.run 1 rfl hG.1.1 ?_
    try dsimp only
    refine J.reti rfl rfl rfl ?_
    try dsimp only
    rw [show H.1 0 0 (bp 0) = 0 from hG.1.2.2.1]
    exact cOut.ok hw (jCl.refl _)
  · refine J.tsw rfl rfl rfl bx rfl ?_
    refine J.run 2 rfl h6 ?_
    try dsimp only
    refine hdn rfl rfl ?_
    refine J.run 2 rfl h6 ?_
    try dsimp only
    refine J.reti rfl rfl rfl ?_
    try dsimp only
    rw [fr.1]
    exact cOut.ok hw (jCl.refl _)
  · refine J.tsw rfl rfl rfl bx rfl ?_
    refine J.run 2 rfl h6 ?_
    try dsimp only
    refine hdn rfl rfl ?_
    refine J.run 2 rfl h6 ?_
    try dsimp only
    refine J.reti rfl rfl rfl ?_
    try dsimp only
    rw [fr.2.1]
    exact cOut.ok hw (jCl.refl _)
  · refine J.tsw rfl rfl rfl bx rfl ?_
    refine J.run 2 rfl h6 ?_
    try dsimp only
    refine hdn rfl rfl ?_
    refine J.run 2 rfl h6 ?_
    try dsimp only
    refine J.reti rfl rfl rfl ?_
    try dsimp only
    rw [fr.2.2.1]
    exact cOut.ok hw (jCl.refl _)
  · refine J.tsw rfl rfl rfl bx rfl ?_
    refine J.run 2 rfl h6 ?_
    try dsimp only
    refine hdn rfl rfl ?_
    refine J.run 2 rfl h6 ?_
    try dsimp only
    refine J.reti rfl rfl rfl ?_
    try dsimp only
    rw [fr.2.2.2]
    exact cOut.ok hw (jCl.refl _)
  · refine J.tsw rfl rfl rfl bx rfl ?_
    refine J.run 2 rfl h6 ?_
    try dsimp only
    refine J.reti rfl rfl rfl ?_
    try dsimp only
    have e : H.1 6 16 (fN F m) = tolA m 8 := by
      rw [hN.2.2.2.2.1]
      show (((v16 m).2.2.2.2.length : Nat) : Int) = if (m : Int) = 1 then 2 else 0
      unfold v16
      by_cases h1 : m = 1
      · rw [if_pos h1, if_pos (show (m : Int) = 1 by omega)]; rfl
      · rw [if_neg h1, if_neg (show ¬ (m : Int) = 1 by omega)]; rfl
    rw [e]
    exact cOut.ok hw (jCl.refl _)
  · refine J.tsw rfl rfl rfl bx rfl ?_
    refine J.run 2 rfl h6 ?_
    try dsimp only
    try dsimp only
    rw [ef]
    refine J.ifc rfl rfl rfl ⟨by decide, by decide⟩ (fun _ => ?_) (fun hc => absurd rfl hc)
    refine J.run 2 rfl h6 ?_
    try dsimp only
    refine hdn rfl rfl ?_
    refine J.run0 1 rfl ?_
    try dsimp only
    exact J.reti rfl rfl rfl (cOut.ok hw (jCl.refl _))
  · refine J.tsw rfl rfl rfl bx rfl ?_
    refine J.run 2 rfl h6 ?_
    try dsimp only
    refine hdn rfl rfl ?_
    refine J.run 3 rfl h6 ?_
    try dsimp only
    try dsimp only
    rw [show H.1 6 2 (fN F m) = 0 from hN.2.1.2.2.1]
    refine J.inv rfl rfl rfl rfl rfl rfl ((jD_w rfl).mpr h6) rfl rfl rfl rfl rfl (c_prop (h := 1) h6 hN.2.1.2.1 hG.1.2.1 hG.1.1 hG.2.2.2.1 hG.2.2.2.2.1.1 hG.2.2.2.2.2.2 (by rw [ht0]; rfl) (by decide)) ?_
    rintro r w H ⟨rfl, rfl, rfl⟩
    exact J.reti rfl rfl rfl (cOut.ok hw (jCl.refl _))
  · refine J.tsw rfl rfl rfl bx rfl ?_
    obtain ⟨l1, l2, l3⟩ := hN.2.2.2.1
    have h4 := hN.1.2.2.2.2
    refine J.run 2 rfl ⟨h6, by rw [l1]; exact h4.2.1⟩ ?_
    try dsimp only
    try dsimp only
    rw [l1]
    refine J.run 5 rfl ⟨h4.1, h6, by rw [l1]; exact h4.2.1⟩ ?_
    try dsimp only
    try dsimp only
    rw [l1]
    refine J.run 2 rfl h4.1 ?_
    try dsimp only
    refine J.reti rfl rfl rfl ?_
    try dsimp only
    have e : H.1 4 1 (fO F m) * 12 + H.1 4 2 (fO F m) = tolA m 11 := by
      rw [l2, l3]
      show (((v16 m).2.2.2.1 : Nat) : Int) * 12 + 0 = if (m : Int) = 1 then 24 else 0
      unfold v16
      by_cases h1 : m = 1
      · rw [if_pos h1, if_pos (show (m : Int) = 1 by omega)]; rfl
      · rw [if_neg h1, if_neg (show ¬ (m : Int) = 1 by omega)]; rfl
    rw [e]
    exact cOut.ok hw (jCl.refl _)
end SN
