/-! the class: its constructor, what is there -/
section CU
variable {T : cP} {d : Nat} {w w' : jW} {H H' H1 H2 : jH} {ks : List Nat}
theorem cT.same (h : cT T w H) (hs : cEx T [] H' H) (hw : ∀ k p, w.1 k p → w'.1 k p) : cT T w' H' := by
  obtain ⟨t1, t2, t3, t4, t5, t6, t7⟩ := h
  have n : ∀ i : Nat, i ∉ ([] : List Nat) := fun i z => nomatch z
  have e1 : ∀ {c p}, T c p → ∀ j, H'.1 c j p = H.1 c j p := fun ht j => (hs.1 _ j _ ht).1 (n _)
  have e2 : ∀ {c p}, T c p → ∀ j, H'.2.1 c j p = H.2.1 c j p := fun ht j => (hs.1 _ j _ ht).2.1 (n _)
  have e3 : ∀ {c p}, T c p → ∀ j, H'.2.2.2.2 c j p = H.2.2.2.2 c j p := fun ht j => (hs.1 _ j _ ht).2.2 (n _)
  have e4 : ∀ {k p}, T k p → H'.2.2.1 k p = H.2.2.1 k p := fun ht => (hs.2 _ _ ht).1 (n _)
  have e5 : ∀ {k p}, T k p → H'.2.2.2.1 k p = H.2.2.2.1 k p := fun ht => (hs.2 _ _ ht).2 (n _)
  exact ⟨fun k p ht => ⟨hw _ _ (t1 k p ht).1, (t1 k p ht).2⟩, t2, fun c j k p q hf ht hq => t3 c j k p q hf ht (by rw [← e2 ht]; exact hq), fun c j k p hf ht => by rw [e3 ht]; exact t4 c j k p hf ht, fun k t n tk p i q hf ht hq => t5 k t n tk p i q hf ht (by rw [← e5 ht]; exact hq), fun c j p hj ht => by rw [e1 ht]; exact t6 c j p hj ht, fun k p i ht => by rw [e4 ht]; exact t7 k p i ht⟩
theorem cT.addB {c m : Nat} (h : cT T w H) (hw : w.1 c m) (h0 : 0 < m) (h1 : ∀ j k, jft c j = some (1, k) → T k m) (h2 : ∀ j k q, jft c j = some (2, k) → H.2.1 c j m = some q → T k q) (h3 : ∀ j k, jft c j = some (3, k) → 0 < H.2.2.2.2 c j m ∧ T k (H.2.2.2.2 c j m)) (h4 : ∀ t' n tk i q, jrk c = some (t' + 3, n, tk) → H.2.2.2.1 c m i = some q → T tk q) (h5 : ∀ j, j < 100 → cvi c j (H.1 c j m)) (h6 : ∀ i, cri c (H.2.2.1 c m i)) : cT (tA T c m) w H := by
  obtain ⟨t1, t2, t3, t4, t5, t6, t7⟩ := h
  refine ⟨fun k p ht => ?_, fun c' j k p hf ht => ?_, fun c' j k p q hf ht hq => ?_, fun c' j k p hf ht => ?_, fun k t n tk p i q hf ht hq => ?_, fun c' j p hj ht => ?_, fun k p i ht => ?_⟩
  · rcases ht with ht | ⟨rfl, rfl⟩
    · exact t1 k p ht
    · exact ⟨hw, h0⟩
  · rcases ht with ht | ⟨rfl, rfl⟩
    · exact Or.inl (t2 c' j k p hf ht)
    · exact Or.inl (h1 j k hf)
  · rcases ht with ht | ⟨rfl, rfl⟩
    · exact Or.inl (t3 c' j k p q hf ht hq)
    · exact Or.inl (h2 j k q hf hq)
  · rcases ht with ht | ⟨rfl, rfl⟩
    · exact ⟨(t4 c' j k p hf ht).1, Or.inl (t4 c' j k p hf ht).2⟩
    · exact ⟨(h3 j k hf).1, Or.inl (h3 j k hf).2⟩
  · rcases ht with ht | ⟨rfl, rfl⟩
    · exact Or.inl (t5 k t n tk p i q hf ht hq)
    · exact Or.inl (h4 t n tk i q hf hq)
  · rcases ht with ht | ⟨rfl, rfl⟩
    · exact t6 c' j p hj ht
    · exact h5 j hj
  · rcases ht with ht | ⟨rfl, rfl⟩
    · exact t7 k p i ht
    · exact h6 i
theorem cvi_hi {c j : Nat} {x : Int} (hc : 12 ≤ c) (h2 : c ≠ 42) (hj : j < 100) : cvi c j x := by
  refine cvi_of (c := c) (f := fun _ => x) (fun z hz => ?_) hj
  simp only [cvt, List.mem_cons, List.not_mem_nil, or_false] at hz
  rcases hz with rfl | rfl | rfl | rfl | rfl | rfl | rfl | rfl | rfl | rfl | rfl | rfl | rfl | rfl | rfl | rfl | rfl | rfl | rfl | rfl | rfl | rfl | rfl | rfl | rfl | rfl | rfl | rfl | rfl | rfl | rfl | rfl
  all_goals exact fun e => absurd e (by omega)
theorem cT.row {c m : Nat} (h : cT T w H) (hc : 12 ≤ c) (h2 : c ≠ 42) (hn : jfd[c]? = none) (hw : w.1 c m) (h0 : 0 < m) (h4 : ∀ t' n tk i q, jrk c = some (t' + 3, n, tk) → H.2.2.2.1 c m i = some q → T tk q) (h6 : ∀ i, cri c (H.2.2.1 c m i)) : cT (tA T c m) w H := by
  have no : ∀ j z, jft c j = some z → False := fun j z hz => by
    unfold jft at hz
    rw [hn] at hz
    cases hz
  exact cT.addB h hw h0 (fun j k z => absurd z fun z => no _ _ z) (fun j k q z => absurd z fun z => no _ _ z) (fun j k z => absurd z fun z => no _ _ z) h4 (fun j hj => cvi_hi hc h2 hj) h6
/-- a row of ints -/
theorem cT.ri {c m : Nat} (h : cT T w H) (hc : 12 ≤ c) (h2 : c ≠ 42) (hn : jfd[c]? = none) (ha : jra c = true) (hw : w.1 c m) (h0 : 0 < m) (h6 : ∀ i, cri c (H.2.2.1 c m i)) : cT (tA T c m) w H := cT.row h hc h2 hn hw h0 (fun _ _ _ _ _ z => absurd z fun z => jra_ok ha z) h6
/-- a row of nothing -/
theorem cT.rn {c m : Nat} (h : cT T w H) (hc : 12 ≤ c) (h2 : c ≠ 42) (hn : jfd[c]? = none) (hw : w.1 c m) (h0 : 0 < m) (h4 : ∀ i, H.2.2.2.1 c m i = none) (h6 : ∀ i, cri c (H.2.2.1 c m i)) : cT (tA T c m) w H := cT.row h hc h2 hn hw h0 (fun _ _ _ i q _ z => by rw [h4 i] at z; cases z) h6
/-- a STATE -/
theorem cT.st {m pw : Nat} (h : cT T w H) (hw : ∀ k, 32 ≤ k → k ≤ 39 → w.1 k m) (h8 : w.1 8 m) (h0 : 0 < m) (hp : w.1 43 pw) (hp0 : 0 < pw) (h34 : ∀ i, 0 ≤ H.2.2.1 34 m i ∧ H.2.2.1 34 m i ≤ 15) (h36 : ∀ i, 0 ≤ H.2.2.1 36 m i ∧ H.2.2.1 36 m i ≤ 199) (hv4 : 0 ≤ H.1 8 4 m ∧ H.1 8 4 m ≤ 96) (hv8 : 0 ≤ H.1 8 8 m ∧ H.1 8 8 m ≤ 32) (ho : H.2.2.2.2 8 12 m = pw) : cT (tSt T m pw) w H := by
  have g0 := cT.ri (c := 43) h (by decide) (by decide) rfl rfl hp hp0 (fun i => trivial)
  have g1 := cT.ri (c := 32) g0 (by decide) (by decide) rfl rfl (hw 32 (by decide) (by decide)) h0 (fun i => trivial)
  have g2 := cT.ri (c := 33) g1 (by decide) (by decide) rfl rfl (hw 33 (by decide) (by decide)) h0 (fun i => trivial)
  have g3 := cT.ri (c := 34) g2 (by decide) (by decide) rfl rfl (hw 34 (by decide) (by decide)) h0 (fun i => h34 i)
  have g4 := cT.ri (c := 35) g3 (by decide) (by decide) rfl rfl (hw 35 (by decide) (by decide)) h0 (fun i => trivial)
  have g5 := cT.ri (c := 36) g4 (by decide) (by decide) rfl rfl (hw 36 (by decide) (by decide)) h0 (fun i => h36 i)
  have g6 := cT.ri (c := 37) g5 (by decide) (by decide) rfl rfl (hw 37 (by decide) (by decide)) h0 (fun i => trivial)
  have g7 := cT.ri (c := 38) g6 (by decide) (by decide) rfl rfl (hw 38 (by decide) (by decide)) h0 (fun i => trivial)
  have g8 := cT.ri (c := 39) g7 (by decide) (by decide) rfl rfl (hw 39 (by decide) (by decide)) h0 (fun i => trivial)
  refine cT.add g8 h8 h0 (fun j k z => ?_) (fun j k q z => absurd z fun z => jno_ok (n := 2) (c := 8) rfl z) (fun j k z => ?_) rfl (fun j hj => cvi_of (c := 8) (f := fun j => H.1 8 j m) (by
    intro z hz
    simp only [cvt, List.mem_cons, List.not_mem_nil, or_false] at hz
    rcases hz with rfl | rfl | rfl | rfl | rfl | rfl | rfl | rfl | rfl | rfl | rfl | rfl | rfl | rfl | rfl | rfl | rfl | rfl | rfl | rfl | rfl | rfl | rfl | rfl | rfl | rfl | rfl | rfl | rfl | rfl | rfl | rfl
    all_goals first | exact fun e => absurd e (by decide) | exact fun _ => hv4 | exact fun _ => hv8) hj) (fun i => trivial)
  · have hk := jft8 z
    rcases (show k = 32 ∨ k = 33 ∨ k = 34 ∨ k = 35 ∨ k = 36 ∨ k = 37 ∨ k = 38 ∨ k = 39 by omega) with rfl | rfl | rfl | rfl | rfl | rfl | rfl | rfl
    · exact Or.inl (Or.inl (Or.inl (Or.inl (Or.inl (Or.inl (Or.inl tA.new))))))
    · exact Or.inl (Or.inl (Or.inl (Or.inl (Or.inl (Or.inl tA.new)))))
    · exact Or.inl (Or.inl (Or.inl (Or.inl (Or.inl tA.new))))
    · exact Or.inl (Or.inl (Or.inl (Or.inl tA.new)))
    · exact Or.inl (Or.inl (Or.inl tA.new))
    · exact Or.inl (Or.inl tA.new)
    · exact Or.inl tA.new
    · exact tA.new
  · obtain ⟨rfl, rfl⟩ := jft83 z
    rw [ho]
    exact ⟨hp0, Or.inl (Or.inl (Or.inl (Or.inl (Or.inl (Or.inl (Or.inl (Or.inl tA.new)))))))⟩
theorem cEx.oR5 {A : Nat → Nat → Nat → Int} {O : Nat → Nat → Nat → Option Nat} {R : Nat → Nat → Int → Int} {B : Nat → Nat → Int → Option Nat} {W : Nat → Nat → Nat → Nat} {c p : Nat} {g : Int → Int} (h : cEx T ks (A, O, R, B, W) H) (hn : ¬ T c p) : cEx T ks (A, O, jsetR R c p g, B, W) H := cEx.oR h hn
theorem cEx.oB5 {A : Nat → Nat → Nat → Int} {O : Nat → Nat → Nat → Option Nat} {R : Nat → Nat → Int → Int} {B : Nat → Nat → Int → Option Nat} {W : Nat → Nat → Nat → Nat} {c p : Nat} {g : Int → Option Nat} (h : cEx T ks (A, O, R, B, W) H) (hn : ¬ T c p) : cEx T ks (A, O, R, jsetR B c p g, W) H :=
  ⟨h.1, fun k' p' ht => ⟨(h.2 k' p' ht).1, fun z => (show jsetR B c p g k' p' = _ from jsetR_ne fun e => hn (by rw [← e.1, ← e.2]; exact ht)).trans ((h.2 k' p' ht).2 z)⟩⟩
/-- all but kinds that are not there is as before -/
theorem cEx.jk {cs kk : List Nat} (hK : jK cs kk H' H) (h1 : ∀ k p, T k p → k ∉ cs ∧ k ∉ kk) : cEx T [] H' H :=
  ⟨fun c j p ht => ⟨fun _ => by rw [(hK.1 c (h1 c p ht).1).1], fun _ => by rw [(hK.1 c (h1 c p ht).1).2.1], fun _ => by rw [(hK.1 c (h1 c p ht).1).2.2]⟩, fun k p ht => ⟨fun _ => by rw [(hK.2 k (h1 k p ht).2).1], fun _ => by rw [(hK.2 k (h1 k p ht).2).2]⟩⟩
theorem cEx.t (h : cEx T [] H2 H1) (h' : cEx T [] H1 H) : cEx T [] H2 H := cEx.trans h h' (fun _ _ z => z) rfl
/-- a new STATE touches nothing that was there -/
theorem stEx {s pw : Nat} (hT : ∀ k p, T k p → w.1 k p ∧ p ≠ s) (pn : ¬ w.1 43 pw) (pr : ∀ k p, ¬ (k = 43 ∧ p = pw) → ¬ (p = s ∧ k ∈ sR) → H2.2.2.1 k p = H1.2.2.1 k p) (v1 : ∀ c, c ≠ 42 → H2.1 c = H1.1 c) (v42 : ∀ j p, w.1 42 p → H2.1 42 j p = H1.1 42 j p) (n1 : H2.2.1 = H1.2.1) (b1 : H2.2.2.2.1 = H1.2.2.2.1) (o1 : ∀ c j p, ¬ (c = 8 ∧ p = s ∧ j = 12) → H2.2.2.2.2 c j p = H1.2.2.2.2 c j p) : cEx T [] H2 H1 := by
  refine ⟨fun c j p ht => ⟨fun _ => ?_, fun _ => by rw [n1], fun _ => o1 c j p fun z => (hT _ _ ht).2 z.2.1⟩, fun k p ht => ⟨fun _ => pr k p (fun z => ?_) fun z => (hT _ _ ht).2 z.1, fun _ => by rw [b1]⟩⟩
  · by_cases h42 : c = 42
    · subst h42; exact v42 j p (hT _ _ ht).1
    · rw [v1 c h42]
  · rw [z.1, z.2] at ht
    exact pn (hT _ _ ht).1
/-- a STATE's numbers and rows are changed -/
theorem sFr.ex {s : Nat} (h : sFr H' H s) (hT : ∀ k p, T k p → p ≠ s) : cEx T [] H' H :=
  ⟨fun c j p ht => ⟨fun _ => h.2.2.1 c j p fun z => hT _ _ ht z.2.1, fun _ => by rw [h.1], fun _ => by rw [h.2.1]⟩, fun k p ht => ⟨fun _ => h.2.2.2 k p fun z => hT _ _ ht z.1, fun _ => by rw [h.2.1]⟩⟩
variable {b : Bool}
theorem c_bf_l {s : Nat} (H0 : jH) (hst : cSt0 w H0 s) : ∀ (m i : Nat) (H : jH), i + m = 16 → sFr H H0 s → H.1 = H0.1 → H.2.2.1 32 s = H0.2.2.1 32 s → H.2.2.1 39 s = H0.2.2.1 39 s → H.2.2.1 36 s = H0.2.2.1 36 s → (∀ j, 0 ≤ H.2.2.1 34 s j ∧ H.2.2.1 34 s j ≤ 15) → (∀ j : Int, 0 ≤ j → j < i → H.2.2.1 33 s j = j ∧ H.2.2.1 34 s j = j ∧ H.2.2.1 35 s j = 100) →
    J b d 53 w (12, [(1, .inl (i : Int)), (0, .inr (some (8, s)))], [], H) (jN fun r w' H' => r = none ∧ w' = w ∧ sFr H' H0 s ∧ (H'.1 8 4 s = 16 ∧ ∀ j, j ≠ 4 → H'.1 8 j s = H0.1 8 j s) ∧ H'.2.2.1 32 s = H0.2.2.1 32 s ∧ H'.2.2.1 39 s = H0.2.2.1 39 s ∧ (H'.2.2.1 36 s = H0.2.2.1 36 s ∧ ∀ j, 0 ≤ H'.2.2.1 34 s j ∧ H'.2.2.1 34 s j ≤ 15) ∧ ∀ j : Int, 0 ≤ j → j < 16 → H'.2.2.1 33 s j = j ∧ H'.2.2.1 34 s j = j ∧ H'.2.2.1 35 s j = 100) := by
  obtain ⟨a1, a2, a3, a4, a5, a6, a7, a8, a9, a10⟩ := hst
  intro m
  induction m with
  | zero =>
    intro i H hi q1 q2 q3 q4 q6 q7 q5
    obtain rfl : i = 16 := by omega
    refine J.run0 2 rfl ?_
    try dsimp only
    refine J.icmp rfl rfl rfl ⟨⟨by decide, by decide⟩, by decide, by decide⟩ (fun _ => ?_) (fun hc => absurd (show (16 : Int) ≤ (16 : Nat) by decide) hc)
    refine J.run 3 rfl a1 ?_
    try dsimp only
    refine J.gn fun H1 hH1 => ?_
    have f1 : sFr H1 H0 s := by
      rw [hH1]
      refine sFr.int ?_ (by decide)
      exact q1
    have g1 : H1.1 8 4 s = 16 := by rw [hH1]; exact if_pos rfl
    have g2 : ∀ j, j ≠ 4 → H1.1 8 j s = H0.1 8 j s := fun j hj => by
      rw [hH1, ← q2]
      show jupF H.1 8 4 s _ 8 j s = _
      exact jupF_ne fun z => hj z.2.1
    have g3 : H1.2.2.1 = H.2.2.1 := by rw [hH1]
    clear hH1
    refine J.retv rfl rfl rfl ⟨_, rfl, rfl, rfl, f1, ⟨g1, g2⟩, ?_, ?_, ⟨?_, ?_⟩, ?_⟩
    · rw [g3]; exact q3
    · rw [g3]; exact q4
    · rw [g3]; exact q6
    · rw [g3]; exact q7
    · rw [g3]; exact q5
  | succ m ih =>
    intro i H hi q1 q2 q3 q4 q6 q7 q5
    refine J.run0 2 rfl ?_
    try dsimp only
    refine J.icmp rfl rfl rfl ⟨⟨by omega, by omega⟩, by decide, by decide⟩ (fun hc => absurd (show (16 : Int) ≤ (i : Int) from hc) (by omega)) (fun _ => ?_)
    have i96 : (0 : Int) ≤ i ∧ (i : Int) < 96 := by omega
    refine J.run 17 rfl ⟨⟨a1, a4⟩, ⟨a4, i96⟩, ⟨a1, a5⟩, ⟨a5, i96⟩, ⟨a1, a6⟩, a6, i96⟩ ?_
    try dsimp only
    refine J.gn fun H1 hH1 => ?_
    have f1 : sFr H1 H0 s := by
      rw [hH1]
      refine sFr.row ?_ (by decide)
      refine sFr.row ?_ (by decide)
      refine sFr.row ?_ (by decide)
      exact q1
    have g2 : H1.1 = H0.1 := by rw [hH1]; exact q2
    have g3 : H1.2.2.1 32 s = H0.2.2.1 32 s := by rw [hH1]; exact q3
    have g4 : H1.2.2.1 39 s = H0.2.2.1 39 s := by rw [hH1]; exact q4
    have g6 : H1.2.2.1 36 s = H0.2.2.1 36 s := by rw [hH1]; exact q6
    have g5 : H1.2.2.1 33 s = jup (H.2.2.1 33 s) (i : Int) i ∧ H1.2.2.1 34 s = jup (H.2.2.1 34 s) (i : Int) i ∧ H1.2.2.1 35 s = jup (H.2.2.1 35 s) (i : Int) 100 := by
      rw [hH1]
      exact ⟨if_pos rfl, if_pos rfl, if_pos rfl⟩
    clear hH1
    refine ih (i + 1) H1 (by omega) f1 g2 g3 g4 g6 (fun j => ?_) fun j x y => ?_
    · rw [g5.2.1]
      unfold jup
      by_cases hj : j = i
      · rw [if_pos hj]
        omega
      · rw [if_neg hj]
        exact q7 j
    · rw [g5.1, g5.2.1, g5.2.2]
      unfold jup
      by_cases hj : j = i
      · rw [if_pos hj, if_pos hj, if_pos hj, hj]
        exact ⟨rfl, rfl, rfl⟩
      · rw [if_neg hj, if_neg hj, if_neg hj]
        exact q5 j x (by omega)
theorem c_bf {s : Nat} (hst : cSt0 w H s) (hz : H.1 8 8 s = 0 ∧ H.1 8 9 s = 0 ∧ H.1 8 11 s = 0) (hp : ∀ n, H.2.2.1 39 s n = 0) (hb : ∀ n, H.2.2.1 34 s n = 0) : J b (d + 1) 53 w (0, jargs 0 [.inr (some (8, s))], [], H) (jN fun r w' H' => r = none ∧ w' = w ∧ cSt1 H' s ∧ sFr H' H s ∧ H'.2.2.1 36 s = H.2.2.1 36 s ∧ ∀ j, 0 ≤ H'.2.2.1 34 s j ∧ H'.2.2.1 34 s j ≤ 15) := by
  refine J.run 3 rfl ⟨hst.1, hst.2.2.1⟩ ?_
  try dsimp only
  refine J.ins5 rfl rfl rfl (Or.inl rfl) rfl rfl (by decide) rfl rfl (jstP.of rfl) (c_fill hst.2.2.1) ?_
  rintro r w' H1 ⟨rfl, rfl, q1, q2, q3, q4, q5⟩
  refine J.run0 2 rfl ?_
  try dsimp only
  have f1 : sFr H1 H s := ⟨q2, q3, fun c j p _ => by rw [q1], fun k p hn => q4 k p fun z => hn ⟨z.2, by rw [z.1]; decide⟩⟩
  refine J.post (c_bf_l H1 (hst.mv fun _ _ h => h) 16 0 H1 rfl (sFr.refl _ _) rfl rfl rfl rfl (fun j => by rw [q4 _ _ fun z => absurd z.1 (by decide), hb]; decide) (fun j x y => by omega)) ?_
  rintro o w2 H2 ⟨v, rfl, rfl, rfl, g1, ⟨g2, g3⟩, g4, g5, ⟨g7, g8⟩, g6⟩
  refine ⟨_, rfl, rfl, rfl, ⟨⟨g2, ?_, ?_, ?_⟩, fun a x y => ?_, fun i x y => g6 i x y, fun n x y => ?_⟩, g1.trans f1, ?_, g8⟩
  · rw [g3 _ (by decide), q1]; exact hz.1
  · rw [g3 _ (by decide), q1]; exact hz.2.1
  · rw [g3 _ (by decide), q1]; exact hz.2.2
  · rw [g4]; exact q5 a x y
  · rw [g5, q4 _ _ fun z => absurd z.1 (by decide)]; exact hp n
  · rw [g7, q4 _ _ fun z => absurd z.1 (by decide)]
end CU
