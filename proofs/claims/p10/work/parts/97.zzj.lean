/-! the class: STATES, BLOCKS, rows are made -/
section CN
variable {F : cG} {s b t : Int} {T : cP} {d : Nat} {w : jW} {H : jH} {Post : jO → jW → jH → Prop}
theorem cI.row32 {m : Nat} (h : cI F s b t T w H) (hw : w.1 32 m) (h0 : 0 < m) (hz : ∀ i, H.2.2.1 32 m i = 0) : cI F s b t (tA T 32 m) w H :=
  cI.add h rfl hw h0 rfl (fun j k q z => absurd z fun z => jno_ok (n := 2) (c := 32) rfl z) (fun j k z => absurd z fun z => jno_ok (n := 3) (c := 32) rfl z) rfl (fun j hj => cvi_of (c := 32) (f := fun j => H.1 32 j m) (by
    intro z hz
    simp only [cvt, List.mem_cons, List.not_mem_nil, or_false] at hz
    rcases hz with rfl | rfl | rfl | rfl | rfl | rfl | rfl | rfl | rfl | rfl | rfl | rfl | rfl | rfl | rfl | rfl | rfl | rfl | rfl | rfl | rfl | rfl | rfl | rfl | rfl | rfl | rfl | rfl | rfl | rfl | rfl | rfl
    all_goals first | exact fun e => absurd e (by decide) ) hj) (fun i => by rw [hz i]; trivial)
theorem cI.row33 {m : Nat} (h : cI F s b t T w H) (hw : w.1 33 m) (h0 : 0 < m) (hz : ∀ i, H.2.2.1 33 m i = 0) : cI F s b t (tA T 33 m) w H :=
  cI.add h rfl hw h0 rfl (fun j k q z => absurd z fun z => jno_ok (n := 2) (c := 33) rfl z) (fun j k z => absurd z fun z => jno_ok (n := 3) (c := 33) rfl z) rfl (fun j hj => cvi_of (c := 33) (f := fun j => H.1 33 j m) (by
    intro z hz
    simp only [cvt, List.mem_cons, List.not_mem_nil, or_false] at hz
    rcases hz with rfl | rfl | rfl | rfl | rfl | rfl | rfl | rfl | rfl | rfl | rfl | rfl | rfl | rfl | rfl | rfl | rfl | rfl | rfl | rfl | rfl | rfl | rfl | rfl | rfl | rfl | rfl | rfl | rfl | rfl | rfl | rfl
    all_goals first | exact fun e => absurd e (by decide) ) hj) (fun i => by rw [hz i]; trivial)
theorem cI.row34 {m : Nat} (h : cI F s b t T w H) (hw : w.1 34 m) (h0 : 0 < m) (hz : ∀ i, H.2.2.1 34 m i = 0) : cI F s b t (tA T 34 m) w H :=
  cI.add h rfl hw h0 rfl (fun j k q z => absurd z fun z => jno_ok (n := 2) (c := 34) rfl z) (fun j k z => absurd z fun z => jno_ok (n := 3) (c := 34) rfl z) rfl (fun j hj => cvi_of (c := 34) (f := fun j => H.1 34 j m) (by
    intro z hz
    simp only [cvt, List.mem_cons, List.not_mem_nil, or_false] at hz
    rcases hz with rfl | rfl | rfl | rfl | rfl | rfl | rfl | rfl | rfl | rfl | rfl | rfl | rfl | rfl | rfl | rfl | rfl | rfl | rfl | rfl | rfl | rfl | rfl | rfl | rfl | rfl | rfl | rfl | rfl | rfl | rfl | rfl
    all_goals first | exact fun e => absurd e (by decide) ) hj) (fun i => by rw [hz i]; exact (show (0 : Int) ≤ 0 ∧ (0 : Int) ≤ 15 by decide))
theorem cI.row35 {m : Nat} (h : cI F s b t T w H) (hw : w.1 35 m) (h0 : 0 < m) (hz : ∀ i, H.2.2.1 35 m i = 0) : cI F s b t (tA T 35 m) w H :=
  cI.add h rfl hw h0 rfl (fun j k q z => absurd z fun z => jno_ok (n := 2) (c := 35) rfl z) (fun j k z => absurd z fun z => jno_ok (n := 3) (c := 35) rfl z) rfl (fun j hj => cvi_of (c := 35) (f := fun j => H.1 35 j m) (by
    intro z hz
    simp only [cvt, List.mem_cons, List.not_mem_nil, or_false] at hz
    rcases hz with rfl | rfl | rfl | rfl | rfl | rfl | rfl | rfl | rfl | rfl | rfl | rfl | rfl | rfl | rfl | rfl | rfl | rfl | rfl | rfl | rfl | rfl | rfl | rfl | rfl | rfl | rfl | rfl | rfl | rfl | rfl | rfl
    all_goals first | exact fun e => absurd e (by decide) ) hj) (fun i => by rw [hz i]; trivial)
theorem cI.row36 {m : Nat} (h : cI F s b t T w H) (hw : w.1 36 m) (h0 : 0 < m) (hz : ∀ i, H.2.2.1 36 m i = 0) : cI F s b t (tA T 36 m) w H :=
  cI.add h rfl hw h0 rfl (fun j k q z => absurd z fun z => jno_ok (n := 2) (c := 36) rfl z) (fun j k z => absurd z fun z => jno_ok (n := 3) (c := 36) rfl z) rfl (fun j hj => cvi_of (c := 36) (f := fun j => H.1 36 j m) (by
    intro z hz
    simp only [cvt, List.mem_cons, List.not_mem_nil, or_false] at hz
    rcases hz with rfl | rfl | rfl | rfl | rfl | rfl | rfl | rfl | rfl | rfl | rfl | rfl | rfl | rfl | rfl | rfl | rfl | rfl | rfl | rfl | rfl | rfl | rfl | rfl | rfl | rfl | rfl | rfl | rfl | rfl | rfl | rfl
    all_goals first | exact fun e => absurd e (by decide) ) hj) (fun i => by rw [hz i]; exact (show (0 : Int) ≤ 0 ∧ (0 : Int) ≤ 199 by decide))
theorem cI.row37 {m : Nat} (h : cI F s b t T w H) (hw : w.1 37 m) (h0 : 0 < m) (hz : ∀ i, H.2.2.1 37 m i = 0) : cI F s b t (tA T 37 m) w H :=
  cI.add h rfl hw h0 rfl (fun j k q z => absurd z fun z => jno_ok (n := 2) (c := 37) rfl z) (fun j k z => absurd z fun z => jno_ok (n := 3) (c := 37) rfl z) rfl (fun j hj => cvi_of (c := 37) (f := fun j => H.1 37 j m) (by
    intro z hz
    simp only [cvt, List.mem_cons, List.not_mem_nil, or_false] at hz
    rcases hz with rfl | rfl | rfl | rfl | rfl | rfl | rfl | rfl | rfl | rfl | rfl | rfl | rfl | rfl | rfl | rfl | rfl | rfl | rfl | rfl | rfl | rfl | rfl | rfl | rfl | rfl | rfl | rfl | rfl | rfl | rfl | rfl
    all_goals first | exact fun e => absurd e (by decide) ) hj) (fun i => by rw [hz i]; trivial)
theorem cI.row38 {m : Nat} (h : cI F s b t T w H) (hw : w.1 38 m) (h0 : 0 < m) (hz : ∀ i, H.2.2.1 38 m i = 0) : cI F s b t (tA T 38 m) w H :=
  cI.add h rfl hw h0 rfl (fun j k q z => absurd z fun z => jno_ok (n := 2) (c := 38) rfl z) (fun j k z => absurd z fun z => jno_ok (n := 3) (c := 38) rfl z) rfl (fun j hj => cvi_of (c := 38) (f := fun j => H.1 38 j m) (by
    intro z hz
    simp only [cvt, List.mem_cons, List.not_mem_nil, or_false] at hz
    rcases hz with rfl | rfl | rfl | rfl | rfl | rfl | rfl | rfl | rfl | rfl | rfl | rfl | rfl | rfl | rfl | rfl | rfl | rfl | rfl | rfl | rfl | rfl | rfl | rfl | rfl | rfl | rfl | rfl | rfl | rfl | rfl | rfl
    all_goals first | exact fun e => absurd e (by decide) ) hj) (fun i => by rw [hz i]; trivial)
theorem cI.row39 {m : Nat} (h : cI F s b t T w H) (hw : w.1 39 m) (h0 : 0 < m) (hz : ∀ i, H.2.2.1 39 m i = 0) : cI F s b t (tA T 39 m) w H :=
  cI.add h rfl hw h0 rfl (fun j k q z => absurd z fun z => jno_ok (n := 2) (c := 39) rfl z) (fun j k z => absurd z fun z => jno_ok (n := 3) (c := 39) rfl z) rfl (fun j hj => cvi_of (c := 39) (f := fun j => H.1 39 j m) (by
    intro z hz
    simp only [cvt, List.mem_cons, List.not_mem_nil, or_false] at hz
    rcases hz with rfl | rfl | rfl | rfl | rfl | rfl | rfl | rfl | rfl | rfl | rfl | rfl | rfl | rfl | rfl | rfl | rfl | rfl | rfl | rfl | rfl | rfl | rfl | rfl | rfl | rfl | rfl | rfl | rfl | rfl | rfl | rfl
    all_goals first | exact fun e => absurd e (by decide) ) hj) (fun i => by rw [hz i]; trivial)
def tSt (T : cP) (m pw : Nat) : cP := tA (tA (tA (tA (tA (tA (tA (tA (tA (tA T 43 pw) 32 m) 33 m) 34 m) 35 m) 36 m) 37 m) 38 m) 39 m) 8 m
theorem tSt.sub {m pw : Nat} : ∀ k p, T k p → tSt T m pw k p := fun _ _ h => Or.inl (Or.inl (Or.inl (Or.inl (Or.inl (Or.inl (Or.inl (Or.inl (Or.inl (Or.inl h)))))))))
theorem tSt.new {m pw : Nat} : tSt T m pw 8 m := Or.inr ⟨rfl, rfl⟩
theorem jft8 {j k : Nat} (h : jft 8 j = some (1, k)) : 32 ≤ k ∧ k ≤ 39 := by
  have hl : j < 14 := (jft_lt h).2
  rcases j with _ | _ | _ | _ | _ | _ | _ | _ | _ | _ | _ | _ | _ | _ | j
  all_goals first | (cases h; omega) | (cases h; done) | omega
theorem jft83 {j k : Nat} (h : jft 8 j = some (3, k)) : j = 12 ∧ k = 43 := by
  have hl : j < 14 := (jft_lt h).2
  rcases j with _ | _ | _ | _ | _ | _ | _ | _ | _ | _ | _ | _ | _ | _ | j
  all_goals first | (cases h; exact ⟨rfl, rfl⟩) | (cases h; done) | omega
/-- a STATE -/
theorem cI.st8 {m pw : Nat} (h : cI F s b t T w H) (hw : ∀ k, 32 ≤ k → k ≤ 39 → w.1 k m) (h8 : w.1 8 m) (h0 : 0 < m) (hp : w.1 43 pw) (hp0 : 0 < pw) (hz : ∀ k, 32 ≤ k → k ≤ 39 → ∀ i, H.2.2.1 k m i = 0) (hv : ∀ j, H.1 8 j m = 0) (ho : H.2.2.2.2 8 12 m = pw) : cI F s b t (tSt T m pw) w H := by
  have g0 := cI.row43 h hp hp0
  have g1 := cI.row32 g0 (hw 32 (by decide) (by decide)) h0 (hz 32 (by decide) (by decide))
  have g2 := cI.row33 g1 (hw 33 (by decide) (by decide)) h0 (hz 33 (by decide) (by decide))
  have g3 := cI.row34 g2 (hw 34 (by decide) (by decide)) h0 (hz 34 (by decide) (by decide))
  have g4 := cI.row35 g3 (hw 35 (by decide) (by decide)) h0 (hz 35 (by decide) (by decide))
  have g5 := cI.row36 g4 (hw 36 (by decide) (by decide)) h0 (hz 36 (by decide) (by decide))
  have g6 := cI.row37 g5 (hw 37 (by decide) (by decide)) h0 (hz 37 (by decide) (by decide))
  have g7 := cI.row38 g6 (hw 38 (by decide) (by decide)) h0 (hz 38 (by decide) (by decide))
  have g8 := cI.row39 g7 (hw 39 (by decide) (by decide)) h0 (hz 39 (by decide) (by decide))
  refine ⟨cT.add g8.1 h8 h0 (fun j k z => ?_) (fun j k q z => absurd z fun z => jno_ok (n := 2) (c := 8) rfl z) (fun j k z => ?_) rfl (fun j hj => cvi_of (c := 8) (f := fun j => H.1 8 j m) (by
    intro z hz
    simp only [cvt, List.mem_cons, List.not_mem_nil, or_false] at hz
    rcases hz with rfl | rfl | rfl | rfl | rfl | rfl | rfl | rfl | rfl | rfl | rfl | rfl | rfl | rfl | rfl | rfl | rfl | rfl | rfl | rfl | rfl | rfl | rfl | rfl | rfl | rfl | rfl | rfl | rfl | rfl | rfl | rfl
    all_goals first | exact fun e => absurd e (by decide) | (intro _; dsimp only; rw [hv]; decide)) hj) (fun i => trivial), cR.add g8.2 rfl⟩
  · have hk := jft8 z
    rcases (show k = 32 ∨ k = 33 ∨ k = 34 ∨ k = 35 ∨ k = 36 ∨ k = 37 ∨ k = 38 ∨ k = 39 by omega) with rfl | rfl | rfl | rfl | rfl | rfl | rfl | rfl
    · exact Or.inl (Or.inl (Or.inl (Or.inl (Or.inl (Or.inl (Or.inl tA.new))))))
    · exact Or.inl (Or.inl (Or.inl (Or.inl (Or.inl (Or.inl tA.new)))))
    · exact Or.inl (Or.inl (Or.inl (Or.inl (Or.inl tA.new))))
    · exact Or.inl (Or.inl (Or.inl (Or.inl tA.new)))
    · exact Or.inl (Or.inl (Or.inl tA.new))
    · exact Or.inl (Or.inl tA.new)
    · exact Or.inl tA.new
    · exact tA.new
  · obtain ⟨rfl, rfl⟩ := jft83 z
    rw [ho]
    exact ⟨hp0, Or.inl (Or.inl (Or.inl (Or.inl (Or.inl (Or.inl (Or.inl (Or.inl tA.new)))))))⟩
theorem jft02 {j k : Nat} (h : jft 0 j = some (2, k)) : (j = 2 ∧ k = 0) ∨ (j = 6 ∧ k = 8) := by
  have hl : j < 7 := (jft_lt h).2
  rcases j with _ | _ | _ | _ | _ | _ | _ | j
  all_goals first | (cases h; exact Or.inl ⟨rfl, rfl⟩) | (cases h; exact Or.inr ⟨rfl, rfl⟩) | (cases h; done) | omega
theorem jft03 {j k : Nat} (h : jft 0 j = some (3, k)) : (j = 4 ∧ k = 42) ∨ (j = 5 ∧ k = 43) := by
  have hl : j < 7 := (jft_lt h).2
  rcases j with _ | _ | _ | _ | _ | _ | _ | j
  all_goals first | (cases h; exact Or.inl ⟨rfl, rfl⟩) | (cases h; exact Or.inr ⟨rfl, rfl⟩) | (cases h; done) | omega
/-- a BLOCK: the next number -/
theorem cI.blk {m : Nat} (h : cI F s b t T w H) (hw : w.1 0 m) (h0 : 0 < m) (h1 : H.1 0 0 m = b) (hb : 0 ≤ b ∧ b ≤ 299) (h2 : 0 ≤ H.1 0 1 m ∧ H.1 0 1 m ≤ b) (h3 : ∀ q, H.2.1 0 2 m = some q → T 0 q ∧ H.1 0 1 q < H.1 0 1 m) (h4 : 0 < H.2.2.2.2 0 4 m ∧ T 42 (H.2.2.2.2 0 4 m)) (h5 : 0 < H.2.2.2.2 0 5 m ∧ T 43 (H.2.2.2.2 0 5 m)) (h6 : ∀ q, H.2.1 0 6 m = some q → T 8 q ∧ q ≠ H.2.2.2.2 3 4 F.2.1) : cI F s (b + 1) t (tA T 0 m) w H := by
  refine ⟨cT.add h.1 hw h0 (fun j k z => absurd z fun z => jno_ok (n := 1) (c := 0) rfl z) (fun j k q z hq => ?_) (fun j k z => ?_) rfl (fun j hj => cvi_of (c := 0) (f := fun j => H.1 0 j m) (by
    intro z hz
    simp only [cvt, List.mem_cons, List.not_mem_nil, or_false] at hz
    rcases hz with rfl | rfl | rfl | rfl | rfl | rfl | rfl | rfl | rfl | rfl | rfl | rfl | rfl | rfl | rfl | rfl | rfl | rfl | rfl | rfl | rfl | rfl | rfl | rfl | rfl | rfl | rfl | rfl | rfl | rfl | rfl | rfl
    all_goals first | exact fun e => absurd e (by decide) | exact fun _ => (show 0 ≤ H.1 0 0 m ∧ H.1 0 0 m ≤ 299 by omega) | exact fun _ => (show 0 ≤ H.1 0 1 m ∧ H.1 0 1 m ≤ 299 by omega)) hj) (fun i => trivial), ?_⟩
  · rcases jft02 z with ⟨rfl, rfl⟩ | ⟨rfl, rfl⟩
    · exact (h3 q hq).1
    · exact (h6 q hq).1
  · rcases jft03 z with ⟨rfl, rfl⟩ | ⟨rfl, rfl⟩
    · exact h4
    · exact h5
  · obtain ⟨r0, r1, r2, r3, r4, r5, r6, r7, r8, r9⟩ := h.2
    have no : ∀ {k p}, k ≠ 0 → tA T 0 m k p → T k p := fun {k p} hk ht => by
      rcases ht with ht | ⟨rfl, rfl⟩
      · exact ht
      · exact absurd rfl hk
    refine ⟨⟨Or.inl r0.1, Or.inl r0.2.1, Or.inl r0.2.2.1, Or.inl r0.2.2.2⟩, ⟨fun p ht => r1.1 p (no (by decide) ht), fun p ht => r1.2.1 p (no (by decide) ht), fun p ht => r1.2.2.1 p (no (by decide) ht), fun p ht => r1.2.2.2 p (no (by decide) ht)⟩, fun p q ht hq => ?_, fun p ht => ?_, fun p q ht => r4 p q (no (by decide) ht), fun p ht => r5 p (no (by decide) ht), r6, r7, fun p ht => r8 p (no (by decide) ht), fun p ht => ?_⟩
    · rcases ht with ht | ⟨-, rfl⟩
      · exact r2 p q ht hq
      · exact (h3 q hq).2
    · rcases ht with ht | ⟨-, rfl⟩
      · have := r3 p ht; omega
      · omega
    · rcases ht with ht | ⟨-, rfl⟩
      · exact r9 p ht
      · exact fun z => (h6 _ z).2 rfl
theorem i_blk {p par tx cl : Nat} {o : Option Nat} {x0 x3 : Int} (h0 : w.1 0 p) (hpar : w.1 0 par) (htx : 0 < tx) (hcl : 0 < cl) (hn : ¬ T 0 p) (hpp : par ≠ p) : J false d 0 w (0, jargs 0 [.inr (some (0, p)), .inl x0, .inr (some (0, par)), .inl x3, .inr (some (42, tx)), .inr (some (43, cl)), .inr (o.map fun q => (8, q))], [], H) (jN fun r w' H' => r = none ∧ w' = w ∧ cEx T [] H' H ∧ H'.1 0 0 p = x0 ∧ H'.1 0 1 p = H.1 0 1 par + 1 ∧ H'.2.1 0 2 p = some par ∧ H'.2.2.2.2 0 4 p = tx ∧ H'.2.2.2.2 0 5 p = cl ∧ H'.2.1 0 6 p = o) := by
  refine J.run0 1 rfl ?_
  try dsimp only
  refine J.obj rfl rfl rfl rfl ?_
  refine J.run 5 rfl h0 ?_
  try dsimp only
  refine J.run0 1 rfl ?_
  try dsimp only
  refine J.run 4 rfl hpar ?_
  try dsimp only
  rcases o with _ | s
  · refine J.run 16 rfl ⟨h0, h0, h0, ⟨h0, htx⟩, ⟨h0, hcl⟩, h0⟩ ?_
    try dsimp only
    refine J.gn fun H1 hH1 => ?_
    have q0 : cEx T [] H1 H := by
      rw [hH1]
      refine cEx.or5 ?_ hn
      refine cEx.oo5 ?_ hn
      refine cEx.oo5 ?_ hn
      refine cEx.oi5 ?_ hn
      refine cEx.or5 ?_ hn
      refine cEx.oi5 ?_ hn
      refine cEx.oi5 ?_ hn
      exact cEx.refl
    have q1 : H1.1 0 0 p = x0 := by rw [hH1]; exact if_pos rfl
    have q2 : H1.1 0 1 p = H.1 0 1 par + 1 := by rw [hH1]; exact if_pos rfl
    have q3 : H1.2.1 0 2 p = some par := by rw [hH1]; exact if_pos rfl
    have q5 : H1.2.2.2.2 0 4 p = tx := by rw [hH1]; exact if_pos rfl
    have q6 : H1.2.2.2.2 0 5 p = cl := by rw [hH1]; exact if_pos rfl
    have q7 : H1.2.1 0 6 p = none := by rw [hH1]; exact if_pos rfl
    exact J.retv rfl rfl rfl ⟨_, rfl, rfl, rfl, q0, q1, q2, q3, q5, q6, q7⟩
  · refine J.run 16 rfl ⟨h0, h0, h0, ⟨h0, htx⟩, ⟨h0, hcl⟩, h0⟩ ?_
    try dsimp only
    refine J.gn fun H1 hH1 => ?_
    have q0 : cEx T [] H1 H := by
      rw [hH1]
      refine cEx.or5 ?_ hn
      refine cEx.oo5 ?_ hn
      refine cEx.oo5 ?_ hn
      refine cEx.oi5 ?_ hn
      refine cEx.or5 ?_ hn
      refine cEx.oi5 ?_ hn
      refine cEx.oi5 ?_ hn
      exact cEx.refl
    have q1 : H1.1 0 0 p = x0 := by rw [hH1]; exact if_pos rfl
    have q2 : H1.1 0 1 p = H.1 0 1 par + 1 := by rw [hH1]; exact if_pos rfl
    have q3 : H1.2.1 0 2 p = some par := by rw [hH1]; exact if_pos rfl
    have q5 : H1.2.2.2.2 0 4 p = tx := by rw [hH1]; exact if_pos rfl
    have q6 : H1.2.2.2.2 0 5 p = cl := by rw [hH1]; exact if_pos rfl
    have q7 : H1.2.1 0 6 p = some s := by rw [hH1]; exact if_pos rfl
    exact J.retv rfl rfl rfl ⟨_, rfl, rfl, rfl, q0, q1, q2, q3, q5, q6, q7⟩
end CN
