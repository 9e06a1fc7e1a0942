/-! the class: something new is there -/
section CG
variable {F : cG} {s b t : Int} {T : cP} {w w' : jW} {H H' : jH}
def tA (T : cP) (c m : Nat) : cP := fun k p => T k p ∨ (k = c ∧ p = m)
theorem tA.sub {c m : Nat} : ∀ k p, T k p → tA T c m k p := fun _ _ h => Or.inl h
theorem tA.new {c m : Nat} : tA T c m c m := Or.inr ⟨rfl, rfl⟩
def jno (n c : Nat) : Bool := match jfd[c]? with | some l => l.all fun z => !(Nat.beq z.1 n) | none => true
theorem jno_ok {n c j k : Nat} (h : jno n c = true) (hf : jft c j = some (n, k)) : False := by
  unfold jno at h
  unfold jft at hf
  cases hl : jfd[c]? with
  | none => rw [hl] at hf; cases hf
  | some l =>
    rw [hl] at h hf
    have h1 := List.all_eq_true.mp h _ (List.mem_of_getElem? hf)
    simp at h1
def jra (c : Nat) : Bool := match jrk c with | some (t, _, _) => Nat.ble t 2 | none => true
theorem jra_ok {c t' tk : Nat} {n : Int} (h : jra c = true) (hf : jrk c = some (t' + 3, n, tk)) : False := by
  unfold jra at h
  rw [hf] at h
  have := Nat.le_of_ble_eq_true h
  omega
theorem cvi_of {c j : Nat} {f : Nat → Int} (h : ∀ z ∈ cvt, z.1 / 100 = c → z.2.1 ≤ f (z.1 % 100) ∧ f (z.1 % 100) ≤ z.2.2) (hj : j < 100) : cvi c j (f j) := by
  have key : ∀ (l : List (Nat × (Int × Int))) (i : Nat), (∀ z ∈ l, z.1 = i → z.2.1 ≤ f j ∧ f j ≤ z.2.2) → cid l i (f j) := by
    intro l
    induction l with
    | nil => intro i _; trivial
    | cons z l ih =>
      intro i hz
      unfold cid
      by_cases hi : i = z.1
      · have e : (z :: l).lookup i = some z.2 := by rw [List.lookup_cons, hi, beq_self_eq_true]
        rw [e]
        exact hz z List.mem_cons_self hi.symm
      · have e : (z :: l).lookup i = l.lookup i := by
          rw [List.lookup_cons]
          have : (i == z.1) = false := beq_false_of_ne hi
          rw [this]
        rw [e]
        exact ih i fun z' h' => hz z' (List.mem_cons_of_mem _ h')
  refine key cvt (100 * c + j) fun z hz e => ?_
  have h1 := h z hz (by omega)
  rw [show z.1 % 100 = j by omega] at h1
  exact h1
theorem cT.add {c m : Nat} (h : cT T w H) (hw : w.1 c m) (h0 : 0 < m) (h1 : ∀ j k, jft c j = some (1, k) → T k m) (h2 : ∀ j k q, jft c j = some (2, k) → H.2.1 c j m = some q → T k q) (h3 : ∀ j k, jft c j = some (3, k) → 0 < H.2.2.2.2 c j m ∧ T k (H.2.2.2.2 c j m)) (h4 : jra c = true) (h5 : ∀ j, j < 100 → cvi c j (H.1 c j m)) (h6 : ∀ i, cri c (H.2.2.1 c m i)) : cT (tA T c m) w H := by
  obtain ⟨t1, t2, t3, t4, t5, t6, t7⟩ := h
  refine ⟨fun k p ht => ?_, fun c' j k p hf ht => ?_, fun c' j k p q hf ht hq => ?_, fun c' j k p hf ht => ?_, fun k t n tk p i q hf ht hq => ?_, fun c' j p hj ht => ?_, fun k p i ht => ?_⟩
  · rcases ht with ht | ⟨rfl, rfl⟩
    · exact t1 k p ht
    · exact ⟨hw, h0⟩
  · rcases ht with ht | ⟨rfl, rfl⟩
    · exact Or.inl (t2 c' j k p hf ht)
    · exact Or.inl (h1 j k hf)
  · rcases ht with ht | ⟨rfl, rfl⟩
    · exact Or.inl (t3 c' j k p q hf ht hq)
    · exact Or.inl (h2 j k q hf hq)
  · rcases ht with ht | ⟨rfl, rfl⟩
    · exact ⟨(t4 c' j k p hf ht).1, Or.inl (t4 c' j k p hf ht).2⟩
    · exact ⟨(h3 j k hf).1, Or.inl (h3 j k hf).2⟩
  · rcases ht with ht | ⟨rfl, rfl⟩
    · exact Or.inl (t5 k t n tk p i q hf ht hq)
    · exact absurd hf fun z => jra_ok h4 z
  · rcases ht with ht | ⟨rfl, rfl⟩
    · exact t6 c' j p hj ht
    · exact h5 j hj
  · rcases ht with ht | ⟨rfl, rfl⟩
    · exact t7 k p i ht
    · exact h6 i
/-- what hangs together does not see a new thing of another kind -/
theorem cR.add {c m : Nat} (h : cR F s b t T H) (hc : ([0, 1, 3, 5, 7, 9, 10].contains c) = false) : cR F s b t (tA T c m) H := by
  obtain ⟨r0, r1, r2, r3, r4, r5, r6, r7, r8, r9⟩ := h
  have no : ∀ {k p}, ([0, 1, 3, 5, 7, 9, 10].contains k) = true → tA T c m k p → T k p := fun {k p} hk ht => by
    rcases ht with ht | ⟨rfl, rfl⟩
    · exact ht
    · rw [hk] at hc; cases hc
  exact ⟨⟨Or.inl r0.1, Or.inl r0.2.1, Or.inl r0.2.2.1, Or.inl r0.2.2.2⟩, ⟨fun p ht => r1.1 p (no rfl ht), fun p ht => r1.2.1 p (no rfl ht), fun p ht => r1.2.2.1 p (no rfl ht), fun p ht => r1.2.2.2 p (no rfl ht)⟩, fun p q ht => r2 p q (no rfl ht), fun p ht => r3 p (no rfl ht), fun p q ht => r4 p q (no rfl ht), fun p ht => r5 p (no rfl ht), r6, r7, fun p ht => r8 p (no rfl ht), fun p ht => r9 p (no rfl ht)⟩
theorem cI.add {c m : Nat} (h : cI F s b t T w H) (hc : ([0, 1, 3, 5, 7, 9, 10].contains c) = false) (hw : w.1 c m) (h0 : 0 < m) (h1 : jno 1 c = true) (h2 : ∀ j k q, jft c j = some (2, k) → H.2.1 c j m = some q → T k q) (h3 : ∀ j k, jft c j = some (3, k) → 0 < H.2.2.2.2 c j m ∧ T k (H.2.2.2.2 c j m)) (h4 : jra c = true) (h5 : ∀ j, j < 100 → cvi c j (H.1 c j m)) (h6 : ∀ i, cri c (H.2.2.1 c m i)) : cI F s b t (tA T c m) w H :=
  ⟨cT.add h.1 hw h0 (fun j k z => absurd z fun z => jno_ok h1 z) h2 h3 h4 h5 h6, cR.add h.2 hc⟩
/-- a row of 16, a row of TRANSACTIONS -/
theorem cI.row43 {m : Nat} (h : cI F s b t T w H) (hw : w.1 43 m) (h0 : 0 < m) : cI F s b t (tA T 43 m) w H :=
  cI.add h rfl hw h0 rfl (fun j k q z => absurd z fun z => jno_ok (n := 2) (c := 43) rfl z) (fun j k z => absurd z fun z => jno_ok (n := 3) (c := 43) rfl z) rfl (fun j hj => cvi_of (c := 43) (f := fun j => H.1 43 j m) (by
    intro z hz
    simp only [cvt, List.mem_cons, List.not_mem_nil, or_false] at hz
    rcases hz with rfl | rfl | rfl | rfl | rfl | rfl | rfl | rfl | rfl | rfl | rfl | rfl | rfl | rfl | rfl | rfl | rfl | rfl | rfl | rfl | rfl | rfl | rfl | rfl | rfl | rfl | rfl | rfl | rfl | rfl | rfl | rfl
    all_goals exact fun e => absurd e (by decide)) hj) (fun i => trivial)
theorem cI.row42 {m : Nat} (h : cI F s b t T w H) (hw : w.1 42 m) (h0 : 0 < m) (hl : 0 ≤ H.1 42 0 m ∧ H.1 42 0 m ≤ 12) (hr : ∀ i, 0 ≤ H.2.2.1 42 m i ∧ H.2.2.1 42 m i ≤ 1499) : cI F s b t (tA T 42 m) w H :=
  cI.add h rfl hw h0 rfl (fun j k q z => absurd z fun z => jno_ok (n := 2) (c := 42) rfl z) (fun j k z => absurd z fun z => jno_ok (n := 3) (c := 42) rfl z) rfl (fun j hj => cvi_of (c := 42) (f := fun j => H.1 42 j m) (by
    intro z hz
    simp only [cvt, List.mem_cons, List.not_mem_nil, or_false] at hz
    rcases hz with rfl | rfl | rfl | rfl | rfl | rfl | rfl | rfl | rfl | rfl | rfl | rfl | rfl | rfl | rfl | rfl | rfl | rfl | rfl | rfl | rfl | rfl | rfl | rfl | rfl | rfl | rfl | rfl | rfl | rfl | rfl | rfl
    all_goals first | exact fun e => absurd e (by decide) | exact fun _ => hl) hj) (fun i => hr i)
/-- a RECORD -/
theorem cI.ent {m : Nat} (h : cI F s b t T w H) (hw : w.1 2 m) (h0 : 0 < m) (hr : 0 ≤ H.1 2 3 m ∧ H.1 2 3 m ≤ 31) (hx1 : -2147483648 ≤ H.1 2 1 m ∧ H.1 2 1 m ≤ 2147483647) (hx2 : -2147483648 ≤ H.1 2 2 m ∧ H.1 2 2 m ≤ 2147483647) (hx7 : -2147483648 ≤ H.1 2 7 m ∧ H.1 2 7 m ≤ 2147483647) (hx8 : -2147483648 ≤ H.1 2 8 m ∧ H.1 2 8 m ≤ 2147483647) (hs : ∀ q, H.2.1 2 9 m = some q → T 5 q) : cI F s b t (tA T 2 m) w H :=
  cI.add h rfl hw h0 rfl (fun j k q z hq => by
    have h9 : ∀ j k, jft 2 j = some (2, k) → j = 9 ∧ k = 5 := by
      intro j k z
      have hl := (jft_lt z).2
      have hl : j < 10 := hl
      rcases j with _ | _ | _ | _ | _ | _ | _ | _ | _ | _ | j
      all_goals first | (cases z; done) | (cases z; exact ⟨rfl, rfl⟩) | omega
    obtain ⟨rfl, rfl⟩ := h9 j k z
    exact hs q hq) (fun j k z => absurd z fun z => jno_ok (n := 3) (c := 2) rfl z) rfl (fun j hj => cvi_of (c := 2) (f := fun j => H.1 2 j m) (by
    intro z hz
    simp only [cvt, List.mem_cons, List.not_mem_nil, or_false] at hz
    rcases hz with rfl | rfl | rfl | rfl | rfl | rfl | rfl | rfl | rfl | rfl | rfl | rfl | rfl | rfl | rfl | rfl | rfl | rfl | rfl | rfl | rfl | rfl | rfl | rfl | rfl | rfl | rfl | rfl | rfl | rfl | rfl | rfl
    all_goals first | exact fun e => absurd e (by decide) | exact fun _ => hr | exact fun _ => hx1 | exact fun _ => hx2 | exact fun _ => hx7 | exact fun _ => hx8) hj) (fun i => trivial)
/-- a MESSAGE: the next number -/
theorem cI.msg {m : Nat} (h : cI F s b t T w H) (hn : ¬ T 5 m) (hw : w.1 5 m) (h0 : 0 < m) (h1 : H.1 5 0 m = s) (h9 : 0 ≤ s ∧ s ≤ 5999) (h2 : 0 ≤ H.1 5 2 m ∧ H.1 5 2 m ≤ 15) (h3 : 0 ≤ H.1 5 3 m ∧ H.1 5 3 m ≤ 120) (h4 : 0 ≤ H.1 5 4 m ∧ H.1 5 4 m ≤ 31) (hx5 : -2147483648 ≤ H.1 5 5 m ∧ H.1 5 5 m ≤ 2147483647) (hx6 : -2147483648 ≤ H.1 5 6 m ∧ H.1 5 6 m ≤ 2147483647) (h7 : H.2.1 5 7 m = none) : cI F (s + 1) b t (tA T 5 m) w H := by
  have hn7 : ∀ j k, jft 5 j = some (2, k) → j = 7 := by
    intro j k z
    have hl := (jft_lt z).2
    have hl : j < 8 := hl
    rcases j with _ | _ | _ | _ | _ | _ | _ | _ | j
    all_goals first | (cases z; done) | (cases z; rfl) | omega
  refine ⟨cT.add h.1 hw h0 (fun j k z => absurd z fun z => jno_ok (n := 1) (c := 5) rfl z) (fun j k q z hq => by rw [hn7 j k z, h7] at hq; cases hq) (fun j k z => absurd z fun z => jno_ok (n := 3) (c := 5) rfl z) rfl (fun j hj => cvi_of (c := 5) (f := fun j => H.1 5 j m) ?_ hj) (fun i => trivial), ?_⟩
  · intro z hz
    simp only [cvt, List.mem_cons, List.not_mem_nil, or_false] at hz
    rcases hz with rfl | rfl | rfl | rfl | rfl | rfl | rfl | rfl | rfl | rfl | rfl | rfl | rfl | rfl | rfl | rfl | rfl | rfl | rfl | rfl | rfl | rfl | rfl | rfl | rfl | rfl | rfl | rfl | rfl | rfl | rfl | rfl
    all_goals first | exact fun e => absurd e (by decide) | exact fun _ => h2 | exact fun _ => h3 | exact fun _ => h4 | exact fun _ => hx5 | exact fun _ => hx6 | exact fun _ => (show 0 ≤ H.1 5 0 m ∧ H.1 5 0 m ≤ 5999 by rw [h1]; exact h9)
  · obtain ⟨r0, r1, r2, r3, r4, r5, r6, r7, r8, r9⟩ := h.2
    have no : ∀ {k p}, k ≠ 5 → tA T 5 m k p → T k p := fun {k p} hk ht => by
      rcases ht with ht | ⟨rfl, rfl⟩
      · exact ht
      · exact absurd rfl hk
    refine ⟨⟨Or.inl r0.1, Or.inl r0.2.1, Or.inl r0.2.2.1, Or.inl r0.2.2.2⟩, ⟨fun p ht => r1.1 p (no (by decide) ht), fun p ht => r1.2.1 p (no (by decide) ht), fun p ht => r1.2.2.1 p (no (by decide) ht), fun p ht => r1.2.2.2 p (no (by decide) ht)⟩, fun p q ht => r2 p q (no (by decide) ht), fun p ht => r3 p (no (by decide) ht), fun p q ht hq => ?_, fun p ht => ?_, r6, r7, fun p ht => r8 p (no (by decide) ht), fun p ht => r9 p (no (by decide) ht)⟩
    · rcases ht with ht | ⟨-, rfl⟩
      · exact r4 p q ht hq
      · rw [h7] at hq; cases hq
    · rcases ht with ht | ⟨-, rfl⟩
      · have := r5 p ht; omega
      · omega
/-- a TRANSACTION -/
theorem cI.trn {m : Nat} (h : cI F s b t T w H) (hw : w.1 9 m) (h0 : 0 < m) (h1 : 0 ≤ H.1 9 0 m ∧ H.1 9 0 m ≤ 4) (h2 : 0 ≤ H.1 9 1 m ∧ H.1 9 1 m ≤ 199) (h3 : -1 ≤ H.1 9 2 m ∧ H.1 9 2 m ≤ 199) (h4 : -1 ≤ H.1 9 4 m ∧ H.1 9 4 m ≤ 15) (h5 : (H.1 9 0 m = 0 → 0 ≤ H.1 9 2 m) ∧ (1 ≤ H.1 9 0 m → H.1 9 0 m ≤ 3 → 0 ≤ H.1 9 2 m ∧ H.1 9 2 m ≤ 15)) : cI F s b t (tA T 9 m) w H := by
  refine ⟨cT.add h.1 hw h0 (fun j k z => absurd z fun z => jno_ok (n := 1) (c := 9) rfl z) (fun j k q z => absurd z fun z => jno_ok (n := 2) (c := 9) rfl z) (fun j k z => absurd z fun z => jno_ok (n := 3) (c := 9) rfl z) rfl (fun j hj => cvi_of (c := 9) (f := fun j => H.1 9 j m) ?_ hj) (fun i => trivial), ?_⟩
  · intro z hz
    simp only [cvt, List.mem_cons, List.not_mem_nil, or_false] at hz
    rcases hz with rfl | rfl | rfl | rfl | rfl | rfl | rfl | rfl | rfl | rfl | rfl | rfl | rfl | rfl | rfl | rfl | rfl | rfl | rfl | rfl | rfl | rfl | rfl | rfl | rfl | rfl | rfl | rfl | rfl | rfl | rfl | rfl
    all_goals first | exact fun e => absurd e (by decide) | exact fun _ => h1 | exact fun _ => h2 | exact fun _ => h3 | exact fun _ => h4
  · obtain ⟨r0, r1, r2, r3, r4, r5, r6, r7, r8, r9⟩ := h.2
    have no : ∀ {k p}, k ≠ 9 → tA T 9 m k p → T k p := fun {k p} hk ht => by
      rcases ht with ht | ⟨rfl, rfl⟩
      · exact ht
      · exact absurd rfl hk
    refine ⟨⟨Or.inl r0.1, Or.inl r0.2.1, Or.inl r0.2.2.1, Or.inl r0.2.2.2⟩, ⟨fun p ht => r1.1 p (no (by decide) ht), fun p ht => r1.2.1 p (no (by decide) ht), fun p ht => r1.2.2.1 p (no (by decide) ht), fun p ht => r1.2.2.2 p (no (by decide) ht)⟩, fun p q ht => r2 p q (no (by decide) ht), fun p ht => r3 p (no (by decide) ht), fun p q ht => r4 p q (no (by decide) ht), fun p ht => r5 p (no (by decide) ht), r6, r7, fun p ht => ?_, fun p ht => r9 p (no (by decide) ht)⟩
    rcases ht with ht | ⟨-, rfl⟩
    · exact r8 p ht
    · exact h5
end CG
