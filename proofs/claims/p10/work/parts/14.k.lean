section XK
theorem xty_ok : ∀ (ci : Nat) (r : vw_C) (ty : Nat → FieldType), xcl[ci]? = some r → xtys[ci]? = some ty → (∀ k, k < r.2.2 → parseFieldDescriptor (r.2.1 k).2.2.1 = some (ty k)) ∧ ∀ a, a < r.2.2 → ∀ b, b < r.2.2 → a ≠ b → (r.2.1 a).2.1 ≠ (r.2.1 b).2.1
  | 0, _, _, h1, h2 => by cases h1; cases h2; exact ⟨tyX0_ok, nmX0⟩
  | 1, _, _, h1, h2 => by cases h1; cases h2; exact ⟨tyX1_ok, nmX1⟩
  | 2, _, _, h1, h2 => by cases h1; cases h2; exact ⟨tyX2_ok, nmX2⟩
  | 3, _, _, h1, h2 => by cases h1; cases h2; exact ⟨tyX3_ok, nmX3⟩
  | 4, _, _, h1, h2 => by cases h1; cases h2; exact ⟨tyX4_ok, nmX4⟩
  | 5, _, _, h1, h2 => by cases h1; cases h2; exact ⟨tyX5_ok, nmX5⟩
  | 6, _, _, h1, h2 => by cases h1; cases h2; exact ⟨tyX6_ok, nmX6⟩
  | 7, _, _, h1, h2 => by cases h1; cases h2; exact ⟨tyX7_ok, nmX7⟩
  | 8, _, _, h1, h2 => by cases h1; cases h2; exact ⟨tyX8_ok, nmX8⟩
  | 9, _, _, h1, h2 => by cases h1; cases h2; exact ⟨tyX9_ok, nmX9⟩
  | 10, _, _, h1, h2 => by cases h1; cases h2; exact ⟨tyX10_ok, nmX10⟩
  | 11, _, _, h1, h2 => by cases h1; cases h2; exact ⟨tyX11_ok, nmX11⟩
  | k + 12, _, _, _, h2 => by simp [xtys] at h2
theorem xTab_ok : xTab := by
  refine ⟨?_, ?_, ?_, ?_, ?_, ?_, ?_, ?_⟩
  · intro oc ix ci k h
    obtain ⟨h1, h2⟩ := xlk_in h
    obtain ⟨j, hj⟩ := xzip_in (xall xk1_all h1) h2
    dsimp only at hj
    split at hj
    · rename_i own r e1 e2
      simp only [Bool.and_eq_true, decide_eq_true_eq] at hj
      exact ⟨own, r, e1, e2, hj.1, xmem_in hj.2⟩
    · cases hj
  · intro ci r h w hw
    have hlt : ci < 15 := (List.getElem?_eq_some_iff.mp h).1
    have h1 := xall xk2_all hlt
    unfold xk2 at h1
    rw [h] at h1
    dsimp only at h1
    obtain ⟨k, hk, rfl⟩ := List.mem_map.mp hw
    obtain ⟨j, hj⟩ := xzip_in h1 hk
    exact xmem_in hj
  · exact xty_ok
  · intro oc ix ci h
    obtain ⟨h1, h2⟩ := xlk_in h
    obtain ⟨j, hj⟩ := xzip_in (xall xk4_all h1) h2
    dsimp only at hj
    split at hj
    · rename_i own r a z e1 e2 e3
      simp only [Bool.and_eq_true] at hj
      exact ⟨own, r, e1, e2, xmem_in hj.1.1, xmem_in hj.1.2, xmem_in hj.2⟩
    · cases hj
  · intro oc ix t h
    obtain ⟨h1, h2⟩ := xlk_in h
    obtain ⟨j, hj⟩ := xzip_in (xall xk5_all h1) h2
    dsimp only at hj
    split at hj
    · rename_i own t' e1 e2
      cases e2
      simp only [Bool.and_eq_true] at hj
      exact ⟨own, e1, xmem_in hj.1, xmemL_in hj.2⟩
    · cases hj
  · intro oc ix v h
    obtain ⟨h1, h2⟩ := xlk_in h
    obtain ⟨j, hj⟩ := xzip_in (xall xk6_all h1) h2
    dsimp only at hj
    split at hj
    · rename_i own e1
      exact ⟨own, e1, xmem_in hj⟩
    · cases hj
  · have h := xk7_all
    simp only [Bool.and_eq_true] at h
    exact ⟨xmem_in h.1.1, xmem_in h.1.2, xmem_in h.2⟩
  · intro t ci h
    have hlt : t < 5 := (List.getElem?_eq_some_iff.mp h).1
    have h1 := xall xk8_all hlt
    unfold xk8 at h1
    rw [h] at h1
    dsimp only at h1
    simp only [Bool.and_eq_true, decide_eq_true_eq] at h1
    obtain ⟨h1, h2⟩ := h1
    split at h2
    · rename_i r e
      exact ⟨h1, r, e, of_decide_eq_true h2⟩
    · cases h2
end XK
section XK3
/-- an entry of a pool that links a method, as checked -/
theorem xiv_in {oc ix kd k : Nat} (h : xlk xivs oc ix = some (kd, k)) : ∃ (own : String) (js : List Nat), xowns[oc]? = some own ∧ (if k = 170 ∨ k = 171 then decide (kd = 1) && xky own (ix, kd, k) js else if kd < 6 then xkm own (ix, kd, k) js else if kd = 8 then xkh own (ix, kd, k) js else if kd = 6 then xko own ix js else if kd = 7 then xkp own ix js else true) = true := by
  obtain ⟨h1, h2⟩ := xlk_in h
  have h3 := xk10_all h1
  unfold xk10 at h3
  split at h3
  · rename_i own e
    obtain ⟨js, hj⟩ := xzip_in h3 h2
    exact ⟨own, js, e, hj⟩
  · cases h3
theorem xTab2_ok : xTab2 := by
  refine ⟨?_, ?_, ?_, ?_, ?_, ?_, ?_, ?_⟩
  · exact fun w hw => (xwl_in hw).2
  · intro k q hq
    have hlt : k < 192 := (List.getElem?_eq_some_iff.mp hq).1
    have h1 := xall xk9_all hlt
    unfold xk9 at h1
    rw [hq] at h1
    simp only [Bool.and_eq_true, decide_eq_true_eq] at h1
    refine ⟨h1.1, h1.2, fun pc i len hat => ?_⟩
    have h2 := xd_all k hlt
    unfold xdk at h2
    rw [hq] at h2
    unfold xat at hat
    split at hat
    · rename_i t ht
      rw [ht] at h2
      dsimp only at h2
      split at hat
      · rename_i z hz
        cases hat
        have hpc : pc < t.length := (List.getElem?_eq_some_iff.mp hz).1
        have h3 := xall h2 hpc
        rw [hz] at h3
        exact of_decide_eq_true h3
      · cases hat
    · cases hat
  · intro ci r h12 hr
    have h1 := xall xkc_all h12
    unfold xkc at h1
    rw [hr] at h1
    exact of_decide_eq_true h1
  · intro oc ix kd k q h hkd hmm hq
    obtain ⟨own, js, e1, e2⟩ := xiv_in h
    rw [if_neg hmm, if_pos hkd] at e2
    unfold xkm at e2
    dsimp only at e2
    rw [hq] at e2
    dsimp only at e2
    split at e2
    · rename_i _ ji jl ja js g1
      simp only [Bool.and_eq_true] at e2
      obtain ⟨⟨⟨⟨⟨⟨⟨⟨⟨a1, a2⟩, a3⟩, a4⟩, a5⟩, a6⟩, a7⟩, a8⟩, a9⟩, a10⟩ := e2
      refine ⟨own, e1, List.mem_filter.mpr ⟨xcode_in _ _ hq (of_decide_eq_true a1), rfl⟩, xmem_in a2, a3, ⟨of_decide_eq_true a4, of_decide_eq_true a5⟩, fun z => ?_, fun z => ?_, fun z => ?_, fun z => ?_, fun z => ?_⟩
      · rw [if_pos z] at a6; exact xmem_in a6
      · rw [if_neg z] at a6; exact ⟨xho, xmemL_in a6⟩
      · rw [if_pos z] at a7
        simp only [Bool.and_eq_true] at a7
        exact ⟨xmem_in a7.1.1, xmem_in a7.1.2, of_decide_eq_true a7.2⟩
      · rw [if_pos z] at a8
        simp only [Bool.and_eq_true] at a8
        exact ⟨xmem_in a8.1, of_decide_eq_true a8.2⟩
      · rw [if_pos z] at a9
        simp only [Bool.and_eq_true] at a9
        exact ⟨xmem_in a9.1.1.1, of_decide_eq_true a9.1.1.2, of_decide_eq_true a9.1.2, of_decide_eq_true a9.2⟩
    · cases e2
  · intro oc ix h
    obtain ⟨own, js, e1, e2⟩ := xiv_in h
    have h2 := xkq_all
    simp only [Bool.and_eq_true] at h2
    exact ⟨own, e1, xmem_in e2, xmem_in h2.1.1.1.1, xmem_in h2.1.1.1.2⟩
  · intro oc ix h
    obtain ⟨own, js, e1, e2⟩ := xiv_in h
    have h2 := xkq_all
    simp only [Bool.and_eq_true] at h2
    exact ⟨own, e1, xmem_in e2, xmem_in h2.1.1.2, xmem_in h2.1.2, xmem_in h2.2⟩
  · intro oc ix h
    obtain ⟨own, js, e1, e2⟩ := xiv_in h
    have h2 := xkr_all
    simp only [Bool.and_eq_true] at h2
    rw [if_pos (Or.inl rfl)] at e2
    simp only [Bool.and_eq_true] at e2
    have e3 := e2.2
    unfold xky at e3
    split at e3
    · rw [if_pos rfl] at e3
      simp only [Bool.and_eq_true] at e3
      exact ⟨own, e1, xmem_in e3.1, xmem_in e3.2, xmem_in h2.2, xmem_in h2.1.1⟩
    · cases e3
  · intro oc ix h
    obtain ⟨own, js, e1, e2⟩ := xiv_in h
    have h2 := xkr_all
    simp only [Bool.and_eq_true] at h2
    rw [if_pos (Or.inr rfl)] at e2
    simp only [Bool.and_eq_true] at e2
    have e3 := e2.2
    unfold xky at e3
    split at e3
    · rw [if_neg (show ¬ (171 : Nat) = 170 by decide)] at e3
      simp only [Bool.and_eq_true] at e3
      exact ⟨own, e1, xmem_in e3.1, xmem_in e3.2, xmem_in h2.2, xmem_in h2.1.2⟩
    · cases e3
theorem xTab3_ok : xTab3 := by
  refine ⟨?_, ?_⟩
  · intro oc ix kd k h hkd hmm
    obtain ⟨own, js, e1, e2⟩ := xiv_in h
    rw [if_neg hmm, if_pos hkd] at e2
    unfold xkm at e2
    dsimp only at e2
    split at e2
    · split at e2
      · simp only [Bool.and_eq_true] at e2
        exact of_decide_eq_true e2.2
      · cases e2
    · cases e2
  · intro oc ix k q h hq
    obtain ⟨own, js, e1, e2⟩ := xiv_in h
    by_cases hmm : k = 170 ∨ k = 171
    · rw [if_pos hmm] at e2
      simp at e2
    rw [if_neg hmm, if_neg (by decide), if_pos rfl] at e2
    unfold xkh at e2
    dsimp only at e2
    rw [hq] at e2
    dsimp only at e2
    split at e2
    · rename_i _ ji jl ja _ g1
      simp only [Bool.and_eq_true] at e2
      obtain ⟨⟨⟨⟨⟨⟨⟨a1, a2⟩, a3⟩, a4⟩, a5⟩, a6⟩, a7⟩, a8⟩ := e2
      exact ⟨own, e1, List.mem_filter.mpr ⟨xcodeH_in _ _ hq a1, rfl⟩, xmem_in a2, a3, ⟨of_decide_eq_true a4, of_decide_eq_true a5⟩, xmem_in a6, xmem_in a7, of_decide_eq_true a8⟩
    · cases e2
theorem xTab4_ok : xTab4 := by
  intro k pc ci x q h hq
  unfold xhnd at h
  obtain ⟨e, he, -⟩ := Option.map_eq_some_iff.mp h
  have h1 := List.all_eq_true.mp xkn_all e (List.mem_of_find?_eq_some he)
  have h2 := List.find?_some he
  simp only [Bool.and_eq_true, beq_iff_eq] at h2
  obtain ⟨⟨rfl, rfl⟩, -⟩ := h2
  unfold xkn at h1
  rw [hq] at h1
  split at h1
  · rename_i q' ix e1 e2
    cases e1
    split at h1
    · rename_i k' e3
      exact ⟨ix, k', e2, e3⟩
    · cases h1
  · cases h1
end XK3
