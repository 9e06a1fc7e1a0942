section XTH3
theorem xThrOk_ok : xThrOk := by
  intro d k pc ci q hq hthr p l e R s m args below meth c H locs ls D dA b B cells slots mc ms hp rest M N hsz hP hS hR hcat h1 h2 h3 h4
  unfold xthr at hthr
  obtain ⟨e1, he1, rfl⟩ := Option.map_eq_some_iff.mp hthr
  have hm := List.mem_of_find?_eq_some he1
  have hf := List.find?_some he1
  simp only [Bool.and_eq_true, beq_iff_eq] at hf
  obtain ⟨rfl, rfl⟩ := hf
  rw [xths_eq] at hm
  obtain ⟨t, ht, rfl⟩ := List.mem_map.mp hm
  have hk := List.all_eq_true.mp xkt_all t ht
  obtain ⟨hx, hb, ⟨own, ho1, ho2⟩, hts, hK, hbB, hBs, hnL, hini, hlocks, hBw, hXs⟩ := M
  obtain ⟨hst, ⟨hU, hN, hStr, -⟩, htab⟩ := N
  have hdec : ∀ (pc : Nat) (i : Instr) (len : Nat), xat t.1 pc = some (i, len) → decode q.2.2.1 pc = .ok (i, len) := (xTab2_ok.2.1 _ _ hq).2.2
  dsimp only at hq htab ⊢
  unfold xkt at hk
  rw [hq] at hk
  split at hk
  · rename_i q0 z e1 e2
    cases e1
    simp only [Bool.and_eq_true] at hk
    obtain ⟨⟨⟨⟨⟨⟨⟨⟨⟨⟨a1, a2⟩, a3⟩, a4⟩, a5⟩, a6⟩, a7⟩, a8⟩, a9⟩, a10⟩, a11⟩ := hk
    have a1 := of_decide_eq_true a1
    rw [a1] at ho1
    have hown : own = RX10 := (Option.some.inj ho1).symm
    subst hown
    obtain ⟨hwd, r, hr1, hr2, hr3⟩ := xic_wd e2
    obtain ⟨sa, hsa⟩ := hStr _ _ _ (xmemL_in a6)
    have hat : ∀ w ∈ vx_atS RX10 z.2.1 z.2.2.1 xnm, w.before args s = true := by
      intro w hw
      have hq1 := List.all_eq_true.mp hwd w hw
      simp only [xwd, Bool.and_eq_true] at hq1
      obtain ⟨⟨-, hq2⟩, hq3⟩ := hq1
      have hq3 : w ∈ lw_tbl := List.elem_iff.mp hq3
      split at hq2
      · rename_i hg
        exact hts _ (List.mem_filter.mpr ⟨hq3, hg⟩)
      · simp only [Bool.and_eq_true] at hq2
        exact va_Nw.use hq2.2 (hBw _ hq3 hq2.1)
    have hgood : ∀ w ∈ Cond.classLink RX10 z.1 z.2.2.1 :: Cond.initialized z.2.2.1 :: vx_atS RX10 z.2.1 z.2.2.1 xnm, vx_ot w = true := by
      intro w hw
      rcases List.mem_cons.mp hw with rfl | hw
      · exact a9
      rcases List.mem_cons.mp hw with rfl | hw
      · exact a10
      · have hq1 := List.all_eq_true.mp hwd w hw
        simp only [xwd, Bool.and_eq_true] at hq1
        exact hq1.1.1
    have hempty : ∀ x ∈ c.exceptionTable.toList, False := by
      rw [htab, of_decide_eq_true a2]
      exact fun _ h => nomatch h
    have hxx : ∀ t9 : State, s.vm.Alike t9.vm → t9.heap.size = H.size + 1 → (∀ q : Nat, q < H.size → t9.heap[q]? = H[q]?) → (∃ ce : Cell, t9.heap[H.size]? = some ce ∧ ce.vm = .none ∧ s.vm.findClass z.2.2.1 = some ce.cls) → xXC b B D dA (.inr (12 + t.2.2.1)) (hp ++ [.inr (12 + t.2.2.1, [])]) z.2.2.1 s t9 := by
      intro t9 _ g1 g2 ⟨ce, g3, g4, g5⟩
      refine ⟨_, r, rfl, hr1, hr2, hP.push hbB ?_ g1 g2, ⟨by rw [g1]; exact Nat.le_succ_of_le hS.1, fun q0 z1 z2 => ?_⟩⟩
      · refine ⟨r, hr1, ce, g3, ?_, g4, fun k0 hk0 => absurd hk0 (by rw [hr3]; exact Nat.not_lt_zero _)⟩
        have hc := (hK.1 _ _ hr1).2.1
        rw [hr2] at hc
        exact Option.some.inj (g5.symm.trans hc)
      · rw [g2 q0 (Nat.lt_of_lt_of_le z1 hS.1)]
        exact hS.2.1 q0 z1 z2
    have hRf : xnm.length + 3 < R.frames := by have := hR.1; show 2 + 3 < _; omega
    have hRl : (rest.map fun v => v.category).sum + (13 * (xnm.length + 1) + 43) ≤ R.locals := by have := hR.2; show _ + (13 * (2 + 1) + 43) ≤ _; omega
    split at a5
    · simp only [Bool.and_eq_true] at a5
      exact x_throwSW hx hb hst ho2 a11 xnm_fit (hts _ (xmem_in a7)) (hts _ (xmem_in a8)) hsa hat hgood hU hN hS (hsz.trans hnL.symm) (hdec _ _ _ (of_decide_eq_true a3)) (hdec _ _ _ (of_decide_eq_true a4)) (hdec _ _ _ (of_decide_eq_true a5.1.1)) (hdec _ _ _ (of_decide_eq_true a5.1.2)) (hdec _ _ _ (of_decide_eq_true a5.2)) (fun x hx => (hempty x hx).elim) hRf hRl (by omega) (by omega) hlocks hxx hS.2.2 h1 h2
    · simp only [Bool.and_eq_true] at a5
      exact x_throwS hx hb hst ho2 a11 xnm_fit (hts _ (xmem_in a7)) (hts _ (xmem_in a8)) hsa hat hgood hU hN hS (hsz.trans hnL.symm) (hdec _ _ _ (of_decide_eq_true a3)) (hdec _ _ _ (of_decide_eq_true a4)) (hdec _ _ _ (of_decide_eq_true a5.1.1)) (hdec _ _ _ (of_decide_eq_true a5.1.2)) (hdec _ _ _ (of_decide_eq_true a5.2)) (fun x hx => (hempty x hx).elim) hRf hRl (by omega) (by omega) hlocks hxx hS.2.2 h1 h2
  · cases hk
end XTH3
