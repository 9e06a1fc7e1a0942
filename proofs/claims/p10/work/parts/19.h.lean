section XHB
theorem xEX_cl {i : Nat} {nm : String} {r : vw_C} (h : xEX[i]? = some nm) (hr : xcl[12 + i]? = some r) : r.1 = nm := by
  match i, h, hr with
  | 0, h, hr => cases h; cases hr; rfl
  | 1, h, hr => cases h; cases hr; rfl
  | 2, h, hr => cases h; cases hr; rfl
  | i + 3, h, hr => simp [xEX] at h
theorem xEX_ne {i j : Nat} {a b : String} (h : xEX[i]? = some a) (h' : xEX[j]? = some b) (hne : i ≠ j) : a ≠ b := by
  match i, j, h, h' with
  | 0, 0, _, _ => exact absurd rfl hne
  | 0, 1, h, h' => cases h; cases h'; decide
  | 0, 2, h, h' => cases h; cases h'; decide
  | 1, 0, h, h' => cases h; cases h'; decide
  | 1, 1, _, _ => exact absurd rfl hne
  | 1, 2, h, h' => cases h; cases h'; decide
  | 2, 0, h, h' => cases h; cases h'; decide
  | 2, 1, h, h' => cases h; cases h'; decide
  | 2, 2, _, _ => exact absurd rfl hne
  | i + 3, _, h, _ => simp [xEX] at h
  | 0, j + 3, _, h' => simp [xEX] at h'
  | 1, j + 3, _, h' => simp [xEX] at h'
  | 2, j + 3, _, h' => simp [xEX] at h'
theorem xrow_in {h : Nat × Nat × Nat × Nat} {i : Nat} (hr : xrow h i = true) : ∃ nm : String, xEX[i]? = some nm ∧ h.2.2.2 ≠ 0 ∧ Cond.classLink RL h.2.2.2 nm ∈ xwl := by
  unfold xrow at hr
  split at hr
  · rename_i q nm e1 e2
    simp only [Bool.and_eq_true] at hr
    exact ⟨nm, e2, of_decide_eq_true hr.1.2, xmem_in hr.2⟩
  · cases hr
theorem xHndOk_ok : xHndOk := by
  intro d k pc ci x q r hq hhnd hr p l e R s m args below meth c H locs ls D dA b B mc ms hp rest a ce lv M hret N hl hP hS hR hce hcv hcl
  unfold xhnd at hhnd
  obtain ⟨e1, he1, rfl⟩ := Option.map_eq_some_iff.mp hhnd
  have hm := List.mem_of_find?_eq_some he1
  have hf := List.find?_some he1
  simp only [Bool.and_eq_true, beq_iff_eq] at hf
  obtain ⟨⟨rfl, rfl⟩, rfl⟩ := hf
  rw [xhds_eq] at hm
  obtain ⟨t, ht, rfl⟩ := List.mem_map.mp hm
  have hk := List.all_eq_true.mp xkv_all t ht
  obtain ⟨hx, hb, ⟨own, ho1, ho2⟩, hts, hK, hbB, hBs, hnL, hini, hlocks, hBw, hXs⟩ := M
  obtain ⟨hst, ⟨-, -, -, -, hNc, -⟩, htab⟩ := N
  have hdec : ∀ (pc : Nat) (i : Instr) (len : Nat), xat t.1 pc = some (i, len) → decode q.2.2.1 pc = .ok (i, len) := (xTab2_ok.2.1 _ _ hq).2.2
  dsimp only at hq htab hr ⊢
  unfold xkv at hk
  rw [hq] at hk
  split at hk
  · rename_i q0 h nm e1 e2 e3
    cases e1
    simp only [Bool.and_eq_true] at hk
    obtain ⟨⟨⟨⟨⟨⟨⟨a1, a2⟩, a3⟩, a4⟩, a5⟩, a6⟩, a7⟩, a8⟩ := hk
    have a1 := of_decide_eq_true a1
    rw [a1] at ho1
    have hown : own = RL := (Option.some.inj ho1).symm
    subst hown
    have hret : meth.sig.returnType = some .int := hret.trans (of_decide_eq_true a2)
    have hnm : r.1 = nm := xEX_cl e3 hr
    rw [hnm] at hcl
    obtain ⟨nm', g1, g2, g3⟩ := xrow_in a4
    cases Option.some.inj (g1.symm.trans e3)
    have hin := of_decide_eq_true a3
    have hsplit : c.exceptionTable.toList = (tableOf ((xtb t.1).take t.2.2.1)) ++ ⟨h.1, h.2.1, h.2.2.1, h.2.2.2⟩ :: tableOf ((xtb t.1).drop (t.2.2.1 + 1)) := by
      rw [htab]
      have hlt : t.2.2.1 < (xtb t.1).length := (List.getElem?_eq_some_iff.mp e2).1
      have hge : (xtb t.1)[t.2.2.1] = h := (List.getElem?_eq_some_iff.mp e2).2
      have hsp : xtb t.1 = (xtb t.1).take t.2.2.1 ++ h :: (xtb t.1).drop (t.2.2.1 + 1) := by
        rw [← hge, ← List.drop_eq_getElem_cons hlt, List.take_append_drop]
      have := congrArg tableOf hsp
      rw [this]
      simp only [tableOf, List.map_append, List.map_cons]
    have hq9 : ∀ t9 : State, t9.heap = H → xQc b B D dA (.inl (some (.int (Int32.ofInt (t.2.2.2.2.2.2 : Int))))) hp args s (.returned (some (.int (Int32.ofInt (t.2.2.2.2.2.2 : Int))))) t9 := fun t9 h9 => ⟨_, rfl, rfl, by rw [h9]; exact hP, hS.F h9⟩
    refine vx_catch (own := RL) (E := nm) (name := nm) ho2 (tableOf ((xtb t.1).take t.2.2.1)) ⟨h.1, h.2.1, h.2.2.1, h.2.2.2⟩ (tableOf ((xtb t.1).drop (t.2.2.1 + 1))) hsplit ?_ ?_ g2 (hts _ g3) (va_Nw.use rfl (hBw _ (xmemL_in a5) rfl)) hce hcv hcl ?_
    · intro z hz
      obtain ⟨z0, hz0, rfl⟩ := List.mem_map.mp hz
      have h1 := List.all_eq_true.mp a7 z0 hz0
      split at h1
      · rename_i i hi
        simp only [Bool.and_eq_true] at h1
        obtain ⟨nmz, w1, w2, w3⟩ := xrow_in h1.2
        exact Or.inr ⟨w2, nmz, hts _ w3, hNc _ (List.mem_of_getElem? e3) _ (List.mem_of_getElem? w1) (xEX_ne e3 w1 (Ne.symm (of_decide_eq_true h1.1)))⟩
      · cases h1
    · simp only [covers]
      simpa using hin
    · split at a8
      · simp only [Bool.and_eq_true] at a8
        refine lv_astore hx hb (hdec _ _ _ (of_decide_eq_true a8.1.1)) hl (of_decide_eq_true a6) rfl (fun ls' hl' => ?_)
        refine lv_iconst hx hb (hdec _ _ _ (of_decide_eq_true a8.1.2)) rfl ?_
        exact vx_ret (W.iret hx hb hret (fun t9 h9 _ => hq9 t9 h9) hS.2.2 (hdec _ _ _ (of_decide_eq_true a8.2)) hlocks)
      · simp only [Bool.and_eq_true] at a8
        obtain ⟨⟨b1, b2⟩, b3⟩ := a8
        split at b1
        · rename_i f hf
          refine lv_astore_n hx hb (hdec _ _ _ hf) (of_decide_eq_true b1) hl (of_decide_eq_true a6) rfl (fun ls' hl' => ?_)
          refine lv_iconst hx hb (hdec _ _ _ (of_decide_eq_true b2)) rfl ?_
          exact vx_ret (W.iret hx hb hret (fun t9 h9 _ => hq9 t9 h9) hS.2.2 (hdec _ _ _ (of_decide_eq_true b3)) hlocks)
        · cases b1
  · cases hk
end XHB
