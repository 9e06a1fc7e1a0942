section XS
variable {p : Program} {l : Launch} {e : Env} {R : Room} {s : State} {m : MethodId} {args : Array Value} {below : List Frame} {meth : Method} {c : Code} {H : Heap} {locs : List Loc} {cells slots : Nat} {Q : State → Prop}
variable {D : va_G} {dA : Nat → ClassId} {b : xS} {B oc nL : Nat} {ini : Bool} {cc : ByteArray} {pc : Nat} {ls : Array Slot} {lv : xL} {st : List Value} {hp : List xC}
theorem xs1_sound (hT : xTab) (M : xM p s m args meth c D dA b B oc nL ini cc) {i : Instr} {len : Nat} {v : Value} (h : xs1 oc i len lv = some v) (hd : decode cc pc = .ok (i, len)) (hl : lv_has ls nL (lv.map (xm b B))) {rest : List Value}
    (kk : W p l e R s m args below meth c H locs cells slots Q (F0 m (pc + len) ls (xv b B v :: rest))) : W p l e R s m args below meth c H locs cells slots Q (F0 m pc ls rest) := by
  obtain ⟨hx, hb, ⟨own, ho1, ho2⟩, hts, -⟩ := M
  have hcn : ∀ (ix : Nat) (x : Int32), xlk xcns oc ix = some x → (Cond.constant own ix x).before args s = true := fun ix x hq => by
    obtain ⟨own', h1, h2⟩ := hT.2.2.2.2.2.1 oc ix x hq
    cases Option.some.inj (ho1.symm.trans h1)
    exact hts _ h2
  cases i <;> simp only [xs1, reduceCtorEq] at h <;> split at h <;> (try (simp only [reduceCtorEq] at h; done)) <;> rename_i hlen <;> subst hlen
  case iconst n => cases h; exact lv_iconst hx hb hd rfl kk
  case bipush n => cases h; exact lv_bipush hx hb hd rfl kk
  case sipush n => cases h; exact lv_sipush hx hb hd rfl kk
  case aconst_null => cases h; exact lv_null hx hb hd kk
  case ldc ix =>
    obtain ⟨x, h1, rfl⟩ := Option.map_eq_some_iff.mp h
    exact lv_ldc hx hb ho2 (hcn ix x h1) hd kk
  case ldc_w ix =>
    obtain ⟨x, h1, rfl⟩ := Option.map_eq_some_iff.mp h
    exact lv_ldcw hx hb ho2 (hcn ix x h1) hd kk
  case iload k =>
    split at h
    · rename_i x e
      cases h
      exact lv_iload hx hb hd (xlook hl e) kk
    · cases h
  case iload_n k =>
    split at h
    · rename_i x e
      cases h
      exact lv_iload_n hx hb hd rfl (xlook hl e) kk
    · cases h
  case aload k =>
    split at h
    · rename_i x e
      cases h
      exact lv_aload hx hb hd (xlook hl e) kk
    · rename_i e
      cases h
      exact lv_aloadN hx hb hd (xlook hl e) kk
    · cases h
  case aload_n k =>
    split at h
    · rename_i x e
      cases h
      exact lv_aload_n hx hb hd rfl (xlook hl e) kk
    · rename_i e
      cases h
      exact lv_aload_nN hx hb hd rfl (xlook hl e) kk
    · cases h
theorem xs2_sound (M : xM p s m args meth c D dA b B oc nL ini cc) {i : Instr} {x y z : Int32} (h : xs2 i x y = some z) (hd : decode cc pc = .ok (i, 1)) {rest : List Value}
    (kk : W p l e R s m args below meth c H locs cells slots Q (F0 m (pc + 1) ls (.int z :: rest))) : W p l e R s m args below meth c H locs cells slots Q (F0 m pc ls (.int y :: .int x :: rest)) := by
  obtain ⟨hx, hb, -⟩ := M
  cases i <;> simp only [xs2, reduceCtorEq] at h
  case iadd => cases h; exact lv_iadd hx hb hd kk
  case isub => cases h; exact lv_isub hx hb hd kk
  case imul => cases h; exact lv_imul hx hb hd kk
  case iand => cases h; exact lv_iand hx hb hd kk
  case ior => cases h; exact lv_ior hx hb hd kk
  case ixor => cases h; exact lv_ixor hx hb hd kk
  case ishl => cases h; exact lv_ishl hx hb hd kk
  case ishr => cases h; exact lv_ishr hx hb hd kk
  case iushr => cases h; exact lv_iushr hx hb hd rfl kk
  case idiv =>
    split at h
    · cases h
    · rename_i hne
      cases h
      exact lv_idiv hx hb hd hne kk
  case irem =>
    split at h
    · cases h
    · rename_i hne
      cases h
      exact lv_irem hx hb hd hne kk
theorem xs3_sound (M : xM p s m args meth c D dA b B oc nL ini cc) {i : Instr} {st' : List Value} (h : xs3 i st = some st') (hd : decode cc pc = .ok (i, 1))
    (kk : W p l e R s m args below meth c H locs cells slots Q (F0 m (pc + 1) ls (st'.map (xv b B)))) : W p l e R s m args below meth c H locs cells slots Q (F0 m pc ls (st.map (xv b B))) := by
  have hx := M.1
  have hb := M.2.1
  unfold xs3 at h
  split at h
  · split at h
    · rename_i hv
      cases h
      exact lv_dup hx hb hd (by rw [xv_cat]; exact hv) kk
    · cases h
  · split at h
    · rename_i hv
      cases h
      exact lv_pop hx hb hd (by rw [xv_cat]; exact hv) kk
    · cases h
  · split at h
    · rename_i hv
      cases h
      exact lv_dup_x2 hx hb hd (by rw [xv_cat]; exact hv.1) (by rw [xv_cat]; exact hv.2.1) (by rw [xv_cat]; exact hv.2.2) kk
    · cases h
  · split at h
    · rename_i hv
      cases h
      exact lv_dup2_11 hx hb hd (by rw [xv_cat]; exact hv.1) (by rw [xv_cat]; exact hv.2) kk
    · cases h
  · cases h; exact lv_ineg hx hb hd kk
  · cases h; exact lv_i2l hx hb hd rfl kk
  · cases h; exact W.lcmp hx hb hd kk
  · obtain ⟨z, hz, rfl⟩ := Option.map_eq_some_iff.mp h
    exact xs2_sound M hz hd kk
  · cases h
theorem xs4_sound (M : xM p s m args meth c D dA b B oc nL ini cc) {i : Instr} {len : Nat} {lv' : xL} {st' : List Value} (h : xs4 nL i len lv st = some (lv', st')) (hd : decode cc pc = .ok (i, len)) (hl : lv_has ls nL (lv.map (xm b B)))
    (kk : ∀ ls', lv_has ls' nL (lv'.map (xm b B)) → W p l e R s m args below meth c H locs cells slots Q (F0 m (pc + len) ls' (st'.map (xv b B)))) : W p l e R s m args below meth c H locs cells slots Q (F0 m pc ls (st.map (xv b B))) := by
  have hx := M.1
  have hb := M.2.1
  unfold xs4 at h
  split at h
  · split at h
    · rename_i hv
      cases h
      obtain ⟨rfl, hv⟩ := hv
      exact lv_istore hx hb hd hl hv rfl (fun ls' h' => kk ls' (by rw [xput_map]; exact h'))
    · cases h
  · split at h
    · rename_i hv
      cases h
      obtain ⟨rfl, hv⟩ := hv
      exact lv_istore_n hx hb hd rfl hl hv rfl (fun ls' h' => kk ls' (by rw [xput_map]; exact h'))
    · cases h
  · split at h
    · rename_i hv
      cases h
      obtain ⟨rfl, hv⟩ := hv
      exact lv_astore hx hb hd hl hv rfl (fun ls' h' => kk ls' (by rw [xput_map]; exact h'))
    · cases h
  · split at h
    · rename_i hv
      cases h
      obtain ⟨rfl, hv⟩ := hv
      exact lv_astoreN hx hb hd hl hv rfl (fun ls' h' => kk ls' (by rw [xput_map]; exact h'))
    · cases h
  · split at h
    · rename_i hv
      cases h
      obtain ⟨rfl, hv⟩ := hv
      exact lv_astore_n hx hb hd rfl hl hv rfl (fun ls' h' => kk ls' (by rw [xput_map]; exact h'))
    · cases h
  · split at h
    · rename_i hv
      cases h
      obtain ⟨rfl, hv⟩ := hv
      exact lv_astore_nN hx hb hd rfl hl hv rfl (fun ls' h' => kk ls' (by rw [xput_map]; exact h'))
    · cases h
  · split at h
    · rename_i hv
      obtain ⟨rfl, hv⟩ := hv
      split at h
      · rename_i x e
        cases h
        obtain ⟨j, hj⟩ := List.getElem?_of_mem (List.mem_map_of_mem (f := xm b B) (xlook_mem e))
        exact lv_iinc hx hb hd hl hj rfl hv rfl (fun ls' h' => kk ls' (by rw [xput_map]; exact h'))
      · cases h
    · cases h
  · cases h
theorem xs5_sound (M : xM p s m args meth c D dA b B oc nL ini cc) {i : Instr} {len t : Nat} {st' : List Value} (h : xs5 i len pc st = some (t, st')) (hd : decode cc pc = .ok (i, len))
    (kk : W p l e R s m args below meth c H locs cells slots Q (F0 m t ls (st'.map (xv b B)))) : W p l e R s m args below meth c H locs cells slots Q (F0 m pc ls (st.map (xv b B))) := by
  have hx := M.1
  have hb := M.2.1
  unfold xs5 at h
  split at h
  · split at h
    · rename_i hn
      subst hn
      obtain ⟨t', ht, h⟩ := Option.map_eq_some_iff.mp h
      cases h
      exact lv_goto hx hb hd (xj_spec ht) kk
    · cases h
  · split at h
    · rename_i cd off x st0 hn
      subst hn
      obtain ⟨t', ht, h⟩ := Option.map_eq_some_iff.mp h
      cases h
      have ht := xj_spec ht
      cases cd
      · refine lv_if_eq hx hb hd ht (fun q => ?_) (fun q => ?_) <;> simpa [xcmp, q] using kk
      · refine lv_if_ne hx hb hd ht (fun q => ?_) (fun q => ?_) <;> simpa [xcmp, q] using kk
      · refine lv_if_lt hx hb hd ht (fun q => ?_) (fun q => ?_) <;> simpa [xcmp, q] using kk
      · refine lv_if_ge hx hb hd ht (fun q => ?_) (fun q => ?_) <;> simpa [xcmp, q] using kk
      · refine lv_if_gt hx hb hd ht (fun q => ?_) (fun q => ?_) <;> simpa [xcmp, q] using kk
      · refine lv_if_le hx hb hd ht (fun q => ?_) (fun q => ?_) <;> simpa [xcmp, q] using kk
    · cases h
  · split at h
    · rename_i cd off y x st0 hn
      subst hn
      obtain ⟨t', ht, h⟩ := Option.map_eq_some_iff.mp h
      cases h
      have ht := xj_spec ht
      cases cd
      · refine lv_icmp_eq hx hb hd ht (fun q => ?_) (fun q => ?_) <;> simpa [xcmp, q] using kk
      · refine lv_icmp_ne hx hb hd ht (fun q => ?_) (fun q => ?_) <;> simpa [xcmp, q] using kk
      · refine lv_icmp_lt hx hb hd ht (fun q => ?_) (fun q => ?_) <;> simpa [xcmp, q] using kk
      · refine lv_icmp_ge hx hb hd ht (fun q => ?_) (fun q => ?_) <;> simpa [xcmp, q] using kk
      · refine lv_icmp_gt hx hb hd ht (fun q => ?_) (fun q => ?_) <;> simpa [xcmp, q] using kk
      · refine lv_icmp_le hx hb hd ht (fun q => ?_) (fun q => ?_) <;> simpa [xcmp, q] using kk
    · cases h
  · split at h
    · rename_i hn
      subst hn
      obtain ⟨t', ht, h⟩ := Option.map_eq_some_iff.mp h
      cases h
      exact lv_ifnullN hx hb hd (xj_spec ht) kk
    · cases h
  · split at h
    · rename_i hn
      subst hn
      cases h
      exact lv_ifnull hx hb hd kk
    · cases h
  · split at h
    · rename_i hn
      subst hn
      obtain ⟨t', ht, h⟩ := Option.map_eq_some_iff.mp h
      cases h
      exact lv_ifnonnull hx hb hd (xj_spec ht) kk
    · cases h
  · split at h
    · rename_i hn
      subst hn
      cases h
      exact lv_ifnonnullN hx hb hd kk
    · cases h
  · split at h
    · rename_i hn
      obtain ⟨t', ht, h⟩ := Option.map_eq_some_iff.mp h
      cases h
      exact lv_tableOut hx hb hd hn (xj_spec ht) kk
    · rename_i hn
      split at h
      · rename_i off ho
        obtain ⟨t', ht, h⟩ := Option.map_eq_some_iff.mp h
        cases h
        exact lv_tableIn hx hb hd (fun q => hn (Or.inl q)) (fun q => hn (Or.inr q)) ho (xj_spec ht) kk
      · cases h
  · cases h
/-- one cell as a world -/
theorem xP.one {k : Nat} {q : xC} (h : xP b B D dA hp H) (hk : hp[k]? = some q) (h0 : k ≠ 0) : va_P D xcl [(xa b B k, xt b B dA q)] H := by
  intro j x hj
  have hz : j < 1 := (List.getElem?_eq_some_iff.mp hj).1
  rw [show j = 0 by omega] at hj
  cases hj
  exact h.at hk h0
theorem xP.oneO {k : Nat} {q : Nat × List Value} (h : xP b B D dA hp H) (hk : hp[k]? = some (.inr q)) : va_P D xcl [(xa b B k, xt b B dA (.inr q))] H := h.one hk (fun e => by subst e; rw [h.2.2.2] at hk; cases hk)
theorem xtl_ref {t : Nat} (h : t < xovs.length) : (xtl dA)[t + 3]? = some (dA (t + 3), .object (xovs.getD t "")) := by
  simp [xtl, h]
theorem xtl_any {t : Nat} (h : t < 3 + xovs.length) : ∃ ty, (xtl dA)[t]? = some (dA t, ty) := by
  match t, h with
  | 0, _ => exact ⟨_, rfl⟩
  | 1, _ => exact ⟨_, rfl⟩
  | 2, _ => exact ⟨_, rfl⟩
  | t + 3, h => exact ⟨_, xtl_ref (by omega)⟩
theorem xv_rf (o : Option Nat) : xv b B (va_rf o) = va_rf (o.map (xa b B)) := by cases o <;> rfl
theorem xr_len (a : vp_A) : (xr b B a).1 = a.1 := by
  unfold xr
  split <;> rfl
theorem xs6_sound (hT : xTab) (M : xM p s m args meth c D dA b B oc nL ini cc) {i : Instr} {len : Nat} {st' : List Value} (h : xs6 oc i len st hp = some st') (hd : decode cc pc = .ok (i, len)) (hP : xP b B D dA hp H) (hS : va_S (fun q => B ≤ q) s.heap H locs)
    (kk : W p l e R s m args below meth c H locs cells slots Q (F0 m (pc + len) ls (st'.map (xv b B)))) : W p l e R s m args below meth c H locs cells slots Q (F0 m pc ls (st.map (xv b B))) := by
  obtain ⟨hx, hb, ⟨own, ho1, ho2⟩, hts, hK, hbB, hBs, -, -, -, -, hXs⟩ := M
  have hbA : ¬ B ≤ b.1 := Nat.not_le.mpr hbB
  have hbl : b.1 < s.heap.size := Nat.lt_of_lt_of_le hbB hBs
  unfold xs6 at h
  split at h <;> (try (cases h; done)) <;> split at h <;> (try (cases h; done)) <;> rename_i hn <;> subst hn <;> split at h <;> (try (cases h; done))
  · rename_i ix a st0 o1 o2 ci k cj fs h1 h2
    split at h
    · rename_i he
      subst he
      obtain ⟨v, hv, h⟩ := Option.map_eq_some_iff.mp h
      cases h
      obtain ⟨own', r, g1, g2, g3, g4⟩ := hT.1 _ _ _ _ h1
      cases Option.some.inj (ho1.symm.trans g1)
      exact va_get (C := r.1) (T := r.2.1) (N := r.2.2) (v := xv b B v) (ref := (r.2.1 k).1) hx hb hts (hT.2.1 _ _ g2) ho2 hK (hP.oneO h2) 0 rfl g2 k g3 (hts _ g4) (fun _ h9 => h9) (by rw [List.getElem?_map, hv]; rfl) hd kk
    · cases h
  · rename_i j a st0 o1 n f h1
    split at h
    · rename_i hi
      cases h
      by_cases h0 : a = 0
      · subst h0
        rw [hP.2.2.2] at h1
        cases h1
        exact va_sld hx hb hXs hbl hbA hS (xin_in hi) hd kk
      · exact va_iald hx hb hK (hP.one h1 h0) 0 0 rfl rfl (xin_in hi) hd kk
    · cases h
  · rename_i j a st0 o1 n f h1
    split at h
    · rename_i hi
      cases h
      exact va_zald hx hb hK (hP.one h1 (fun e => by subst e; rw [hP.2.2.2] at h1; cases h1)) 0 1 rfl rfl (xin_in hi) hd kk
    · cases h
  · rename_i j a st0 o1 n f h1
    split at h
    · rename_i hi
      cases h
      exact va_lald hx hb hK (hP.one h1 (fun e => by subst e; rw [hP.2.2.2] at h1; cases h1)) 0 2 rfl rfl (xin_in hi) hd kk
    · cases h
  · rename_i j a st0 o1 t n f h1
    split at h
    · rename_i hi
      cases h
      refine va_aldq hx hb hK (hP.one h1 (fun e => by subst e; rw [hP.2.2.2] at h1; cases h1)) 0 (t + 3) rfl (xtl_ref hi.2) (xin_in hi.1) hd ?_
      rw [List.map_cons, xv_rf] at kk
      exact kk
    · cases h
  · rename_i a st0 o1 t n q h1
    split at h
    · rename_i hi
      cases h
      by_cases h0 : a = 0
      · subst h0
        rw [hP.2.2.2] at h1
        cases h1
        exact va_slen hx hb hXs hbl hbA hS hd kk
      · obtain ⟨ty, hty⟩ := xtl_any (dA := dA) hi
        exact va_alen hx hb hK (hP.one h1 h0) 0 t rfl hty (by rw [xr_len]) hd kk
    · cases h
/-- a field is written -/
theorem x_put (hexec : p.tables.exec = Jvm.exec) (hb : c.code = cc) {own C : String} {T : u_T} {N ci index : Nat} {Ts : List Cond} {tys : List (ClassId × FieldType)} (hts : ∀ w ∈ Ts, w.before args s = true) (hin : ∀ w ∈ u_ws C T N, w ∈ Ts) (ty0 : Nat → FieldType) (hty : ∀ k, k < N → parseFieldDescriptor (T k).2.2.1 = some (ty0 k)) (hnm : ∀ a, a < N → ∀ b, b < N → a ≠ b → (T a).2.1 ≠ (T b).2.1)
    (hown : s.vm.findClass own = some m.cls) (hK : va_K D xcl tys s) {a : Nat} {fs : List Value} (hat : va_at D xcl (a, .inr (ci, fs)) H) (hc : xcl[ci]? = some (C, T, N)) (k : Nat) (hk : k < N) (hlink : (Cond.fieldLink own index (T k).1 (T k).2.1 (T k).2.2.1).before args s = true) (hfin : (T k).2.2.2 = false ∨ (meth.name = "<init>" ∧ (T k).1 = own)) {v : Value}
    (hn : narrow (ty0 k) v = v) (hfit : fits (ty0 k) v = true) (hl : k < fs.length) (hdg : decode cc pc = .ok (.putfield index, 3)) {rest : List Value}
    (kk : ∀ (H1 : Heap) (j : Nat), va_at D xcl (a, .inr (ci, fs.set k v)) H1 → H1.size = H.size → (∀ q : Nat, q ≠ a → H1[q]? = H[q]?) → W p l e R s m args below meth c H1 (locs ++ [⟨a, j⟩]) cells slots Q (F0 m (pc + 3) ls rest)) : W p l e R s m args below meth c H locs cells slots Q (F0 m pc ls (v :: .ref a :: rest)) := by
  have hap := va_apart (own := own) hts hin ty0 hty hnm hK hc
  obtain ⟨r, h1, cell, q1, q2, q3, q4⟩ := hat
  have hr : r = (C, T, N) := Option.some.inj (h1.symm.trans hc)
  subst hr
  obtain ⟨hS, hfc, kC, hkC, hkind⟩ := hK.1 ci _ hc
  obtain ⟨cf, kf, fi, f, hi, hsl⟩ := hS k hk
  have hlay := hts _ (hin _ (u_in_lay hk))
  have hst := (u_facts hfc hkC (u_lays hts hin hk) hi).1
  by_cases hff : (T k).2.2.2 = false
  · unfold u_lay at hlay
    rw [if_neg (by rw [hff]; decide)] at hlay
    have h6 := u_store hfc hkC hkind hlay hi (hty k hk) hn hfit
    refine W.putK hexec hb (f := f) ⟨hown, hlink, ⟨_, _, _, hi⟩, hst⟩ (by rw [q2]; exact h6) q1 q3 (by rw [hsl]; exact k2_hasslot (q4 k hk)) rfl rfl hdg fun H' e1 e2 e3 => ?_
    rw [hsl] at e1 ⊢
    exact kk H' _ ⟨_, hc, t_OB.to (V := updV (vp_V fs) k v) ⟨_, e1, q2, q3, t_set q4 hap hk v⟩ (fun j _ => vp_updV_set hl v j)⟩ e2 e3
  · have hft : (T k).2.2.2 = true := by simpa using hff
    obtain ⟨hin2, hdecl⟩ : meth.name = "<init>" ∧ (T k).1 = own := by
      rcases hfin with h | h
      · exact absurd h hff
      · exact h
    unfold u_lay at hlay
    rw [if_pos hft] at hlay
    have hcf : m.cls = cf := by
      obtain ⟨_, _, c', _, _, _, -, -, hf', -, -, -, hown2, -⟩ := Cond.laysFinal_spec hlay
      have e1 : c' = cf := by have := hi.symm.trans hf'; simp at this; exact this.1.symm
      rw [hdecl] at hown2
      rw [← e1]; exact Option.some.inj (hown.symm.trans hown2)
    have h6 := u_fits hfc hkC hkind (Or.inr hlay) hi (hty k hk) hn hfit
    refine W.putFinK hexec hb hown hlink hi hst hcf hin2 (by rw [q2]; exact h6) q1 q3 (by rw [hsl]; exact k2_hasslot (q4 k hk)) rfl rfl hdg fun H' e1 e2 e3 => ?_
    rw [hsl] at e1 ⊢
    exact kk H' _ ⟨_, hc, t_OB.to (V := updV (vp_V fs) k v) ⟨_, e1, q2, q3, t_set q4 hap hk v⟩ (fun j _ => vp_updV_set hl v j)⟩ e2 e3
theorem xfit_ok {ty : FieldType} {v : Value} (h : xfit ty v = true) : narrow ty (xv b B v) = xv b B v ∧ fits ty (xv b B v) = true := by
  unfold xfit at h
  split at h
  · exact ⟨rfl, rfl⟩
  · rename_i x
    have h2 : x = 0 ∨ x = 1 := by simpa using h
    rcases h2 with rfl | rfl <;> exact ⟨rfl, rfl⟩
  · exact ⟨rfl, rfl⟩
  · exact ⟨rfl, rfl⟩
  · exact ⟨rfl, rfl⟩
  · exact ⟨rfl, rfl⟩
  · cases h
theorem xs7_sound (hT : xTab) (M : xM p s m args meth c D dA b B oc nL ini cc) {i : Instr} {len : Nat} {st' : List Value} {hp' : List xC} (h : xs7 oc ini i len st hp = some (st', hp')) (hd : decode cc pc = .ok (i, len)) (hP : xP b B D dA hp H) (hS : va_S (fun q => B ≤ q) s.heap H locs)
    (kk : ∀ (H1 : Heap) (locs1 : List Loc), xP b B D dA hp' H1 → va_S (fun q => B ≤ q) s.heap H1 locs1 → W p l e R s m args below meth c H1 locs1 cells slots Q (F0 m (pc + len) ls (st'.map (xv b B)))) : W p l e R s m args below meth c H locs cells slots Q (F0 m pc ls (st.map (xv b B))) := by
  obtain ⟨hx, hb, ⟨own, ho1, ho2⟩, hts, hK, hbB, hBs, hnL, hini, -⟩ := M
  have hA : ∀ a : Nat, B ≤ xa b B (a + 1) := fun a => Nat.le_add_right _ _
  unfold xs7 at h
  split at h <;> (try (cases h; done)) <;> split at h <;> (try (cases h; done)) <;> rename_i hn <;> subst hn <;> split at h <;> (try (cases h; done))
  · rename_i ix v a st0 o1 o2 ci k cj fs h1 h2
    split at h <;> (try (cases h; done))
    rename_i r ty g2 hty
    split at h <;> (try (cases h; done))
    rename_i hq
    obtain ⟨rfl, hk, hf, hfin⟩ := hq
    cases h
    obtain ⟨own', r', g1, g2', g3, g4⟩ := hT.1 _ _ _ _ h1
    cases Option.some.inj (ho1.symm.trans g1)
    cases Option.some.inj (g2.symm.trans g2')
    obtain ⟨t1, t2⟩ := hT.2.2.1 _ _ _ g2 hty
    obtain ⟨f1, f2⟩ := xfit_ok (b := b) (B := B) hf
    refine x_put (C := r.1) (T := r.2.1) (N := r.2.2) hx hb hts (hT.2.1 _ _ g2) ty t1 t2 ho2 hK (a := xa b B (a + 1)) (hP.2.2.1 _ _ h2) g2 k g3 (hts _ g4) (hfin.elim Or.inl fun z => Or.inr ⟨hini z.1, Option.some.inj (z.2.trans ho1)⟩) f1 f2 (by rw [List.length_map]; exact hk) hd fun H1 j e1 e2 e3 => ?_
    refine kk H1 _ (hP.set hbB h2 ?_ e2 e3) (hS.put e2 e3 (hA a))
    rw [← List.map_set] at e1
    exact e1
  · rename_i x j a st0 o1 n f h1
    split at h <;> (try (cases h; done))
    rename_i hi
    cases h
    have hin := xin_in hi
    refine W.iast hx hb (hP.2.2.1 _ _ h1) ((hK.2 0 _ rfl).1 n (fun j => .int (f j))) (fun q => by cases q) (by show ¬ (j < 0 ∨ (arrV _ _ _).slots.size ≤ _); rw [arrV_size]; exact hin) rfl rfl hd fun H1 e z oq => ?_
    refine kk H1 _ (hP.set hbB h1 ?_ z oq) (hS.put z oq (hA a))
    show H1[xa b B (a + 1)]? = some (vp_cell _ _)
    rw [e]
    show some ((vp_cell (dA 0) (n, .inl f)).setSlot _ _) = some (vp_cell (dA 0) (n, .inl _))
    rw [vp_cell_i, vp_cell_i, arrV_store]
    congr 2
    funext q
    by_cases hq : q = j.toNatClampNeg
    · subst hq
      simp [updV, upd]
    · simp [updV, upd, hq]
  · rename_i x j a st0 o1 n f h1
    split at h <;> (try (cases h; done))
    rename_i hi
    cases h
    have hin := xin_in hi
    refine W.zast hx hb (hP.2.2.1 _ _ h1) ((hK.2 1 _ rfl).1 n (fun j => .int (f j))) (fun q => by cases q) (by show ¬ (j < 0 ∨ (arrV _ _ _).slots.size ≤ _); rw [arrV_size]; exact hin) rfl rfl hd fun H1 e z oq => ?_
    refine kk H1 _ (hP.set hbB h1 ?_ z oq) (hS.put z oq (hA a))
    show H1[xa b B (a + 1)]? = some (vp_cell _ _)
    rw [e]
    show some ((vp_cell (dA 1) (n, .inl f)).setSlot _ _) = some (vp_cell (dA 1) (n, .inl _))
    rw [vp_cell_i, vp_cell_i, arrV_store]
    congr 2
    funext q
    by_cases hq : q = j.toNatClampNeg
    · subst hq
      simp [updV, upd, vp_nar]
      try rfl
    · simp [updV, upd, hq]
  · rename_i x j a st0 o1 n f h1
    split at h <;> (try (cases h; done))
    rename_i hi
    cases h
    have hin := xin_in hi
    refine W.last hx hb (hP.2.2.1 _ _ h1) ((hK.2 2 _ rfl).1 n (fun j => .long (f j))) (fun q => by cases q) (by show ¬ (j < 0 ∨ (arrV _ _ _).slots.size ≤ _); rw [arrV_size]; exact hin) rfl rfl hd fun H1 e z oq => ?_
    refine kk H1 _ (hP.set hbB h1 ?_ z oq) (hS.put z oq (hA a))
    show H1[xa b B (a + 1)]? = some (vp_cell _ _)
    rw [e]
    show some ((vp_cell (dA 2) (n, .inr (.inl f))).setSlot _ _) = some (vp_cell (dA 2) (n, .inr (.inl _)))
    rw [vp_cell_l, vp_cell_l, arrV_store]
    congr 2
    funext q
    by_cases hq : q = j.toNatClampNeg
    · subst hq
      simp [updV, vp_updL]
    · simp [updV, vp_updL, hq]
  · rename_i v j a st0 o1 o2 t n f ci fs h1 h2
    split at h <;> (try (cases h; done))
    rename_i hi
    cases h
    obtain ⟨hi, hov⟩ := hi
    have hin := xin_in hi
    obtain ⟨ht, r, hr, hrn⟩ := hT.2.2.2.2.2.2.2 _ _ hov
    have hlt : j.toNatClampNeg < n := Nat.not_le.mp fun q => hin (Or.inr q)
    have h0 : ¬ j < 0 := fun q => hin (Or.inl q)
    obtain ⟨r', hr', cellV, g1, g2, g3, -⟩ := hP.obj h2
    have hcls := (hK.1 ci r hr).2
    have hty := xtl_ref (dA := dA) ht
    rw [← hrn] at hty
    obtain ⟨kA, comp, k1, k2, k3, -⟩ := (hK.2 (t + 3) _ hty).2
    have hcomp : comp = D.1 ci := Option.some.inj (k3.symm.trans hcls.1)
    subst hcomp
    obtain ⟨kC, hkC, -⟩ := hcls.2
    refine W.aast hx hb (hP.2.2.1 _ _ h1) (fun q h => by cases h) (fun h => by cases h) k1 k2 rfl hkC ⟨h0, by show _ < (arrV _ _ _).slots.size; rw [arrV_size]; exact hlt⟩ g1 (fun q h => by rw [g3] at h; cases h) (by rw [g2]; exact hkC) (by rw [g2]; exact va_assign hcls) rfl rfl hd fun H1 e z oq => ?_
    refine kk H1 _ (hP.set hbB h1 ?_ z oq) (hS.put z oq (hA a))
    show H1[xa b B (a + 1)]? = some (vp_cell _ _)
    rw [e]
    show some ((vp_cell (dA (t + 3)) (n, .inr (.inr (.inr (.inr _))))).setSlot _ _) = some (vp_cell (dA (t + 3)) (n, .inr (.inr (.inr (.inr _)))))
    rw [vp_cell_q, vp_cell_q, arrV_store]
    congr 2
    funext q
    by_cases hq : q = j.toNatClampNeg
    · subst hq
      simp [updV, va_up, va_rf]
    · simp [updV, va_up, hq]
theorem xv_dv (ty : FieldType) : xv b B (defaultValue ty) = defaultValue ty := by cases ty <;> rfl
theorem xs8_sound (hT : xTab) (M : xM p s m args meth c D dA b B oc nL ini cc) {i : Instr} {len n : Nat} {st' : List Value} {q : xC} (h : xs8 oc i len st = some (st', q, n)) (hd : decode cc pc = .ok (i, len)) (hP : xP b B D dA hp H) (hS : va_S (fun q => B ≤ q) s.heap H locs) (hcells : cells + 1 ≤ R.cells) (hslots : slots + n ≤ R.slots)
    (kk : ∀ (H1 : Heap), xP b B D dA (hp ++ [q]) H1 → va_S (fun q => B ≤ q) s.heap H1 locs → W p l e R s m args below meth c H1 locs (cells + 1) (slots + n) Q (F0 m (pc + len) ls (xv b B (.ref hp.length) :: st'.map (xv b B)))) : W p l e R s m args below meth c H locs cells slots Q (F0 m pc ls (st.map (xv b B))) := by
  obtain ⟨hx, hb, ⟨own, ho1, ho2⟩, hts, hK, hbB, hBs, hnL, hini, -, hBw, -⟩ := M
  have hnew : xv b B (.ref hp.length) = .ref H.size := by
    show Value.ref (xa b B hp.length) = _
    rw [hP.new]
  rw [hnew] at kk
  have hgo : ∀ (H1 : Heap), va_at D xcl (H.size, xt b B dA q) H1 → H1.size = H.size + 1 → (∀ q : Nat, q < H.size → H1[q]? = H[q]?) → W p l e R s m args below meth c H1 locs (cells + 1) (slots + n) Q (F0 m (pc + len) ls (.ref H.size :: st'.map (xv b B))) :=
    fun H1 e1 e2 e3 => kk H1 (hP.push hbB e1 e2 e3) ⟨Nat.le_trans hS.1 (by omega), fun x h1 h2 => (e3 x (Nat.lt_of_lt_of_le h1 hS.1)).trans (hS.2.1 x h1 h2), hS.2.2⟩
  unfold xs8 at h
  split at h <;> (try (cases h; done)) <;> split at h <;> (try (cases h; done)) <;> rename_i hn
  · subst hn
    split at h <;> (try (cases h; done))
    rename_i ci h1
    split at h <;> (try (cases h; done))
    rename_i r ty g2 hty
    cases h
    obtain ⟨own', r', g1, g2', g3, g4, g5⟩ := hT.2.2.2.1 _ _ _ h1
    cases Option.some.inj (ho1.symm.trans g1)
    cases Option.some.inj (g2.symm.trans g2')
    obtain ⟨t1, t2⟩ := hT.2.2.1 _ _ _ g2 hty
    have hKn := hK.1 ci _ g2
    refine W.newcK hx hb ho2 (hts _ g3) (hts _ g4) (hts _ g5) rfl hd hcells hslots hKn.2.1 rfl fun H1 kC hkC e1 e2 e3 => ?_
    refine hgo H1 ⟨r, g2, (u_born ty hts (hT.2.1 _ _ g2) hKn hkC e1 t1).to (fun j hj => ?_)⟩ e2 e3
    simp [vp_V, hj, xv_dv]
  · obtain ⟨rfl, hn, hbig⟩ := hn
    rename_i at0 k st0
    have hbytes : ∀ ty : FieldType, componentBytes ty ≤ 8 → k.toNatClampNeg * componentBytes ty ≤ 536870912 := fun ty h8 => Nat.le_trans (Nat.mul_le_mul hbig h8) (by decide)
    obtain ⟨w1, w2, w3⟩ := hT.2.2.2.2.2.2.1
    split at h <;> (try (cases h; done))
    · cases h
      refine va_newaK hx hb (atype := .int) (hts _ w1) rfl hd rfl hn rfl (hbytes _ (by decide)) hcells hslots rfl fun H1 cA e1 e2 e3 _ hNm => ?_
      have hcA : cA = dA 0 := Option.some.inj (hNm.symm.trans (hK.2 0 _ rfl).2)
      subst hcA
      exact hgo H1 e1 e2 e3
    · cases h
      refine va_newaK hx hb (atype := .boolean) (hts _ w2) rfl hd rfl hn rfl (hbytes _ (by decide)) hcells hslots rfl fun H1 cA e1 e2 e3 _ hNm => ?_
      have hcA : cA = dA 1 := Option.some.inj (hNm.symm.trans (hK.2 1 _ rfl).2)
      subst hcA
      exact hgo H1 e1 e2 e3
    · cases h
      refine va_newaK hx hb (atype := .long) (hts _ w3) rfl hd rfl hn rfl (hbytes _ (by decide)) hcells hslots rfl fun H1 cA e1 e2 e3 _ hNm => ?_
      have hcA : cA = dA 2 := Option.some.inj (hNm.symm.trans (hK.2 2 _ rfl).2)
      subst hcA
      exact hgo H1 e1 e2 e3
  · obtain ⟨rfl, hn, hbig⟩ := hn
    rename_i ix k st0
    split at h <;> (try (cases h; done))
    rename_i t h1
    split at h <;> (try (cases h; done))
    rename_i ht
    cases h
    obtain ⟨own', g1, g2, g3⟩ := hT.2.2.2.2.1 _ _ _ h1
    cases Option.some.inj (ho1.symm.trans g1)
    refine W.anew hx hb ho2 (hts _ g2) (va_AO.use (hBw _ g3 rfl)) rfl hd rfl hn (by omega) hcells hslots fun cA kA comp z1 z2 z3 z4 => ?_
    obtain ⟨kA', comp', y1, y2, y3, y4⟩ := (hK.2 (t + 3) _ (xtl_ref ht)).2
    have hcA : cA = dA (t + 3) := Option.some.inj (z1.symm.trans y4)
    subst hcA
    refine hgo _ ?_ (by simp) (fun q hq => by rw [Array.getElem?_push, if_neg (Nat.ne_of_lt hq)])
    show (H.push _)[H.size]? = some (vp_cell (dA (t + 3)) (k.toNatClampNeg, .inr (.inr (.inr (.inr _)))))
    rw [vp_cell_q, ← arrV_new]
    simp [va_rf]
end XS
