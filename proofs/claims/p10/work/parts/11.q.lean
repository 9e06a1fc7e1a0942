section XQ
variable {p : Program} {l : Launch} {e : Env} {R : Room} {s : State} {m : MethodId} {args : Array Value} {below : List Frame} {meth : Method} {c : Code} {H : Heap} {locs : List Loc} {cells slots : Nat} {Q : State → Prop}
variable {D : va_G} {dA : Nat → ClassId} {b : xS} {B oc nL : Nat} {ini : Bool} {cc : ByteArray} {pc : Nat} {ls : Array Slot} {lv : xL} {st : List Value} {hp : List xC} {ks : Nat}
theorem xMet_in {y : MethodName} {ws : List Cond} {rm : Room} {Pc : Array Value → State → Prop} {v : Option Value} {hp' : List xC} {mc ms : Nat} {free : Addr → Prop} (h : vx_Met l y ws rm Pc (xQc b B D dA (.inl v) hp') (xXC b B D dA (.inl v) hp') mc ms free) : Met l y ws rm Pc (xQc b B D dA (.inl v) hp') mc ms free := by
  refine MetFree.mono h (fun _ _ z => z) (fun _ _ _ _ _ z => z) (fun a s o t _ z => ?_)
  rcases z with z | ⟨q, -, E, ce, L, hx, -⟩
  · exact z
  · obtain ⟨ci, r, ho, -⟩ := hx
    cases ho
theorem x_after {mc ms : Nat} {st0 rest : List Value} {v : Option Value} {hp' : List xC} {a : Array Value} (hr : va_Run p l e R s m args below meth c H locs cells slots mc ms (F0 m pc ls st0) rest (xQc b B D dA (.inl v) hp' a) (fun q => B ≤ q)) (hS : va_S (fun q => B ≤ q) s.heap H locs)
    (kk : ∀ (H1 : Heap) (locs1 : List Loc), xP b B D dA hp' H1 → va_S (fun q => B ≤ q) s.heap H1 locs1 → W p l e R s m args below meth c H1 locs1 (cells + mc) (slots + ms) Q (F0 m (pc + 3) ls ((v.map (xv b B)).toList ++ rest))) : W p l e R s m args below meth c H locs cells slots Q (F0 m pc ls st0) := by
  intro T hT X
  obtain ⟨v', st₀, t, T', L, h0, X', hL, e1, e2, ⟨w, hw, hv, hP, hF⟩, st⟩ := hr T hT X
  cases hw
  cases hv
  obtain ⟨k1, k2, k3⟩ := vx_keep h0 e1 hS (A1 := fun q => B ≤ q) (fun _ _ z => z) (free := fun q => B ≤ q) (fun _ z => z) hL hF
  obtain ⟨t2, a1, b1⟩ := kk T'.heap (locs ++ L) (by rw [e1]; exact hP) k3 T' rfl X'
  exact ⟨t2, st t2 a1, b1⟩
theorem x_afterX {mc ms : Nat} {st0 rest : List Value} {ci : Nat} {hp' : List xC} {a : Array Value} (hr : vx_Run p l e R s m args below meth c H locs cells slots mc ms (F0 m pc ls st0) rest (xQc b B D dA (.inr ci) hp' a) (xXC b B D dA (.inr ci) hp') (fun q => B ≤ q)) (hS : va_S (fun q => B ≤ q) s.heap H locs)
    (kk : ∀ (H1 : Heap) (locs1 : List Loc) (r : vw_C) (q9 : Addr) (ce : Cell), xcl[ci]? = some r → xP b B D dA hp' H1 → va_S (fun q => B ≤ q) s.heap H1 locs1 → H1[q9]? = some ce → ce.vm = .none → s.vm.findClass r.1 = some ce.cls → vx_W p l e R s m args below meth c H1 locs1 (cells + mc) (slots + ms) Q (F0 m pc ls rest) q9) : W p l e R s m args below meth c H locs cells slots Q (F0 m pc ls st0) := by
  intro T hT X
  rcases hr T hT X with ⟨v, st₀, t, T', L, h0, X', hL, e1, e2, ⟨w, hw, -⟩, st⟩ | ⟨q, st₀, t, T', L, E, ce, h0, X', hL, e1, e2, ⟨cj, r, hw, hr', hrE, hP, hF⟩, hce, hcv, hcl, st⟩
  · cases hw
  · cases hw
    subst hrE
    obtain ⟨k1, k2, k3⟩ := vx_keep h0 e1 hS (A1 := fun q => B ≤ q) (fun _ _ z => z) (free := fun q => B ≤ q) (fun _ z => z) hL hF
    obtain ⟨t2, a1, b1⟩ := kk T'.heap (locs ++ L) r q ce hr' (by rw [e1]; exact hP) k3 (by rw [e1]; exact hce) hcv hcl T' rfl X'
    exact ⟨t2, st.trans a1, b1⟩
theorem xtk_spec {n : Nat} {st x y : List Value} (h : xtk n st = some (x, y)) : st = x.reverse ++ y ∧ x.length = n := by
  unfold xtk at h
  split at h
  · rename_i hn
    cases h
    exact ⟨by simp, by simp; omega⟩
  · cases h
/-- the end of a method -/
theorem xret_sound {mc ms : Nat} {ret : Option FieldType} (M : xM p s m args meth c D dA b B oc nL ini cc) (hr : meth.sig.returnType = ret) {i : Instr} {len : Nat} {v : Option Value} (h : xret ret i len st = some v) (hd : decode cc pc = .ok (i, len)) (hP : xP b B D dA hp H) (hS : va_S (fun q => B ≤ q) s.heap H locs) (hc : cells = mc) (hs : slots = ms) :
    W p l e R s m args below meth c H locs cells slots (vx_MQ below (xQc b B D dA (.inl v) hp) (xXC b B D dA (.inl v) hp) args s mc ms (fun q => B ≤ q)) (F0 m pc ls (st.map (xv b B))) := by
  subst hc
  subst hs
  obtain ⟨hx, hb, -, -, -, -, -, -, -, hlocks, -⟩ := M
  refine vx_ret ?_
  have hq : ∀ t : State, t.heap = H → xQc b B D dA (.inl v) hp args s (.returned (v.map (xv b B))) t := fun t ht => ⟨v, rfl, rfl, by rw [ht]; exact hP, hS.F ht⟩
  unfold xret at h
  split at h <;> (try (cases h; done)) <;> split at h <;> (try (cases h; done)) <;> rename_i hn
  · subst hn
    cases h
    exact W.iret hx hb hr (fun t ht _ => hq t ht) hS.2.2 hd hlocks
  · obtain ⟨rfl, hn⟩ := hn
    cases h
    refine W.zret hx hb hr ?_ (fun t ht _ => hq t ht) hS.2.2 hd hlocks
    rcases hn with rfl | rfl <;> rfl
  · subst hn
    cases h
    exact W.aret hx hb hr (Or.inl ⟨_, rfl⟩) (Or.inr ⟨_, rfl⟩) (fun t ht _ => hq t ht) hS.2.2 hd hlocks
  · subst hn
    cases h
    exact W.aret hx hb hr (Or.inl ⟨_, rfl⟩) (Or.inl rfl) (fun t ht _ => hq t ht) hS.2.2 hd hlocks
  · subst hn
    cases h
    exact W.aret hx hb hr (Or.inr ⟨_, rfl⟩) (Or.inr ⟨_, rfl⟩) (fun t ht _ => hq t ht) hS.2.2 hd hlocks
  · subst hn
    cases h
    exact W.vret hx hb hr (fun t ht _ => hq t ht) hS.2.2 hd hlocks
/-- what a callee is given -/
theorem xpre (M : xM p s m args meth c D dA b B oc nL ini cc) {k : Nat} (N : xN l b B s c k) (hP : xP b B D dA hp H) (hS : va_S (fun q => B ≤ q) s.heap H locs) (as : List Value) : PreS s H (xPc b B D dA hp as) (as.map (xv b B)) := by
  obtain ⟨hx, hb, -, -, hK, hbB, -⟩ := M
  refine ⟨xPc_blind as, fun U hU hW => ⟨rfl, by rw [hU]; exact hP, hK.moved hW.alike, hbB, ?_⟩⟩
  rw [hU]
  exact xE.go N.2.1 hbB hW hS.2.1
end XQ
