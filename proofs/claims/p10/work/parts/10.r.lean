section XR
/-- what a throw asks of the start: two statics of Throwable, the texts -/
def xE (b : xS) (B : Nat) (U : State) (H : Heap) : Prop := vx_Zq Bundle.tN "UNASSIGNED_STACK" Bundle.steD (fun q => B ≤ q) U H ∧ vx_Zq Bundle.tN "SUPPRESSED_SENTINEL" Bundle.listD (fun q => B ≤ q) U H ∧ (∀ (own : String) (k : Nat) (tx : String), Cond.stringRef own k tx ∈ lw_tbl → ∃ sa : Nat, vk_R own k tx sa U) ∧ xB U ∧ (∀ a ∈ xEX, ∀ b ∈ xEX, a ≠ b → va_Nc a b U) ∧ va_X b.1 b.2.1 b.2.2 U H
theorem xE.go {b : xS} {B : Nat} {s U : State} {H H1 : Heap} (h : xE b B s H) (hb : b.1 < B) (hW : s.WarmedH U.vm) (hk : ∀ a : Nat, a < H.size → ¬ B ≤ a → H1[a]? = H[a]?) : xE b B U H1 := by
  obtain ⟨h1, h2, h3, h4, h5, scr, z1, z2, z3⟩ := h
  refine ⟨(vx_Zq.moved hW.alike h1).kept hk, (vx_Zq.moved hW.alike h2).kept hk, fun own k tx hm => ?_, h4.warm hW, fun a ha b hb hn => (h5 a ha b hb hn).moved hW.alike, scr, ?_, State.isArrayOf_alike hW.alike z2, z3⟩
  · obtain ⟨sa, hsa⟩ := h3 own k tx hm
    exact ⟨sa, vk_R.warm hW hsa⟩
  · rw [hk b.1 (Array.getElem?_eq_some_iff.mp z1).1 (Nat.not_le.mpr hb)]
    exact z1
def xN (l : Launch) (b : xS) (B : Nat) (s : State) (c : Code) (k : Nat) : Prop := l.stackTraces = false ∧ xE b B s s.heap ∧ c.exceptionTable.toList = tableOf (xtb k)
def xQc (b : xS) (B : Nat) (D : va_G) (dA : Nat → ClassId) (o : xO) (hp' : List xC) : Array Value → State → Outcome → State → Prop := fun _ st oc t => ∃ v : Option Value, o = .inl v ∧ oc = .returned (v.map (xv b B)) ∧ xP b B D dA hp' t.heap ∧ va_F (fun q => B ≤ q) st t
def xXC (b : xS) (B : Nat) (D : va_G) (dA : Nat → ClassId) (o : xO) (hp' : List xC) : String → State → State → Prop := fun E st t => ∃ (ci : Nat) (r : vw_C), o = .inr ci ∧ xcl[ci]? = some r ∧ r.1 = E ∧ xP b B D dA hp' t.heap ∧ va_F (fun q => B ≤ q) st t
def xPc (b : xS) (B : Nat) (D : va_G) (dA : Nat → ClassId) (hp : List xC) (as : List Value) : Array Value → State → Prop := va_Pc (as.map (xv b B)) (fun U => xP b B D dA hp U.heap ∧ va_K D xcl (xtl dA) U ∧ b.1 < B ∧ xE b B U U.heap)
def xRoom (d : Nat) (R : Room) : Prop := 8 * d + 8 ≤ R.frames ∧ 96 * d + 128 ≤ R.locals
/-- what is to be shown of a run of n instructions at most -/
def xOK (n : Nat) : Prop := ∀ (d k : Nat) (g : xG) (o : xO) (hp' : List xC) (ks' : Nat), xrun n d k g = some (o, hp', ks') → ∀ q : xMt, xmts[k]? = some q →
  ∀ (p : Program) (l : Launch) (e : Env) (R : Room) (s : State) (m : MethodId) (args : Array Value) (below : List Frame) (meth : Method) (c : Code) (H : Heap) (locs : List Loc) (ls : Array Slot) (D : va_G) (dA : Nat → ClassId) (b : xS) (B len0 ks0 : Nat),
    xM p s m args meth c D dA b B q.1 q.2.2.2.1 (decide (q.2.1.name = "<init>")) q.2.2.1 → meth.sig.returnType = q.2.2.2.2.1 → xN l b B s c k → lv_has ls q.2.2.2.1 (g.2.1.map (xm b B)) → xP b B D dA g.2.2.2.1 H → va_S (fun q => B ≤ q) s.heap H locs →
    len0 ≤ g.2.2.2.1.length → ks0 ≤ g.2.2.2.2 → xRoom d R → hp'.length - len0 ≤ R.cells → ks' - ks0 ≤ R.slots →
    W p l e R s m args below meth c H locs (g.2.2.2.1.length - len0) (g.2.2.2.2 - ks0) (vx_MQ below (xQc b B D dA o hp') (xXC b B D dA o hp') args s (hp'.length - len0) (ks' - ks0) (fun q => B ≤ q)) (F0 m g.1 ls (g.2.2.1.map (xv b B)))
/-- what is to be shown of a throw -/
def xThrOk : Prop := ∀ (d k pc ci : Nat) (q : xMt), xmts[k]? = some q → xthr k pc = some ci →
  ∀ (p : Program) (l : Launch) (e : Env) (R : Room) (s : State) (m : MethodId) (args : Array Value) (below : List Frame) (meth : Method) (c : Code) (H : Heap) (locs : List Loc) (ls : Array Slot) (D : va_G) (dA : Nat → ClassId) (b : xS) (B cells slots mc ms : Nat) (hp : List xC) (rest : List Value),
    xM p s m args meth c D dA b B q.1 q.2.2.2.1 (decide (q.2.1.name = "<init>")) q.2.2.1 → xN l b B s c k → ls.size = q.2.2.2.1 → xP b B D dA hp H → va_S (fun q => B ≤ q) s.heap H locs → xRoom d R → (rest.map fun v => v.category).sum ≤ 8 → cells + 1 ≤ mc → slots + 6 ≤ ms → mc ≤ R.cells → ms ≤ R.slots →
    W p l e R s m args below meth c H locs cells slots (vx_MQ below (xQc b B D dA (.inr ci) (hp ++ [.inr (ci, [])])) (xXC b B D dA (.inr ci) (hp ++ [.inr (ci, [])])) args s mc ms (fun q => B ≤ q)) (F0 m pc ls rest)
/-- what is to be shown where a call's throw is caught -/
def xHndOk : Prop := ∀ (d k pc ci : Nat) (x : Int32) (q : xMt) (r : vw_C), xmts[k]? = some q → xhnd k pc ci = some x → xcl[ci]? = some r →
  ∀ (p : Program) (l : Launch) (e : Env) (R : Room) (s : State) (m : MethodId) (args : Array Value) (below : List Frame) (meth : Method) (c : Code) (H : Heap) (locs : List Loc) (ls : Array Slot) (D : va_G) (dA : Nat → ClassId) (b : xS) (B mc ms : Nat) (hp : List xC) (rest : List Value) (a : Nat) (ce : Cell) (lv : xL),
    xM p s m args meth c D dA b B q.1 q.2.2.2.1 (decide (q.2.1.name = "<init>")) q.2.2.1 → meth.sig.returnType = q.2.2.2.2.1 → xN l b B s c k → lv_has ls q.2.2.2.1 (lv.map (xm b B)) → xP b B D dA hp H → va_S (fun q => B ≤ q) s.heap H locs → xRoom d R → H[a]? = some ce → ce.vm = .none → s.vm.findClass r.1 = some ce.cls →
    vx_W p l e R s m args below meth c H locs mc ms (vx_MQ below (xQc b B D dA (.inl (some (.int x))) hp) (xXC b B D dA (.inl (some (.int x))) hp) args s mc ms (fun q => B ≤ q)) (F0 m pc ls rest) a
theorem lv_args_map (b : xS) (B : Nat) : ∀ (vs : List Value) (i : Nat), (lv_args i vs).map (xm b B) = lv_args i (vs.map (xv b B))
  | [], _ => rfl
  | v :: vs, i => by
    simp only [lv_args, List.map_cons, xv_cat, lv_args_map b B vs]
    rfl
theorem lg_len (vs : List Value) : (lg_sl vs).length = (vs.map fun v => v.category).sum := by
  induction vs with
  | nil => rfl
  | cons v vs ih =>
    have h : lg_sl (v :: vs) = (if v.category = 2 then [.val v, .second] else [.val v]) ++ lg_sl vs := rfl
    rw [h, List.length_append, ih, List.map_cons, List.sum_cons]
    cases v <;> simp [Value.category]
variable {p : Program} {l : Launch} {e : Env} {R : Room} {s : State} {m : MethodId} {args : Array Value} {below : List Frame} {meth : Method} {c : Code} {H : Heap} {locs : List Loc} {cells slots : Nat} {Q : State → Prop}
variable {D : va_G} {dA : Nat → ClassId} {b : xS} {B oc nL : Nat} {ini : Bool} {cc : ByteArray} {pc : Nat} {ls : Array Slot} {lv : xL} {st : List Value} {hp : List xC} {ks : Nat}
theorem xPc_blind (as : List Value) : FrameBlind (xPc b B D dA hp as) := by
  intro a U g mk q
  obtain ⟨q0, q1, q2, q3, q4⟩ := q
  exact ⟨q0, q1, va_K.moved (u := U) (U := U.calling g mk a) (Vm.Alike.refl U.vm) q2, q3, xE.go (U := U.calling g mk a) q4 q3 (State.WarmedH.refl U) (fun _ _ _ => rfl)⟩
/-- the words of a callee: its own code, and the tables' -/
def xws (q : xMt) : List Cond := Cond.code q.2.1 q.2.2.1 q.2.2.2.1 q.2.2.2.2.1 :: xwl
theorem xws_good (hT2 : xTab2) {q : xMt} (h : Cond.code q.2.1 q.2.2.1 q.2.2.2.1 q.2.2.2.2.1 ∈ xwl) : GoodIn xwl (xws q) := by
  intro w hw
  rcases List.mem_cons.mp hw with rfl | hw
  · exact ⟨h, hT2.1 _ h⟩
  · exact ⟨hw, hT2.1 _ hw⟩
/-- a method without handlers, as a contract of one run -/
theorem xMet (hT2 : xTab2) {n d k : Nat} (ih : xOK n) {o : xO} {as : List Value} {hp' : List xC} {ks' : Nat} {q : xMt} (h : xrun n d k (0, lv_args 0 as, [], hp, ks) = some (o, hp', ks')) (hq : xmts[k]? = some q) (hpn : plainName q.2.1.cls = true) (hk : xtb k = []) (hst : l.stackTraces = false) (hcat : xcat as ≤ q.2.2.2.1) :
    vx_Met l q.2.1 (xws q) { frames := 8 * d + 8, cells := hp'.length - hp.length, slots := ks' - ks, locals := 96 * d + 128 } (xPc b B D dA hp as) (xQc b B D dA o hp') (xXC b B D dA o hp') (hp'.length - hp.length) (ks' - ks) (fun q => B ≤ q) := by
  refine vx_ofW (cc := q.2.2.1) (maxL := q.2.2.2.1) (ret := q.2.2.2.2.1) hpn rfl ?_
  intro p e s m args below meth c s₁ B0 hml htab hv
  obtain ⟨rfl, hP, hK, hbB, hE⟩ := hv
  have hts : ∀ w ∈ xwl, w.before (as.map (xv b B)).toArray s = true := fun w hw => atoms_spec (ws := xws q) B0.pre w (List.mem_cons_of_mem _ hw)
  have hown : s.vm.findClass q.2.1.cls = some m.cls := findClass_of_methodNamed B0.named
  have hnm : meth.name = q.2.1.name := (name_of_methodNamed B0.named B0.method).1
  have hl := lv_entry (as.map (xv b B)) (n := q.2.2.2.1) (by rw [lg_len, xcat_map]; exact hcat)
  rw [lg_entry_eq]
  generalize (lg_sl (as.map (xv b B)) ++ List.replicate (q.2.2.2.1 - (lg_sl (as.map (xv b B))).length) Slot.unset).toArray = ls at hl ⊢
  have hsz : B ≤ s.heap.size := by have := hP.1; have := hP.2.1; omega
  have M : xM p s m (as.map (xv b B)).toArray meth c D dA b B q.1 q.2.2.2.1 (decide (q.2.1.name = "<init>")) q.2.2.1 :=
    ⟨B0.exec, B0.bytes, ⟨_, (hT2.2.1 _ _ hq).1, hown⟩, hts, hK, hbB, hsz, hml, fun z => hnm.trans (of_decide_eq_true z), B0.notSynchronized, hE.2.2.2.1, hE.2.2.2.2.2⟩
  have hw := ih d k (0, lv_args 0 as, [], hp, ks) o hp' ks' h q hq p l e ({ frames := 8 * d + 8, cells := hp'.length - hp.length, slots := ks' - ks, locals := 96 * d + 128 }) s m (as.map (xv b B)).toArray below meth c s.heap [] ls D dA b B hp.length ks
    M B0.returns ⟨hst, hE, by rw [hk]; exact List.eq_nil_iff_forall_not_mem.mpr fun x hx => htab x hx⟩ (by rw [lv_args_map]; exact hl) hP va_S.rf (Nat.le_refl _) (Nat.le_refl _) ⟨Nat.le_refl _, Nat.le_refl _⟩ (Nat.le_refl _) (Nat.le_refl _)
  simp only [Nat.sub_self] at hw
  exact hw
end XR
