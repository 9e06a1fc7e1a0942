/-! the words that calls ask for -/
def xTab2 : Prop :=
  (∀ w ∈ xwl, (w.onTables && w.keeps) = true ∨ ∃ ty, w = .arrayClass ty) ∧
  (∀ (k : Nat) (q : xMt), xmts[k]? = some q → xowns[q.1]? = some q.2.1.cls ∧ q.2.2.2.1 ≤ 40 ∧ ∀ (pc : Nat) (i : Instr) (len : Nat), xat k pc = some (i, len) → decode q.2.2.1 pc = .ok (i, len)) ∧
  (∀ (ci : Nat) (r : vw_C), ci < 12 → xcl[ci]? = some r → xowns[ci]? = some r.1) ∧
  (∀ (oc ix kd k : Nat) (q : xMt), xlk xivs oc ix = some (kd, k) → kd < 6 → ¬ (k = 170 ∨ k = 171) → xmts[k]? = some q → ∃ own : String, xowns[oc]? = some own ∧ Cond.code q.2.1 q.2.2.1 q.2.2.2.1 q.2.2.2.2.1 ∈ xwl ∧ Cond.initialized q.2.1.cls ∈ xwl ∧ plainName q.2.1.cls = true ∧ (q.2.1.cls ≠ "java/lang/invoke/MethodHandle" ∧ q.2.1.cls ≠ "java/lang/invoke/VarHandle") ∧
    (kd < 3 → Cond.methodLink own ix q.2.1 ∈ xwl) ∧ (¬ kd < 3 → ∃ host : String, Cond.methodLinkNest own ix q.2.1 host ∈ lw_tbl) ∧
    (kd = 0 ∨ kd = 3 → Cond.instanceMethod q.2.1 ∈ xwl ∧ Cond.selects q.2.1.cls q.2.1 q.2.1 ∈ xwl ∧ (parseMethodDescriptor q.2.1.desc).map (fun d => d.parameters.length) = some (q.2.2.2.2.2 - 1)) ∧
    (kd = 1 ∨ kd = 4 → Cond.static q.2.1 ∈ xwl ∧ (parseMethodDescriptor q.2.1.desc).map (fun d => d.parameters.length) = some q.2.2.2.2.2) ∧
    (kd = 2 ∨ kd = 5 → Cond.instanceMethod q.2.1 ∈ xwl ∧ q.2.1.name = "<init>" ∧ q.2.2.2.2.1 = none ∧ (parseMethodDescriptor q.2.1.desc).map (fun d => d.parameters.length) = some (q.2.2.2.2.2 - 1))) ∧
  (∀ (oc ix : Nat), xlk xivs oc ix = some (6, 0) → ∃ own : String, xowns[oc]? = some own ∧ Cond.methodLink own ix objectInit ∈ xwl ∧ Cond.instanceMethod objectInit ∈ xwl ∧ Cond.code objectInit ⟨#[0xb1]⟩ 1 none ∈ xwl) ∧
  (∀ (oc ix : Nat), xlk xivs oc ix = some (7, 0) → ∃ own : String, xowns[oc]? = some own ∧ Cond.methodLink own ix arraycopyName ∈ xwl ∧ Cond.native arraycopyName ∈ xwl ∧ Cond.static arraycopyName ∈ xwl ∧ Cond.initialized "java/lang/System" ∈ xwl) ∧
  (∀ (oc ix : Nat), xlk xivs oc ix = some (1, 170) → ∃ own : String, xowns[oc]? = some own ∧ Cond.methodLink own ix Lib.Math.max.name ∈ xwl ∧ Cond.static Lib.Math.max.name ∈ xwl ∧ Cond.initialized "java/lang/Math" ∈ xwl ∧ Cond.code Lib.Math.max.name Lib.Math.max.code 2 (some .int) ∈ xwl) ∧
  (∀ (oc ix : Nat), xlk xivs oc ix = some (1, 171) → ∃ own : String, xowns[oc]? = some own ∧ Cond.methodLink own ix Lib.Math.min.name ∈ xwl ∧ Cond.static Lib.Math.min.name ∈ xwl ∧ Cond.initialized "java/lang/Math" ∈ xwl ∧ Cond.code Lib.Math.min.name Lib.Math.min.code 2 (some .int) ∈ xwl)
section XV
variable {p : Program} {l : Launch} {e : Env} {R : Room} {s : State} {m : MethodId} {args : Array Value} {below : List Frame} {meth : Method} {c : Code} {H : Heap} {locs : List Loc} {cells slots : Nat} {Q : State → Prop}
variable {D : va_G} {dA : Nat → ClassId} {b : xS} {B oc nL : Nat} {ini : Bool} {cc : ByteArray} {pc : Nat} {ls : Array Slot} {lv : xL} {st : List Value} {hp : List xC} {ks : Nat}
theorem xcat_map (st : List Value) : ((st.map (xv b B)).map fun v => v.category).sum = xcat st := by
  have e : (fun v : Value => v.category) ∘ xv b B = fun v => v.category := by
    funext v
    exact xv_cat b B v
  rw [List.map_map, e]
  rfl
theorem xs9_sound (hT2 : xTab2) (M : xM p s m args meth c D dA b B oc nL ini cc) {i : Instr} {len : Nat} {st' : List Value} {hp' : List xC} (h : xs9 oc i len st hp = some (st', hp')) (hd : decode cc pc = .ok (i, len)) (hP : xP b B D dA hp H) (hS : va_S (fun q => B ≤ q) s.heap H locs) (hl : ls.size = nL) (hf : 1 ≤ R.frames) (hlo : 64 ≤ R.locals) (hcl : cells ≤ R.cells) (hsl : slots ≤ R.slots)
    (kk : ∀ (H1 : Heap) (locs1 : List Loc), xP b B D dA hp' H1 → va_S (fun q => B ≤ q) s.heap H1 locs1 → W p l e R s m args below meth c H1 locs1 cells slots Q (F0 m (pc + 3) ls (st'.map (xv b B)))) : W p l e R s m args below meth c H locs cells slots Q (F0 m pc ls (st.map (xv b B))) := by
  obtain ⟨hx, hb, ⟨own, ho1, ho2⟩, hts, hK, hbB, hBs, hnL, hini, -⟩ := M
  unfold xs9 at h
  split at h <;> (try (cases h; done)) <;> split at h <;> (try (cases h; done)) <;> rename_i hn
  · obtain ⟨rfl, h1, h2⟩ := hn
    cases h
    obtain ⟨own', g1, g2, g3, g4⟩ := hT2.2.2.2.2.1 _ _ h1
    cases Option.some.inj (ho1.symm.trans g1)
    refine W.objInit hx hb ho2 (hts _ g2) (hts _ g3) (hts _ g4) rfl (hl.trans hnL.symm) rfl hd hf ?_ (kk H locs hP hS)
    show 2 * 0 + _ + 12 ≤ _
    rw [xcat_map]
    omega
  · obtain ⟨rfl, h1, h2, h3⟩ := hn
    split at h <;> (try (cases h; done))
    rename_i n dp a sp a0 st0 o1 o2 n0 f n1 g hc0 hc1
    split at h <;> (try (cases h; done))
    rename_i hr
    obtain ⟨r1, r2, r3, r4, r5⟩ := hr
    cases h
    obtain ⟨own', g1, g2, g3, g4, g5⟩ := hT2.2.2.2.2.2.1 _ _ h1
    cases Option.some.inj (ho1.symm.trans g1)
    have hA : B ≤ xa b B (a + 1) := Nat.le_add_right _ _
    have e0 : H[xa b B (a0 + 1)]? = some (vp_cell (dA 0) (n0, .inl f)) := hP.2.2.1 _ _ hc0
    have e1 : H[xa b B (a + 1)]? = some (vp_cell (dA 0) (n1, .inl g)) := hP.2.2.1 _ _ hc1
    have nn : ∀ z : Int32, ¬ z < 0 → z.toInt = (z.toNatClampNeg : Int) := by
      intro z hz
      have hz0 : (0 : Int) ≤ z.toInt := by
        have := Int32.not_lt.mp hz
        simpa using Int32.le_iff_toInt_le.mp this
      show z.toInt = ((z.toInt.toNat : Nat) : Int)
      omega
    intro T hT X
    obtain ⟨-, k0, hk0, cm0, hkk0⟩ := (hK.2 0 _ rfl).1 n0 (fun j => .int (f j))
    obtain ⟨-, k1, hk1, cm1, hkk1⟩ := (hK.2 0 _ rfl).1 n1 (fun j => .int (g j))
    obtain ⟨vm', X', step⟩ := X.arraycopy hx ho2 (hts _ g2) (hts _ g3) (hts _ g4) (hts _ g5) (src := xa b B (a0 + 1)) (dst := xa b B (a + 1)) (cs := vp_cell (dA 0) (n0, .inl f)) (cd := vp_cell (dA 0) (n1, .inl g)) (srcPos := sp) (destPos := dp) (n := n) (by rw [hT]; exact e0) (by rw [hT]; exact e1)
      (fun _ h => by cases h) (fun _ h => by cases h) (fun h => by cases h) (fun h => by cases h) hk0 hk1 hkk0 hkk1 rfl r1 r2 r3
      (by rw [nn sp r1, nn n r3]; show ¬ _ > ((arrV (dA 0) n0 (fun j => .int (f j))).slots.size : Int); rw [arrV_size]; omega)
      (by rw [nn dp r2, nn n r3]; show ¬ _ > ((arrV (dA 0) n1 (fun j => .int (g j))).slots.size : Int); rw [arrV_size]; omega)
      (fun vm₁ _ i hi => by
        have e : (vp_cell (dA 0) (n0, .inl f)).slots.getD (sp.toNatClampNeg + i) .null = .int (f (sp.toNatClampNeg + i)) := by
          show (arrV (dA 0) n0 (fun j => .int (f j))).slots.getD _ _ = _
          rw [Array.getD_eq_getD_getElem?, arrV_read _ _ (by omega)]
          rfl
        refine ⟨?_, ?_⟩
        · rw [e]
          rfl
        · rw [e]
          exact trivial)
      (g := F0 m pc ls (.int n :: .int dp :: .ref (xa b B (a + 1)) :: .int sp :: .ref (xa b B (a0 + 1)) :: st'.map (xv b B))) rfl (hl.trans hnL.symm) (rest := st'.map (xv b B)) rfl (by rw [hb]; exact hd) hf (by
        show 2 * 0 + _ + _ ≤ _
        rw [xcat_map]
        have hw : nativeFrameWords "java/lang/System" "arraycopy" 5 = 7 := by decide
        omega)
    have e2 : copied (vp_cell (dA 0) (n0, .inl f)) (vp_cell (dA 0) (n1, .inl g)) sp dp n = vp_cell (dA 0) (n1, .inl (va_cpy f g sp.toNatClampNeg dp.toNatClampNeg n.toNatClampNeg)) := va_copied (fun z => .int z) (dA 0) (dA 0) f g r4
    rw [e2] at X' step
    have hlt : xa b B (a + 1) < H.size := (Array.getElem?_eq_some_iff.mp e1).1
    have hheap : ((T.setVm vm').setCell (xa b B (a + 1)) (vp_cell (dA 0) (n1, .inl (va_cpy f g sp.toNatClampNeg dp.toNatClampNeg n.toNatClampNeg)))).heap = H.setIfInBounds (xa b B (a + 1)) (vp_cell (dA 0) (n1, .inl (va_cpy f g sp.toNatClampNeg dp.toNatClampNeg n.toNatClampNeg))) := by rw [← hT]; rfl
    have oq : ∀ q : Nat, q ≠ xa b B (a + 1) → (H.setIfInBounds (xa b B (a + 1)) (vp_cell (dA 0) (n1, .inl (va_cpy f g sp.toNatClampNeg dp.toNatClampNeg n.toNatClampNeg))))[q]? = H[q]? := fun q hq => by simp [Array.getElem?_setIfInBounds, Ne.symm hq]
    obtain ⟨t, a1, b1⟩ := kk _ _ (hP.set hbB hc1 (c1 := .inl (0, n1, .inl (va_cpy f g sp.toNatClampNeg dp.toNatClampNeg n.toNatClampNeg))) (show (H.setIfInBounds (xa b B (a + 1)) _)[xa b B (a + 1)]? = some _ by simp [Array.getElem?_setIfInBounds, hlt]; rfl) (by simp) oq) ⟨by simp; exact hS.1, fun q g1 g2 => by
        rw [oq q (fun e => g2 (by rw [e]; exact hA))]
        exact hS.2.1 q g1 g2, fun q hq => by
        rcases List.mem_append.mp hq with h | h
        · exact hS.2.2 q h
        · obtain ⟨z, -, hz⟩ := List.mem_map.mp h
          rw [← hz]
          exact hA⟩ _ hheap X'
    exact ⟨t, step t a1, b1⟩
  · obtain ⟨rfl, h1, h2⟩ := hn
    cases h
    obtain ⟨own', g1, g2, g3, g4, g5⟩ := hT2.2.2.2.2.2.2.1 _ _ h1
    cases Option.some.inj (ho1.symm.trans g1)
    exact va_mmax hx hb (hnL.trans hl.symm) ho2 (hts _ g2) (hts _ g3) (hts _ g4) (hts _ g5) hf (by rw [xcat_map]; omega) hcl hsl hd (kk H locs hP hS)
  · split at h <;> (try (cases h; done))
    rename_i hn2
    obtain ⟨rfl, h1, h2⟩ := hn2
    cases h
    obtain ⟨own', g1, g2, g3, g4, g5⟩ := hT2.2.2.2.2.2.2.2 _ _ h1
    cases Option.some.inj (ho1.symm.trans g1)
    exact va_mmin hx hb (hnL.trans hl.symm) ho2 (hts _ g2) (hts _ g3) (hts _ g4) (hts _ g5) hf (by rw [xcat_map]; omega) hcl hsl hd (kk H locs hP hS)
end XV
