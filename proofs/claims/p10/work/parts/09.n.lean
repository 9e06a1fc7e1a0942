/-! Arrays.copyOf's clone -/
def xTab5 : Prop := xowns[13]? = some "java/util/Arrays" ∧ Cond.methodLink "java/util/Arrays" 316 ⟨"[I", "clone", "()Ljava/lang/Object;"⟩ ∈ xwl ∧ Cond.sameMethod "[I" "java/lang/Object" "clone" "()Ljava/lang/Object;" ∈ xwl ∧ Cond.native ⟨"java/lang/Object", "clone", "()Ljava/lang/Object;"⟩ ∈ xwl ∧ Cond.instanceMethod ⟨"java/lang/Object", "clone", "()Ljava/lang/Object;"⟩ ∈ xwl ∧ Cond.selects "[I" ⟨"[I", "clone", "()Ljava/lang/Object;"⟩ ⟨"java/lang/Object", "clone", "()Ljava/lang/Object;"⟩ ∈ xwl ∧ Cond.castable "[I" "java/lang/Cloneable" ∈ lw_tbl ∧ Cond.classLink "java/util/Arrays" 317 "[I" ∈ xwl
section XA
variable {p : Program} {l : Launch} {e : Env} {R : Room} {s : State} {m : MethodId} {args : Array Value} {below : List Frame} {meth : Method} {c : Code} {H : Heap} {locs : List Loc} {cells slots : Nat} {Q : State → Prop}
variable {D : va_G} {dA : Nat → ClassId} {b : xS} {B oc nL : Nat} {ini : Bool} {cc : ByteArray} {pc : Nat} {ls : Array Slot} {lv : xL} {st : List Value} {hp : List xC} {ks : Nat}
theorem xnm_int {s : State} {cA : ClassId} (h : s.vm.findClass ("[" ++ FieldType.int.toString) = some cA) : s.vm.findClass "[I" = some cA := by
  have e : "[" ++ FieldType.int.toString = "[I" := by decide +kernel
  rw [← e]
  exact h
theorem xasg (vm : Vm) (c : ClassId) : vm.assignable c c = true := by
  show vm.assignableAux (255 + 1) c c = true
  rw [Vm.assignableAux]
  simp only [beq_self_eq_true, Bool.true_or]
theorem xsA_sound (hT5 : xTab5) (M : xM p s m args meth c D dA b B oc nL ini cc) {i : Instr} {len n1 : Nat} {st' : List Value} {rows : List xC} (h : xsA oc i len st hp = some (st', rows, n1)) (hd : decode cc pc = .ok (i, len)) (hP : xP b B D dA hp H) (hS : va_S (fun q => B ≤ q) s.heap H locs) (hl : ls.size = nL) (hf : 1 ≤ R.frames) (hlo : 64 ≤ R.locals) (hcl : cells + rows.length ≤ R.cells) (hsl : slots + n1 ≤ R.slots)
    (kk : ∀ (H1 : Heap), xP b B D dA (hp ++ rows) H1 → va_S (fun q => B ≤ q) s.heap H1 locs → W p l e R s m args below meth c H1 locs (cells + rows.length) (slots + n1) Q (F0 m (pc + 3) ls (st'.map (xv b B)))) : W p l e R s m args below meth c H locs cells slots Q (F0 m pc ls (st.map (xv b B))) := by
  obtain ⟨hx, hb, ⟨own, ho1, ho2⟩, hts, hK, hbB, hBs, hnL, hini, hlk, hBw, -⟩ := M
  obtain ⟨u0, u1, u2, u3, u4, u5, u6, u7⟩ := hT5
  have hnm : s.vm.findClass "[I" = some (dA 0) := xnm_int (hK.2 0 _ rfl).2
  unfold xsA at h
  split at h <;> (try (cases h; done)) <;> split at h <;> (try (cases h; done)) <;> rename_i hn
  · obtain ⟨rfl, rfl, rfl, h3⟩ := hn
    split at h <;> (try (cases h; done))
    rename_i a st0 x0 n f hc0
    cases h
    cases Option.some.inj (ho1.symm.trans u0)
    have e0 : H[xa b B (a + 1)]? = some (vp_cell (dA 0) (n1, .inl f)) := hP.2.2.1 _ _ hc0
    obtain ⟨c0, t0', f1, f2, f3⟩ := Cond.castable_spec (va_Nw.use (A := args) rfl (hBw _ u6 rfl))
    cases hnm.symm.trans f1
    have hsz : (vp_cell (dA 0) (n1, .inl f)).slots.size = n1 := arrV_size _ _ _
    have hnew : xv b B (.ref hp.length) = .ref H.size := by
      show Value.ref (xa b B hp.length) = _
      rw [hP.new]
    intro T hT X
    have hcellT : T.heap[xa b B (a + 1)]? = some (vp_cell (dA 0) (n1, .inl f)) := by rw [hT]; exact e0
    obtain ⟨-, kA, hkA, comp, hkind⟩ := State.isArrayOf_alike X.warmed.alike ((hK.2 0 _ rfl).1 0 (fun _ => .null))
    obtain ⟨-, kS, hkS, compS, hkindS⟩ := (hK.2 0 _ rfl).1 0 (fun _ => .null)
    obtain ⟨vm', X', step⟩ := X.cloneArray hx ho2 (hts _ u1) (hts _ u2) (hts _ u3) (hts _ u4) (hts _ u5) (a := xa b B (a + 1)) (cell := vp_cell (dA 0) (n1, .inl f)) hcellT (fun k h => by cases h) (fun h => by cases h) hnm f2 f3
      (fun i v hv => by
        have hk' : T.vm.classes[dA 0]? = some kA := hkA
        have hfit : fits .int v = true := by
          by_cases hi : i < n1
          · have hv' : (arrV (dA 0) n1 (fun j => .int (f j))).slots[i]? = some v := hv
            rw [arrV_read _ _ hi] at hv'
            cases hv'
            rfl
          · have hv' : (arrV (dA 0) n1 (fun j => .int (f j))).slots[i]? = some v := hv
            rw [Array.getElem?_eq_none (by rw [arrV_size]; omega)] at hv'
            cases hv'
        have hcl0 : (vp_cell (dA 0) (n1, .inl f)).cls = dA 0 := rfl
        rw [hcl0]
        simpa [State.fitsSlot, State.slotType?, hk', hkind] using hfit)
      (g := F0 m pc ls (.ref (xa b B (a + 1)) :: st0.map (xv b B))) rfl (hl.trans hnL.symm) rfl (by rw [hb]; exact hd) hf (by
        show 2 * 0 + _ + 14 ≤ _
        rw [xcat_map]
        omega) hcl (by rw [hsz]; exact hsl) (hloader := Vm.clonesLoader_of_array hkS hkindS)
    have hcellE : ({ cls := (vp_cell (dA 0) (n1, .inl f)).cls, slots := (vp_cell (dA 0) (n1, .inl f)).slots } : Cell) = vp_cell (dA 0) (n1, .inl f) := rfl
    rw [hcellE, hsz] at X'
    rw [hcellE] at step
    have hheap : ((T.setVm vm').pushCell (vp_cell (dA 0) (n1, .inl f))).heap = H.push (vp_cell (dA 0) (n1, .inl f)) := by rw [← hT]; rfl
    have z1 : (H.push (vp_cell (dA 0) (n1, .inl f))).size = H.size + 1 := by rw [Array.size_push]
    have e1 : (H.push (vp_cell (dA 0) (n1, .inl f)))[H.size]? = some (vp_cell (dA 0) (n1, .inl f)) := by rw [Array.getElem?_push_size]
    have o1 : ∀ q : Nat, q < H.size → (H.push (vp_cell (dA 0) (n1, .inl f)))[q]? = H[q]? := fun q hq => by rw [Array.getElem?_push, if_neg (Nat.ne_of_lt hq)]
    have hw := kk (H.push (vp_cell (dA 0) (n1, .inl f))) (hP.push hbB (c1 := .inl (0, n1, .inl f)) e1 z1 o1) ⟨Nat.le_trans hS.1 (by omega), fun x h1 h2 => (o1 x (Nat.lt_of_lt_of_le h1 hS.1)).trans (hS.2.1 x h1 h2), hS.2.2⟩
    rw [List.map_cons, hnew] at hw
    obtain ⟨t, a1, b1⟩ := hw _ hheap X'
    refine ⟨t, step t ?_, b1⟩
    rw [hT]
    exact a1
  · obtain ⟨rfl, rfl, rfl⟩ := hn
    split at h <;> (try (cases h; done))
    rename_i a st0 x0 n f hc0
    cases h
    cases Option.some.inj (ho1.symm.trans u0)
    have e0 : H[xa b B (a + 1)]? = some (vp_cell (dA 0) (n, .inl f)) := hP.2.2.1 _ _ hc0
    intro T hT X
    obtain ⟨vm', X', step⟩ := X.checkcastYes hx ho2 (hts _ u7) (by rw [hT]; exact e0) rfl hnm (xasg _ _) (g := F0 m pc ls (.ref (xa b B (a + 1)) :: st0.map (xv b B))) rfl rfl (by rw [hb]; exact hd)
    have hw := kk H (by rw [List.append_nil]; exact hP) hS
    obtain ⟨t, a1, b1⟩ := hw (T.setVm vm') hT X'
    exact ⟨t, step t a1, b1⟩
end XA
