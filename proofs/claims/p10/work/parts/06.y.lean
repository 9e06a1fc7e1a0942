/-! What the tables' words are asked for; proved of the tables in a part of its own. -/
def xTab : Prop :=
  (∀ (oc ix ci k : Nat), xlk xfls oc ix = some (ci, k) → ∃ (own : String) (r : vw_C), xowns[oc]? = some own ∧ xcl[ci]? = some r ∧ k < r.2.2 ∧ Cond.fieldLink own ix (r.2.1 k).1 (r.2.1 k).2.1 (r.2.1 k).2.2.1 ∈ xwl) ∧
  (∀ (ci : Nat) (r : vw_C), xcl[ci]? = some r → ∀ w ∈ u_ws r.1 r.2.1 r.2.2, w ∈ xwl) ∧
  (∀ (ci : Nat) (r : vw_C) (ty : Nat → FieldType), xcl[ci]? = some r → xtys[ci]? = some ty → (∀ k, k < r.2.2 → parseFieldDescriptor (r.2.1 k).2.2.1 = some (ty k)) ∧ ∀ a, a < r.2.2 → ∀ b, b < r.2.2 → a ≠ b → (r.2.1 a).2.1 ≠ (r.2.1 b).2.1) ∧
  (∀ (oc ix ci : Nat), xlk xnws oc ix = some ci → ∃ (own : String) (r : vw_C), xowns[oc]? = some own ∧ xcl[ci]? = some r ∧ Cond.classLink own ix r.1 ∈ xwl ∧ Cond.instantiable r.1 r.2.2 ∈ xwl ∧ Cond.initialized r.1 ∈ xwl) ∧
  (∀ (oc ix t : Nat), xlk xans oc ix = some (t + 3) → ∃ own : String, xowns[oc]? = some own ∧ Cond.classLink own ix (xovs.getD t "") ∈ xwl ∧ Cond.arrayOver (.object (xovs.getD t "")) ∈ lw_tbl) ∧
  (∀ (oc ix : Nat) (v : Int32), xlk xcns oc ix = some v → ∃ own : String, xowns[oc]? = some own ∧ Cond.constant own ix v ∈ xwl) ∧
  (Cond.arrayClass .int ∈ xwl ∧ Cond.arrayClass .boolean ∈ xwl ∧ Cond.arrayClass .long ∈ xwl) ∧
  (∀ (t ci : Nat), xovc[t]? = some ci → t < xovs.length ∧ ∃ r : vw_C, xcl[ci]? = some r ∧ r.1 = xovs.getD t "")
/-- the script: its cell, its length, its ints -/
abbrev xS : Type := Nat × Nat × (Nat → Int32)
def xa (b : xS) (B : Nat) : Nat → Nat
  | 0 => b.1
  | k + 1 => B + k
def xv (b : xS) (B : Nat) : Value → Value
  | .ref k => .ref (xa b B k)
  | v => v
def xm (b : xS) (B : Nat) (q : Nat × Value) : Nat × Value := (q.1, xv b B q.2)
def xr (b : xS) (B : Nat) (a : vp_A) : vp_A := match a with
  | (n, .inr (.inr (.inr (.inr f)))) => (n, .inr (.inr (.inr (.inr fun j => (f j).map (xa b B)))))
  | a => a
def xt (b : xS) (B : Nat) (dA : Nat → ClassId) : xC → va_E
  | .inl (t, a) => .inl (dA t, xr b B a)
  | .inr (ci, fs) => .inr (ci, fs.map (xv b B))
def xP (b : xS) (B : Nat) (D : va_G) (dA : Nat → ClassId) (hp : List xC) (H : Heap) : Prop := 1 ≤ hp.length ∧ H.size + 1 = B + hp.length ∧ (∀ (k : Nat) (c : xC), hp[k + 1]? = some c → va_at D xcl (xa b B (k + 1), xt b B dA c) H) ∧ hp[0]? = some (.inl (0, b.2.1, .inl b.2.2))
def xtl (dA : Nat → ClassId) : List (ClassId × FieldType) := (dA 0, .int) :: (dA 1, .boolean) :: (dA 2, .long) :: (List.range xovs.length).map fun t => (dA (t + 3), .object (xovs.getD t ""))
/-- a method of the owner oc, as its frame stands in the machine -/
def xM (p : Program) (s : State) (m : MethodId) (args : Array Value) (meth : Method) (c : Code) (D : va_G) (dA : Nat → ClassId) (b : xS) (B oc nL : Nat) (ini : Bool) (cc : ByteArray) : Prop :=
  p.tables.exec = Jvm.exec ∧ c.code = cc ∧ (∃ own : String, xowns[oc]? = some own ∧ s.vm.findClass own = some m.cls) ∧ (∀ w ∈ xwl, w.before args s = true) ∧ va_K D xcl (xtl dA) s ∧ b.1 < B ∧ B ≤ s.heap.size ∧ c.maxLocals = nL ∧ (ini = true → meth.name = "<init>") ∧ meth.locks = false ∧ xB s ∧ va_X b.1 b.2.1 b.2.2 s s.heap
theorem xv_cat (b : xS) (B : Nat) (v : Value) : (xv b B v).category = v.category := by cases v <;> rfl
theorem xa_inj {b : xS} {B i j : Nat} (h : b.1 < B) (e : xa b B i = xa b B j) : i = j := by
  cases i <;> cases j <;> simp [xa] at e ⊢ <;> omega
theorem xlook_mem {k : Nat} {v : Value} {lv : xL} (h : lv.lookup k = some v) : (k, v) ∈ lv := by
  induction lv with
  | nil => simp [List.lookup] at h
  | cons q t ih =>
    obtain ⟨i, w⟩ := q
    simp only [List.lookup] at h
    split at h
    · rename_i e
      have e2 : k = i := by simpa using e
      cases h
      rw [e2]
      exact List.mem_cons_self
    · exact List.mem_cons_of_mem _ (ih h)
theorem xlook {b : xS} {B nL k : Nat} {v : Value} {ls : Array Slot} {lv : xL} (hl : lv_has ls nL (lv.map (xm b B))) (h : lv.lookup k = some v) : ls[k]? = some (.val (xv b B v)) := hl.2.2 _ (List.mem_map_of_mem (f := xm b B) (xlook_mem h))
theorem xput_map (b : xS) (B : Nat) (lv : xL) (k : Nat) (v : Value) : (xput lv k v).map (xm b B) = (k, xv b B v) :: (lv.map (xm b B)).filter (fun q => !(q.1 == k) && !(q.1 + 1 == k && q.2.category == 2)) := by
  have e : ((fun q : Nat × Value => !(q.1 == k) && !(q.1 + 1 == k && q.2.category == 2)) ∘ xm b B) = fun q => !(q.1 == k) && !(q.1 + 1 == k && q.2.category == 2) := by
    funext q
    simp only [Function.comp, xm, xv_cat]
  simp only [xput, List.map_cons, List.filter_map, e]
  rfl
theorem xin_in {i : Int32} {n : Nat} (h : xin i n = true) : vp_in i n := by
  intro q
  rcases q with q | q <;> simp [xin, q] at h
theorem xj_spec {pc t : Nat} {off : Int} (h : xj pc off = some t) : (pc : Int) + off = (t : Int) := by
  unfold xj at h
  split at h
  · rename_i e
    cases h
    exact e
  · cases h
theorem xP.at {b : xS} {B : Nat} {D : va_G} {dA : Nat → ClassId} {hp : List xC} {H : Heap} (h : xP b B D dA hp H) {k : Nat} {c : xC} (hk : hp[k]? = some c) (h0 : k ≠ 0) : va_at D xcl (xa b B k, xt b B dA c) H := by
  cases k with
  | zero => exact absurd rfl h0
  | succ k => exact h.2.2.1 k c hk
theorem xP.obj {b : xS} {B : Nat} {D : va_G} {dA : Nat → ClassId} {hp : List xC} {H : Heap} (h : xP b B D dA hp H) {k : Nat} {o : Nat × List Value} (hk : hp[k]? = some (.inr o)) : va_at D xcl (xa b B k, xt b B dA (.inr o)) H := by
  refine h.at hk (fun e => ?_)
  subst e
  rw [h.2.2.2] at hk
  cases hk
theorem xP.set {b : xS} {B : Nat} {D : va_G} {dA : Nat → ClassId} {hp : List xC} {H H1 : Heap} (hb : b.1 < B) (h : xP b B D dA hp H) {k : Nat} {c0 c1 : xC} (hk : hp[k + 1]? = some c0) (e1 : va_at D xcl (xa b B (k + 1), xt b B dA c1) H1) (e2 : H1.size = H.size) (e3 : ∀ q, q ≠ xa b B (k + 1) → H1[q]? = H[q]?) : xP b B D dA (hp.set (k + 1) c1) H1 := by
  refine ⟨by rw [List.length_set]; exact h.1, by rw [List.length_set, e2]; exact h.2.1, fun j c hj => ?_, by rw [List.getElem?_set_ne (by omega)]; exact h.2.2.2⟩
  by_cases hjk : k = j
  · subst hjk
    have hlt : k + 1 < hp.length := (List.getElem?_eq_some_iff.mp hk).1
    rw [List.getElem?_set_self hlt] at hj
    cases hj
    exact e1
  · rw [List.getElem?_set_ne (by omega)] at hj
    exact (h.2.2.1 j c hj).kept (e3 _ (fun q => hjk (by have := xa_inj (i := j + 1) (j := k + 1) hb q; omega)))
theorem xP.push {b : xS} {B : Nat} {D : va_G} {dA : Nat → ClassId} {hp : List xC} {H H1 : Heap} (hb : b.1 < B) (h : xP b B D dA hp H) {c1 : xC} (e1 : va_at D xcl (H.size, xt b B dA c1) H1) (e2 : H1.size = H.size + 1) (e3 : ∀ q, q < H.size → H1[q]? = H[q]?) : xP b B D dA (hp ++ [c1]) H1 := by
  obtain ⟨h1, h2, h3, h4⟩ := h
  refine ⟨by simp, by rw [List.length_append, e2]; simp; omega, fun j c hj => ?_, by rw [List.getElem?_append_left (by omega)]; exact h4⟩
  by_cases hl : j + 1 < hp.length
  · rw [List.getElem?_append_left hl] at hj
    have q := h3 j c hj
    exact q.kept (e3 _ q.lt)
  · rw [List.getElem?_append_right (by omega)] at hj
    have hz : j + 1 - hp.length < 1 := (List.getElem?_eq_some_iff.mp hj).1
    rw [show j + 1 - hp.length = 0 by omega] at hj
    cases hj
    have hx : xa b B (j + 1) = H.size := by
      simp only [xa]
      omega
    rw [hx]
    exact e1
theorem xP.new {b : xS} {B : Nat} {D : va_G} {dA : Nat → ClassId} {hp : List xC} {H : Heap} (h : xP b B D dA hp H) : xa b B hp.length = H.size := by
  obtain ⟨h1, h2, -⟩ := h
  cases e : hp.length with
  | zero => omega
  | succ i => simp only [xa]; omega
