section XK2
def xk9 (k : Nat) : Bool := match xmts[k]? with
  | some q => decide (xowns[q.1]? = some q.2.1.cls) && decide (q.2.2.2.1 ≤ 40)
  | none => true
set_option maxRecDepth 100000 in
theorem xk9_all : (List.range 192).all xk9 = true := by decide +kernel
def xkc (ci : Nat) : Bool := match xcl[ci]? with
  | some r => decide (xowns[ci]? = some r.1)
  | none => true
set_option maxRecDepth 100000 in
theorem xkc_all : (List.range 12).all xkc = true := by decide +kernel
def xpar (y : MethodName) (n : Nat) : Bool := decide ((parseMethodDescriptor y.desc).map (fun d => d.parameters.length) = some n)
def xkm (own : String) (e : Nat × Nat × Nat) (js : List Nat) : Bool := match xmts[e.2.2]? with
  | some q => (match xpm.getD e.2.2 [], js with
    | [_, ji], [jl, ja, js] => decide (xish e.2.2 = false) && xmem ji (Cond.initialized q.2.1.cls) && plainName q.2.1.cls && decide (q.2.1.cls ≠ "java/lang/invoke/MethodHandle") && decide (q.2.1.cls ≠ "java/lang/invoke/VarHandle") &&
      (if e.2.1 < 3 then xmem jl (Cond.methodLink own e.1 q.2.1) else xmemL jl (Cond.methodLinkNest own e.1 q.2.1 xho)) &&
      (if e.2.1 = 0 ∨ e.2.1 = 3 then xmem ja (Cond.instanceMethod q.2.1) && xmem js (Cond.selects q.2.1.cls q.2.1 q.2.1) && xpar q.2.1 (q.2.2.2.2.2 - 1) else true) &&
      (if e.2.1 = 1 ∨ e.2.1 = 4 then xmem ja (Cond.static q.2.1) && xpar q.2.1 q.2.2.2.2.2 else true) &&
      (if e.2.1 = 2 ∨ e.2.1 = 5 then xmem ja (Cond.instanceMethod q.2.1) && decide (q.2.1.name = "<init>") && decide (q.2.2.2.2.1 = none) && xpar q.2.1 (q.2.2.2.2.2 - 1) else true) && decide (xtb e.2.2 = [])
    | _, _ => false)
  | none => false
def xkh (own : String) (e : Nat × Nat × Nat) (js : List Nat) : Bool := match xmts[e.2.2]? with
  | some q => (match xpm.getD e.2.2 [], js with
    | [_, ji], [jl, ja, _] => (xhts.lookup e.2.2).isSome && xmem ji (Cond.initialized q.2.1.cls) && plainName q.2.1.cls && decide (q.2.1.cls ≠ "java/lang/invoke/MethodHandle") && decide (q.2.1.cls ≠ "java/lang/invoke/VarHandle") &&
      xmem jl (Cond.methodLink own e.1 q.2.1) && xmem ja (Cond.static q.2.1) && xpar q.2.1 q.2.2.2.2.2
    | _, _ => false)
  | none => false
def xko (own : String) (ix : Nat) (js : List Nat) : Bool := xmem (js.getD 0 0) (Cond.methodLink own ix objectInit)
def xkp (own : String) (ix : Nat) (js : List Nat) : Bool := xmem (js.getD 0 0) (Cond.methodLink own ix arraycopyName)
def xky (own : String) (e : Nat × Nat × Nat) (js : List Nat) : Bool := match js with
  | [jl, ja, _] => if e.2.2 = 170 then xmem jl (Cond.methodLink own e.1 Lib.Math.max.name) && xmem ja (Cond.static Lib.Math.max.name) else xmem jl (Cond.methodLink own e.1 Lib.Math.min.name) && xmem ja (Cond.static Lib.Math.min.name)
  | _ => false
def xk10 (oc : Nat) : Bool := match xowns[oc]? with
  | some own => xzip (xivs.getD oc []) (xpv.getD oc []) fun e js => if e.2.2 = 170 ∨ e.2.2 = 171 then decide (e.2.1 = 1) && xky own e js else if e.2.1 < 6 then xkm own e js else if e.2.1 = 8 then xkh own e js else if e.2.1 = 6 then xko own e.1 js else if e.2.1 = 7 then xkp own e.1 js else true
  | none => false
set_option maxRecDepth 100000 in
theorem xk10_a : (List.range 10).all xk10 = true := by decide +kernel
set_option maxRecDepth 100000 in
theorem xk10_b : xk10 10 = true := by decide +kernel
set_option maxRecDepth 100000 in
theorem xk10_c : xk10 11 = true := by decide +kernel
set_option maxRecDepth 100000 in
theorem xk10_d : (xk10 12 && xk10 13 && xk10 14) = true := by decide +kernel
theorem xk10_all {oc : Nat} (h : oc < 15) : xk10 oc = true := by
  rcases Nat.lt_or_ge oc 10 with q | q
  · exact xall xk10_a q
  · have h3 := xk10_d
    simp only [Bool.and_eq_true] at h3
    have : oc = 10 ∨ oc = 11 ∨ oc = 12 ∨ oc = 13 ∨ oc = 14 := by omega
    rcases this with rfl | rfl | rfl | rfl | rfl
    · exact xk10_b
    · exact xk10_c
    · exact h3.1.1
    · exact h3.1.2
    · exact h3.2
set_option maxRecDepth 100000 in
theorem xkq_all : (xmem (xpq.getD 0 0) (Cond.instanceMethod objectInit) && xmem (xpq.getD 1 0) (Cond.code objectInit ⟨#[0xb1]⟩ 1 none) && xmem (xpq.getD 2 0) (Cond.native arraycopyName) && xmem (xpq.getD 3 0) (Cond.static arraycopyName) && xmem (xpq.getD 4 0) (Cond.initialized "java/lang/System")) = true := by decide +kernel
set_option maxRecDepth 100000 in
theorem xkr_all : (xmem ((xpm.getD 170 []).getD 0 0) (Cond.code Lib.Math.max.name Lib.Math.max.code 2 (some .int)) && xmem ((xpm.getD 171 []).getD 0 0) (Cond.code Lib.Math.min.name Lib.Math.min.code 2 (some .int)) && xmem ((xpm.getD 170 []).getD 1 0) (Cond.initialized "java/lang/Math")) = true := by decide +kernel
def xkn (e : Nat × Nat × Nat × Int32) : Bool := match xmts[e.1]?, xat e.1 e.2.1 with
  | some q, some (.invokevirtual ix, 3) => (match xlk xivs q.1 ix with
    | some (0, _) => true
    | _ => false)
  | _, _ => false
set_option maxRecDepth 100000 in
theorem xkn_all : xhds.all xkn = true := by decide +kernel
end XK2
