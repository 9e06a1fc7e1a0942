/-! A small machine of our own over the tables: references are places in a list of cells (place 0 is the script, the others are made by the run).
    What it answers the machine answers: that is proved behind it, row by row, out of the kit's rows. -/
/-- the worlds' kinds of objects: the program's, and the three that it throws -/
def xcl : List vw_C := vwCl ++ [("java/lang/IllegalArgumentException", fun _ => ("", "", "", false), 0), ("java/lang/IllegalStateException", fun _ => ("", "", "", false), 0), ("java/lang/IndexOutOfBoundsException", fun _ => ("", "", "", false), 0)]
/-- the words that stay as they are while the machine runs on; and those that stay by laws of their own -/
def xgood (w : Cond) : Bool := (w.onTables && w.keeps) || (match w with
  | .arrayClass _ => true
  | _ => false)
def xwl : List Cond := lw_tbl.filter xgood
def xbad (w : Cond) : Bool := match w with
  | .methodLinkNest _ _ _ _ => true
  | .declares _ => true
  | .castable _ _ => true
  | .arrayOver (.object _) => true
  | _ => false
def xB (U : State) : Prop := ∀ w ∈ lw_tbl, xbad w = true → va_Nw w U
theorem xB.warm {s U : State} (hW : s.WarmedH U.vm) (h : xB s) : xB U := by
  intro w hw hb
  have h1 := h w hw hb
  unfold xbad at hb
  split at hb
  · exact va_Nw.warmM hW h1
  · exact va_Nw.warmD hW h1
  · exact va_Nw.warmC hW h1
  · exact va_AO.moved hW.alike h1
  · cases hb
theorem xwl_in {w : Cond} (h : w ∈ xwl) : w ∈ lw_tbl ∧ ((w.onTables && w.keeps) = true ∨ ∃ ty, w = .arrayClass ty) := by
  obtain ⟨h1, h2⟩ := List.mem_filter.mp h
  refine ⟨h1, ?_⟩
  unfold xgood at h2
  simp only [Bool.or_eq_true] at h2
  rcases h2 with h2 | h2
  · exact Or.inl h2
  · split at h2
    · exact Or.inr ⟨_, rfl⟩
    · cases h2
def xlk {α : Type} (t : List (List (Nat × α))) (oc ix : Nat) : Option α := match t[oc]? with
  | some l => l.lookup ix
  | none => none
def xat (k pc : Nat) : Option (Instr × Nat) := match xcodes[k]? with
  | some l => (match l[pc]? with
    | some (some q) => some q
    | _ => none)
  | none => none
/-- the table of the method's own handlers -/
def xtb (k : Nat) : List (Nat × Nat × Nat × Nat) := (xhts.lookup k).getD []
