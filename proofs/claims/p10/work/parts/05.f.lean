def xEX : List String := ["java/lang/IllegalArgumentException", "java/lang/IllegalStateException", "java/lang/IndexOutOfBoundsException"]
def xhr : List (Nat × Nat × Nat × Nat × Nat × Bool × Nat) := [(174, 9, 0, 0, 6, true, 1), (174, 9, 1, 1, 6, true, 2), (175, 4, 0, 2, 3, false, 1), (176, 5, 0, 2, 4, true, 1), (177, 7, 0, 0, 5, true, 1), (177, 7, 1, 2, 5, true, 2), (178, 4, 0, 2, 3, false, 1), (179, 13, 0, 0, 8, true, 1), (179, 13, 1, 1, 8, true, 2), (180, 11, 0, 0, 7, true, 1), (180, 11, 1, 1, 7, true, 2), (181, 5, 0, 2, 4, true, 1), (182, 3, 0, 2, 3, false, 1), (182, 3, 1, 0, 3, false, 2), (183, 4, 0, 2, 3, false, 1), (183, 4, 1, 1, 3, false, 2), (184, 5, 0, 2, 4, true, 1), (184, 5, 1, 0, 4, true, 2), (185, 5, 0, 2, 4, true, 1), (185, 5, 1, 0, 4, true, 2), (186, 5, 0, 2, 4, true, 1), (186, 5, 1, 0, 4, true, 2), (187, 7, 0, 2, 5, true, 1), (187, 7, 1, 1, 5, true, 2), (187, 7, 2, 0, 5, true, 3), (188, 5, 0, 2, 4, true, 1), (188, 5, 1, 1, 4, true, 2), (188, 5, 2, 0, 4, true, 3), (189, 4, 0, 2, 3, false, 1), (190, 4, 0, 0, 3, false, 1)]
-- the law's entries that name what is caught: the entry, its kind, the places of its words
def xhc : List (Nat × Nat × Nat) := [(13, 0, 720), (15, 1, 721), (21, 2, 866)]
def xhk : List Nat := [728, 804, 876]
section XHA
/-- a row of a table of handlers names this kind, and its words are there -/
def xrow (h : Nat × Nat × Nat × Nat) (i : Nat) : Bool := match xhc.find? (fun q => q.1 == h.2.2.2), xEX[i]? with
  | some q, some nm => decide (q.2.1 = i) && decide (h.2.2.2 ≠ 0) && xmem q.2.2 (Cond.classLink RL h.2.2.2 nm)
  | _, _ => false
def xkind (h : Nat × Nat × Nat × Nat) : Option Nat := (xhc.find? (fun q => q.1 == h.2.2.2)).map fun q => q.2.1
def xkv (t : Nat × Nat × Nat × Nat × Nat × Bool × Nat) : Bool := match xmts[t.1]?, (xtb t.1)[t.2.2.1]?, xEX[t.2.2.2.1]? with
  | some q, some h, some nm => decide (q.1 = 12) && decide (q.2.2.2.2.1 = some .int) && decide (h.1 ≤ t.2.1 ∧ t.2.1 < h.2.1) && xrow h t.2.2.2.1 && xmemL (xhk.getD t.2.2.2.1 0) (Cond.castable nm nm) && decide (t.2.2.2.2.1 < q.2.2.2.1) &&
    ((xtb t.1).take t.2.2.1).all (fun z => match xkind z with
      | some i => decide (i ≠ t.2.2.2.1) && xrow z i
      | none => false) &&
    (if t.2.2.2.2.2.1 then decide (xat t.1 h.2.2.1 = some (.astore t.2.2.2.2.1, 2)) && decide (xat t.1 (h.2.2.1 + 2) = some (.iconst (t.2.2.2.2.2.2 : Int), 1)) && decide (xat t.1 (h.2.2.1 + 3) = some (.ireturn, 1))
     else (match xat t.1 h.2.2.1 with
       | some (.astore_n f, 1) => decide (f.val = t.2.2.2.2.1)
       | _ => false) && decide (xat t.1 (h.2.2.1 + 1) = some (.iconst (t.2.2.2.2.2.2 : Int), 1)) && decide (xat t.1 (h.2.2.1 + 2) = some (.ireturn, 1)))
  | _, _, _ => false
set_option maxRecDepth 100000 in
theorem xkv_all : xhr.all xkv = true := by decide +kernel
set_option maxRecDepth 100000 in
theorem xhds_eq : xhds = xhr.map fun t => (t.1, t.2.1, 12 + t.2.2.2.1, Int32.ofInt (t.2.2.2.2.2.2 : Int)) := by decide +kernel
end XHA
