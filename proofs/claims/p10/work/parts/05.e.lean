def xnm : List String := ["java/lang/RuntimeException", "java/lang/Exception"]
def xic : List (Nat × Nat × String × Nat × Nat) := [(53, 57, "java/lang/IllegalArgumentException", 726, 87), (75, 79, "java/lang/IllegalStateException", 802, 88), (97, 101, "java/lang/IndexOutOfBoundsException", 874, 90)]
def xts : List (Nat × Nat × Nat × Nat × String × Bool × Nat) := [(71, 20, 0, 55, "no such kind or account", false, 767), (71, 58, 0, 64, "no such message", false, 798), (71, 88, 0, 66, "no such account or node", false, 799), (71, 116, 0, 69, "no such amount", false, 801), (71, 139, 1, 77, "there are 1500 transactions", false, 811), (72, 7, 2, 99, "no such node", false, 883), (73, 20, 2, 113, "no such message or node", false, 901), (74, 11, 0, 122, "many is not 1 to 100", false, 913), (74, 36, 2, 64, "no such message", false, 798), (75, 7, 2, 99, "no such node", false, 883), (76, 32, 0, 131, "no such kind, height or round", false, 932), (76, 60, 0, 136, "no such block", false, 933), (76, 93, 0, 138, "no such round before", false, 934), (76, 111, 1, 143, "no faulty node", false, 939), (76, 144, 1, 149, "nothing more is sent", false, 940), (77, 15, 0, 164, "no such parent", false, 948), (77, 48, 0, 169, "no such transaction", false, 953), (77, 71, 0, 172, "no such claim", false, 955), (77, 89, 1, 143, "no faulty node", false, 939), (77, 109, 1, 177, "there are 300 blocks", false, 957), (78, 20, 2, 187, "no such node or block", false, 982), (79, 7, 2, 99, "no such node", false, 883), (79, 27, 0, 203, "b is not 0 to 13", false, 999), (80, 7, 2, 99, "no such node", false, 883), (80, 31, 1, 208, "it is not down", false, 1007), (81, 7, 2, 99, "no such node", false, 883), (81, 265, 0, 263, "no such question", true, 1032), (82, 13, 2, 64, "no such message", false, 798), (82, 94, 0, 263, "no such question", true, 1032), (83, 13, 2, 136, "no such block", false, 933), (83, 33, 0, 263, "no such question", true, 1032), (84, 26, 2, 298, "no such block or account", true, 1054), (84, 45, 1, 300, "the block is not sound", true, 1055), (84, 66, 0, 263, "no such question", true, 1032), (85, 13, 2, 136, "no such block", false, 933), (85, 30, 1, 300, "the block is not sound", true, 1055), (85, 51, 0, 263, "no such question", true, 1032), (86, 13, 2, 136, "no such block", false, 933), (87, 112, 0, 263, "no such question", true, 1032)]
section XTH2
def xwd (w : Cond) : Bool := vx_ot w && (if xgood w then true else xbad w && w.onTables) && lw_tbl.contains w
set_option maxRecDepth 100000 in
theorem xwd_0 : (vx_atS RX10 57 "java/lang/IllegalArgumentException" xnm).all xwd = true := by decide +kernel
set_option maxRecDepth 100000 in
theorem xwd_1 : (vx_atS RX10 79 "java/lang/IllegalStateException" xnm).all xwd = true := by decide +kernel
set_option maxRecDepth 100000 in
theorem xwd_2 : (vx_atS RX10 101 "java/lang/IndexOutOfBoundsException" xnm).all xwd = true := by decide +kernel
def xkt (t : Nat × Nat × Nat × Nat × String × Bool × Nat) : Bool := match xmts[t.1]?, xic[t.2.2.1]? with
  | some q, some z => decide (q.1 = 10) && decide (xtb t.1 = []) && decide (xat t.1 t.2.1 = some (.new z.1, 3)) && decide (xat t.1 (t.2.1 + 3) = some (.dup, 1)) &&
    (if t.2.2.2.2.2.1 then decide (xat t.1 (t.2.1 + 4) = some (.ldc_w t.2.2.2.1, 3)) && decide (xat t.1 (t.2.1 + 7) = some (.invokespecial z.2.1, 3)) && decide (xat t.1 (t.2.1 + 10) = some (.athrow, 1))
     else decide (xat t.1 (t.2.1 + 4) = some (.ldc t.2.2.2.1, 2)) && decide (xat t.1 (t.2.1 + 6) = some (.invokespecial z.2.1, 3)) && decide (xat t.1 (t.2.1 + 9) = some (.athrow, 1))) &&
    xmemL t.2.2.2.2.2.2 (Cond.stringRef RX10 t.2.2.2.1 t.2.2.2.2.1) && xmem z.2.2.2.1 (Cond.classLink RX10 z.1 z.2.2.1) && xmem z.2.2.2.2 (Cond.initialized z.2.2.1) && vx_ot (Cond.classLink RX10 z.1 z.2.2.1) && vx_ot (Cond.initialized z.2.2.1) && Bundle.fit z.2.2.1
  | _, _ => false
set_option maxRecDepth 100000 in
theorem xkt_all : xts.all xkt = true := by decide +kernel
theorem xths_eq : xths = xts.map fun t => (t.1, t.2.1, 12 + t.2.2.1) := by decide +kernel
theorem xnm_fit : ∀ n ∈ xnm, Bundle.fit n = true := by decide +kernel
theorem xic_wd {i : Nat} {z : Nat × Nat × String × Nat × Nat} (h : xic[i]? = some z) : (vx_atS RX10 z.2.1 z.2.2.1 xnm).all xwd = true ∧ ∃ r : vw_C, xcl[12 + i]? = some r ∧ r.1 = z.2.2.1 ∧ r.2.2 = 0 := by
  match i, h with
  | 0, h => cases h; exact ⟨xwd_0, _, rfl, rfl, rfl⟩
  | 1, h => cases h; exact ⟨xwd_1, _, rfl, rfl, rfl⟩
  | 2, h => cases h; exact ⟨xwd_2, _, rfl, rfl, rfl⟩
  | i + 3, h => simp [xic] at h
end XTH2
