def xdk (k : Nat) : Bool := match xmts[k]?, xcodes[k]? with
  | some q, some t => (List.range t.length).all fun pc => match t[pc]? with
    | some (some z) => decide (decode q.2.2.1 pc = .ok z)
    | _ => true
  | _, _ => false
set_option maxRecDepth 100000 in
theorem xd_0 : xdk 0 = true := by decide +kernel
set_option maxRecDepth 100000 in
theorem xd_1 : xdk 1 = true := by decide +kernel
set_option maxRecDepth 100000 in
theorem xd_2 : xdk 2 = true := by decide +kernel
set_option maxRecDepth 100000 in
theorem xd_3 : xdk 3 = true := by decide +kernel
set_option maxRecDepth 100000 in
theorem xd_4 : xdk 4 = true := by decide +kernel
set_option maxRecDepth 100000 in
theorem xd_5 : xdk 5 = true := by decide +kernel
set_option maxRecDepth 100000 in
theorem xd_6 : xdk 6 = true := by decide +kernel
set_option maxRecDepth 100000 in
theorem xd_7 : xdk 7 = true := by decide +kernel
set_option maxRecDepth 100000 in
theorem xd_8 : xdk 8 = true := by decide +kernel
set_option maxRecDepth 100000 in
theorem xd_9 : xdk 9 = true := by decide +kernel
set_option maxRecDepth 100000 in
theorem xd_10 : xdk 10 = true := by decide +kernel
set_option maxRecDepth 100000 in
theorem xd_11 : xdk 11 = true := by decide +kernel
set_option maxRecDepth 100000 in
theorem xd_12 : xdk 12 = true := by decide +kernel
set_option maxRecDepth 100000 in
theorem xd_13 : xdk 13 = true := by decide +kernel
set_option maxRecDepth 100000 in
theorem xd_14 : xdk 14 = true := by decide +kernel
set_option maxRecDepth 100000 in
theorem xd_15 : xdk 15 = true := by decide +kernel
set_option maxRecDepth 100000 in
theorem xd_16 : xdk 16 = true := by decide +kernel
set_option maxRecDepth 100000 in
theorem xd_17 : xdk 17 = true := by decide +kernel
set_option maxRecDepth 100000 in
theorem xd_18 : xdk 18 = true := by decide +kernel
set_option maxRecDepth 100000 in
theorem xd_19 : xdk 19 = true := by decide +kernel
set_option maxRecDepth 100000 in
theorem xd_20 : xdk 20 = true := by decide +kernel
set_option maxRecDepth 100000 in
theorem xd_21 : xdk 21 = true := by decide +kernel
set_option maxRecDepth 100000 in
theorem xd_22 : xdk 22 = true := by decide +kernel
set_option maxRecDepth 100000 in
theorem xd_23 : xdk 23 = true := by decide +kernel
set_option maxRecDepth 100000 in
theorem xd_24 : xdk 24 = true := by decide +kernel
set_option maxRecDepth 100000 in
theorem xd_25 : xdk 25 = true := by decide +kernel
set_option maxRecDepth 100000 in
theorem xd_26 : xdk 26 = true := by decide +kernel
set_option maxRecDepth 100000 in
theorem xd_27 : xdk 27 = true := by decide +kernel
set_option maxRecDepth 100000 in
theorem xd_28 : xdk 28 = true := by decide +kernel
set_option maxRecDepth 100000 in
theorem xd_29 : xdk 29 = true := by decide +kernel
set_option maxRecDepth 100000 in
theorem xd_30 : xdk 30 = true := by decide +kernel
set_option maxRecDepth 100000 in
theorem xd_31 : xdk 31 = true := by decide +kernel
set_option maxRecDepth 100000 in
theorem xd_32 : xdk 32 = true := by decide +kernel
set_option maxRecDepth 100000 in
theorem xd_33 : xdk 33 = true := by decide +kernel
set_option maxRecDepth 100000 in
theorem xd_34 : xdk 34 = true := by decide +kernel
set_option maxRecDepth 100000 in
theorem xd_35 : xdk 35 = true := by decide +kernel
set_option maxRecDepth 100000 in
theorem xd_36 : xdk 36 = true := by decide +kernel
set_option maxRecDepth 100000 in
theorem xd_37 : xdk 37 = true := by decide +kernel
set_option maxRecDepth 100000 in
theorem xd_38 : xdk 38 = true := by decide +kernel
set_option maxRecDepth 100000 in
theorem xd_39 : xdk 39 = true := by decide +kernel
set_option maxRecDepth 100000 in
theorem xd_40 : xdk 40 = true := by decide +kernel
set_option maxRecDepth 100000 in
theorem xd_41 : xdk 41 = true := by decide +kernel
set_option maxRecDepth 100000 in
theorem xd_42 : xdk 42 = true := by decide +kernel
set_option maxRecDepth 100000 in
theorem xd_43 : xdk 43 = true := by decide +kernel
set_option maxRecDepth 100000 in
theorem xd_44 : xdk 44 = true := by decide +kernel
set_option maxRecDepth 100000 in
theorem xd_45 : xdk 45 = true := by decide +kernel
set_option maxRecDepth 100000 in
theorem xd_46 : xdk 46 = true := by decide +kernel
set_option maxRecDepth 100000 in
theorem xd_47 : xdk 47 = true := by decide +kernel
set_option maxRecDepth 100000 in
theorem xd_48 : xdk 48 = true := by decide +kernel
set_option maxRecDepth 100000 in
theorem xd_49 : xdk 49 = true := by decide +kernel
set_option maxRecDepth 100000 in
theorem xd_50 : xdk 50 = true := by decide +kernel
set_option maxRecDepth 100000 in
theorem xd_51 : xdk 51 = true := by decide +kernel
set_option maxRecDepth 100000 in
theorem xd_52 : xdk 52 = true := by decide +kernel
set_option maxRecDepth 100000 in
theorem xd_53 : xdk 53 = true := by decide +kernel
set_option maxRecDepth 100000 in
theorem xd_54 : xdk 54 = true := by decide +kernel
set_option maxRecDepth 100000 in
theorem xd_55 : xdk 55 = true := by decide +kernel
