/-! the class: all that can be done -/
section CQ
variable {b : Bool} {d : Nat} {w : jW} {H : jH}
theorem zsend_oth (z : zT) (n kd m : Nat) (h : m ≠ n) : (zsend z n kd).2.2.2 m = z.2.2.2 m := by
  unfold zsend
  split
  · rfl
  · exact if_neg h
theorem zst_oth (z : zT) (n s e m : Nat) (h : m ≠ n) : (zst z n s e).2.2.2 m = z.2.2.2 m := zN_ne z _ h
theorem zbegin_oth (z : zT) (n m : Nat) (h : m ≠ n) : (zbegin z n).2.2.2 m = z.2.2.2 m := by
  unfold zbegin
  split
  · rw [zsend_oth _ _ _ _ h]
    exact if_neg h
  · exact zst_oth z n 0 0 m h
theorem zmove_oth {z z' : zT} {n m : Nat} (hm : zmove z n = some z') (h : m ≠ n) : z'.2.2.2 m = z.2.2.2 m := by
  unfold zmove at hm
  split at hm
  · cases hm
    unfold zdecide
    rw [zbegin_oth _ _ _ h, zN_ne z _ h]
  · split at hm
    · cases hm
      rw [zsend_oth _ _ _ _ h, zst_oth _ _ _ _ _ h]
    · split at hm
      · cases hm
        split
        · rw [zsend_oth _ _ _ _ h, zst_oth _ _ _ _ _ h]
        · rw [zst_oth _ _ _ _ _ h]
      · cases hm
/-- the picture of a NODE at rest -/
def cRest (F : cF) (w : jW) (z : zT) (H : jH) : Prop := ∃ je, cInv F w z H je ∧ ∀ m, m < 16 → je m = 0 ∨ 120 < nh z m
abbrev dLv (F : cF) (n i : Nat) : jL := [(3, .inl (i : Int)), (2, .inl 1), (0, .inr (some (10, fX F))), (1, .inr (some (6, fN F n)))]
theorem c_doAll_h {F : cF} {z : zT} {n i : Nat} {je mp bp sp : Nat → Nat} {Post : jO → jW → jH → Prop} (hz : zInv z) (hP : cPic F w z H je mp bp sp) (hn : n < 16) (hi : i < 100000) (h1 : nh z n ≤ 120 → J b (d + 1) 89 w (22, dLv F n i, [], H) Post) (h0 : 120 < nh z n → J b (d + 1) 89 w (82, dLv F n i, [], H) Post) : J b (d + 1) 89 w (4, dLv F n i, [], H) Post := by
  have hN := hP.2.2.2.1 n hn
  have hnd := hP.node hz hn
  have h4 := hz.2.2.2.1 n hn
  refine J.run0 1 rfl ?_
  try dsimp only
  refine J.ifc rfl rfl rfl ⟨by decide, by decide⟩ (fun hc => absurd hc (show ¬ (1 : Int) = 0 by decide)) (fun _ => ?_)
  refine J.run0 2 rfl ?_
  try dsimp only
  refine J.icmp rfl rfl rfl ⟨⟨by omega, by omega⟩, by decide, by decide⟩ (fun hc => absurd (show (100000 : Int) ≤ i from hc) (by omega)) (fun _ => ?_)
  refine J.run0 1 rfl ?_
  try dsimp only
  refine J.inv rfl rfl rfl rfl rfl rfl ((jD_w rfl).mpr hN.1.1) rfl rfl rfl rfl rfl (c_acts (hh := (nh z n : Int) - 1) hN.1.1 hN.2.1.2.1 hnd.1.1 hnd.1.2.1 hN.2.1.2.2.2.2.2.2.1 hN.2.1.2.2.2.2.2.2.2.1 (by have := hnd.1.2.2; omega) (by omega)) ?_
  rintro r w H ⟨rfl, rfl, rfl⟩
  by_cases hh : nh z n ≤ 120
  · rw [if_pos (by omega)]
    exact J.ifc rfl rfl rfl ⟨by decide, by decide⟩ (fun hc => absurd hc (show ¬ (1 : Int) = 0 by decide)) (fun _ => h1 hh)
  · rw [if_neg (by omega)]
    exact J.ifc rfl rfl rfl ⟨by decide, by decide⟩ (fun _ => h0 (by omega)) (fun hc => absurd rfl hc)
/-- a ROUND has begun: it is proposed -/
theorem c_doAll_1 {F : cF} {z : zT} {n i : Nat} {je mp bp sp : Nat → Nat} {Post : jO → jW → jH → Prop} (hz : zInv z) (hP : cPic F w z H je mp bp sp) (hn : n < 16) (hi : i < 100000) (hje : je n = 1) (hr : nr z n = 0) (hs0 : ns z n = 0) (he0 : ne z n = 0) (hb : nh z n ≤ 120 → zP (nh z n) = n → zB z = nh z n) (hc : zP (nh z n) = n → H.1 6 6 (fN F n) = -1 ∧ H.1 6 7 (fN F n) = -1)
    (hnext : ∀ w' H', nh z n ≤ 120 → cInv F w' (zbegin z n) H' (va_up je n 0) → jCl H' H → (zP (nh z n) ≠ n → w' = w ∧ nFld H' H (fN F n) [9]) → J b (d + 5) 89 w' (4, dLv F n (i + 1), [], H') Post) (hend : 120 < nh z n → J b (d + 5) 89 w (82, dLv F n i, [], H) Post) : J b (d + 5) 89 w (4, dLv F n i, [], H) Post := by
  obtain ⟨⟨t1, -⟩, -⟩ := hP.1
  refine c_doAll_h hz hP hn hi (fun hh => ?_) hend
  refine J.run0 2 rfl ?_
  try dsimp only
  refine J.inv rfl rfl rfl rfl rfl rfl ((jD_w rfl).mpr t1) rfl rfl rfl rfl rfl (c_propose hz hP hn hh hje hr hs0 he0 hb hc) ?_
  rintro r w' H' ⟨rfl, hI, hC, hFr⟩
  refine J.ifc rfl rfl rfl ⟨by decide, by decide⟩ (fun _ => ?_) (fun hc => absurd (show ¬ (1 : Int) = 0 by decide) hc)
  refine J.run0 2 rfl ?_
  try dsimp only
  refine J.run0 3 rfl ?_
  try dsimp only
  have h9 := hnext w' H' hh hI hC hFr
  exact h9
theorem c_doAll_l {F : cF} {n : Nat} (hn : n < 16) : ∀ (f : Nat) (w : jW) (H : jH) (z : zT) (je : Nat → Nat) (i : Nat), zInv z → cInv F w z H je → je n = 0 → (∀ m, m < 16 → m ≠ n → je m = 0 ∨ 120 < nh z m) → zmu z n < f → i + 2 * f ≤ 90000 →
    J b (d + 5) 89 w (4, dLv F n i, [], H) (jN fun r w' H' => r = none ∧ cRest F w' (zact f z n) H' ∧ jCl H' H) := by
  intro f
  induction f with
  | zero => intro w H z je i _ _ _ _ h; omega
  | succ f ih =>
    intro w H z je i hz hI hje hoth hmu hi
    obtain ⟨mp, bp, sp, hP⟩ := hI
    have hrest : cRest F w z H := ⟨je, ⟨mp, bp, sp, hP⟩, fun m hm => by
      by_cases hmn : m = n
      · rw [hmn]; exact Or.inl hje
      · exact hoth m hm hmn⟩
    obtain ⟨⟨t1, -⟩, -⟩ := hP.1
    refine c_doAll_h hz hP hn (by omega) (fun hh => ?_) (fun hh => ?_)
    rotate_left
    · refine J.retv rfl rfl rfl ⟨_, rfl, rfl, ?_, jCl.refl _⟩
      unfold zact
      rw [if_neg (by omega)]
      exact hrest
    have go : ∀ {z' : zT} {w' : jW} {H' : jH}, zmove z n = some z' → cInv F w' z' H' je → jCl H' H → J b (d + 5) 89 w' (4, dLv F n (i + 1), [], H') (jN fun r w' H' => r = none ∧ cRest F w' (zact (f + 1) z n) H' ∧ jCl H' H) := by
      intro z' w' H' hm hI' hC'
      have h9 := ih w' H' z' je (i + 1) (hz.move hn hm) hI' hje (fun m hm' hmn => by unfold nh; rw [zmove_oth hm hmn]; exact hoth m hm' hmn) (by have := zmu_move hz hn hm; omega) (by omega)
      refine J.post h9 ?_
      rintro o w2 H2 ⟨r, rfl, rfl, hR, hC⟩
      refine ⟨_, rfl, rfl, ?_, hC.trans hC'⟩
      unfold zact
      rw [if_pos hh, hm]
      exact hR
    refine J.run0 2 rfl ?_
    try dsimp only
    refine J.inv rfl rfl rfl rfl rfl rfl ((jD_w rfl).mpr t1) rfl rfl rfl rfl rfl (c_propose0 hP hn hje) ?_
    rintro r w H ⟨rfl, rfl, rfl⟩
    refine J.ifc rfl rfl rfl ⟨by decide, by decide⟩ (fun hc => absurd rfl hc) (fun _ => ?_)
    refine J.run0 2 rfl ?_
    try dsimp only
    refine J.inv rfl rfl rfl rfl rfl rfl ((jD_w rfl).mpr t1) rfl rfl rfl rfl rfl (c_decide (d := d + 1) hz hP hn hh) ?_
    rintro r w1 H1 (⟨rfl, rfl, rfl, hno⟩ | ⟨rfl, rfl, hyes, hP1, hca, hcb, hC1⟩)
    rotate_left
    · -- rule (a)
      refine J.ifc rfl rfl rfl ⟨by decide, by decide⟩ (fun _ => ?_) (fun hc => absurd (show ¬ (1 : Int) = 0 by decide) hc)
      refine J.run0 2 rfl ?_
      try dsimp only
      refine J.run0 3 rfl ?_
      try dsimp only
      have hBz := zprop_B hz hn hyes.1
      have hmv : zmove z n = some (zdecide z n) := by unfold zmove; rw [if_pos hyes]
      have hz1 := (hz.decide1 hn hBz.1 hBz.2)
      have hat := zN_at z n (nh z n + 1, 0, 0, 0, nK z n)
      have hzN : zInv (zN z n (nh z n + 1, 0, 0, 0, nK z n)) := by
        have h9 := hz1.1.st hn (s := 0) (e := 0) (by omega) (by omega) (by unfold nr; rw [zN_at]; show 0 ≤ 0 + 1; omega)
        have e : zst (zN z n (nh z n + 1, ns z n, ne z n, 0, nK z n)) n 0 0 = zN z n (nh z n + 1, 0, 0, 0, nK z n) := by
          unfold zst nh nr nK
          rw [zN_at, zN2]
        rw [e] at h9
        exact h9
      have enh : nh (zN z n (nh z n + 1, 0, 0, 0, nK z n)) n = nh z n + 1 := by unfold nh; rw [hat]
      have hzb : zbegin (zN z n (nh z n + 1, 0, 0, 0, nK z n)) n = zdecide z n := (zbegin_zN z n (nh z n + 1) 0 0 (ns z n) (ne z n) 0 (nK z n))
      have hje1 : va_up je n 1 n = 1 := if_pos rfl
      have ejj : va_up (va_up je n 1) n 0 = je := by
        rw [va_up2, ← hje, va_up_self2]
      have hb2 : nh (zN z n (nh z n + 1, 0, 0, 0, nK z n)) n ≤ 120 → zP (nh (zN z n (nh z n + 1, 0, 0, 0, nK z n)) n) = n → zB (zN z n (nh z n + 1, 0, 0, 0, nK z n)) = nh (zN z n (nh z n + 1, 0, 0, 0, nK z n)) n := by
        have h9 := hz1.2
        have e2 : nh (zN z n (nh z n + 1, ns z n, ne z n, 0, nK z n)) n = nh z n + 1 := by unfold nh; rw [zN_at]
        rw [e2] at h9
        rw [enh]
        exact h9
      refine c_doAll_1 (i := i + 1) hzN hP1 hn (by omega) hje1 (by unfold nr; rw [hat]) (by unfold ns; rw [hat]) (by unfold ne; rw [hat]) hb2 (fun _ => ⟨hca, hcb⟩) (fun w' H' hh2 hI' hC' _ => ?_) (fun hh2 => ?_)
      · rw [hzb, ejj] at hI'
        have h9 := ih w' H' (zdecide z n) je (i + 1 + 1) (hz.move hn hmv) hI' hje (fun m hm' hmn => by unfold nh; rw [zmove_oth hmv hmn]; exact hoth m hm' hmn) (by have := zmu_move hz hn hmv; omega) (by omega)
        refine J.post h9 ?_
        rintro o w2 H2 ⟨r, rfl, rfl, hR, hC⟩
        refine ⟨_, rfl, rfl, ?_, hC.trans (hC'.trans hC1)⟩
        unfold zact
        rw [if_pos hh, hmv]
        exact hR
      · rw [enh] at hh2
        refine J.retv rfl rfl rfl ⟨_, rfl, rfl, ?_, hC1⟩
        have e1 : zdecide z n = zN z n (nh z n + 1, 0, 0, 0, nK z n) := by
          rw [← hzb]
          unfold zbegin
          rw [if_neg (by rw [enh]; omega)]
          unfold zst nh nr nK
          rw [hat, zN2]
        have e2 : zact (f + 1) z n = zN z n (nh z n + 1, 0, 0, 0, nK z n) := by
          unfold zact
          rw [if_pos hh, hmv]
          try dsimp only
          rw [e1]
          cases f with
          | zero => rfl
          | succ f =>
            unfold zact
            rw [if_neg (by rw [enh]; omega)]
        rw [e2]
        refine ⟨va_up je n 1, ⟨mp, bp, sp, hP1⟩, fun m hm => ?_⟩
        by_cases hmn : m = n
        · rw [hmn, enh]; exact Or.inr hh2
        · have e3 : va_up je n 1 m = je m := if_neg hmn
          have e4 : nh (zN z n (nh z n + 1, 0, 0, 0, nK z n)) m = nh z m := by unfold nh; rw [zN_ne z _ hmn]
          rw [e3, e4]
          exact hoth m hm hmn
    refine J.ifc rfl rfl rfl ⟨by decide, by decide⟩ (fun hc => absurd rfl hc) (fun _ => ?_)
    refine J.run0 2 rfl ?_
    try dsimp only
    refine J.inv rfl rfl rfl rfl rfl rfl ((jD_w rfl).mpr t1) rfl rfl rfl rfl rfl (c_passOn (d := d + 3) hz hP hn hh) ?_
    rintro r w H ⟨rfl, rfl, rfl⟩
    refine J.ifc rfl rfl rfl ⟨by decide, by decide⟩ (fun hc => absurd rfl hc) (fun _ => ?_)
    refine J.run0 2 rfl ?_
    try dsimp only
    refine J.inv rfl rfl rfl rfl rfl rfl ((jD_w rfl).mpr t1) rfl rfl rfl rfl rfl (c_prevote (d := d) hz hP hn hh) ?_
    rintro r w1 H1 (⟨rfl, rfl, rfl, hno2⟩ | ⟨rfl, hyes, hI1, hC1⟩)
    rotate_left
    · refine J.ifc rfl rfl rfl ⟨by decide, by decide⟩ (fun _ => ?_) (fun hc => absurd (show ¬ (1 : Int) = 0 by decide) hc)
      refine J.run0 2 rfl ?_
      try dsimp only
      refine J.run0 3 rfl ?_
      try dsimp only
      exact go (by unfold zmove; rw [if_neg hno, if_pos hyes]) hI1 hC1
    refine J.ifc rfl rfl rfl ⟨by decide, by decide⟩ (fun hc => absurd rfl hc) (fun _ => ?_)
    refine J.run0 2 rfl ?_
    try dsimp only
    refine J.inv rfl rfl rfl rfl rfl rfl ((jD_w rfl).mpr t1) rfl rfl rfl rfl rfl (c_renew (d := d) hz hP hn hh) ?_
    rintro r w2 H2 (⟨rfl, rfl, rfl, hno3⟩ | ⟨rfl, hyes, hI1, hC1⟩)
    rotate_left
    · refine J.ifc rfl rfl rfl ⟨by decide, by decide⟩ (fun _ => ?_) (fun hc => absurd (show ¬ (1 : Int) = 0 by decide) hc)
      refine J.run0 2 rfl ?_
      try dsimp only
      refine J.run0 3 rfl ?_
      try dsimp only
      exact go (by unfold zmove; rw [if_neg hno, if_neg hno2, if_pos hyes]) hI1 hC1
    refine J.ifc rfl rfl rfl ⟨by decide, by decide⟩ (fun hc => absurd rfl hc) (fun _ => ?_)
    refine J.run0 2 rfl ?_
    try dsimp only
    refine J.inv rfl rfl rfl rfl rfl rfl ((jD_w rfl).mpr t1) rfl rfl rfl rfl rfl (c_pfn (d := d + 1) hz hP hn hh) ?_
    rintro r w H ⟨rfl, rfl, rfl⟩
    refine J.ifc rfl rfl rfl ⟨by decide, by decide⟩ (fun _ => ?_) (fun hc => absurd rfl hc)
    refine J.run0 1 rfl ?_
    try dsimp only
    refine J.run0 3 rfl ?_
    try dsimp only
    refine J.run0 1 rfl ?_
    try dsimp only
    refine J.ifc rfl rfl rfl ⟨by decide, by decide⟩ (fun _ => ?_) (fun hc => absurd rfl hc)
    refine J.retv rfl rfl rfl ⟨_, rfl, rfl, ?_, jCl.refl _⟩
    unfold zact
    rw [if_pos hh, show zmove z n = none by unfold zmove; rw [if_neg hno, if_neg hno2, if_neg hno3]]
    exact hrest
/-- a NODE whose rules do nothing -/
theorem c_doAll_n {F : cF} {z : zT} {n i : Nat} {je mp bp sp : Nat → Nat} (hz : zInv z) (hP : cPic F w z H je mp bp sp) (hn : n < 16) (hi : i < 100000) (hje : je n = 0) (hno : zmove z n = none) : J b (d + 5) 89 w (4, dLv F n i, [], H) (jN fun r w' H' => r = none ∧ w' = w ∧ H' = H) := by
  obtain ⟨⟨t1, -⟩, -⟩ := hP.1
  refine c_doAll_h hz hP hn hi (fun hh => ?_) (fun hh => J.retv rfl rfl rfl ⟨_, rfl, rfl, rfl, rfl⟩)
  refine J.run0 2 rfl ?_
  try dsimp only
  refine J.inv rfl rfl rfl rfl rfl rfl ((jD_w rfl).mpr t1) rfl rfl rfl rfl rfl (c_propose0 hP hn hje) ?_
  rintro r w H ⟨rfl, rfl, rfl⟩
  refine J.ifc rfl rfl rfl ⟨by decide, by decide⟩ (fun hc => absurd rfl hc) (fun _ => ?_)
  refine J.run0 2 rfl ?_
  try dsimp only
  refine J.inv rfl rfl rfl rfl rfl rfl ((jD_w rfl).mpr t1) rfl rfl rfl rfl rfl (c_decide (d := d + 1) hz hP hn hh) ?_
  rintro r w1 H1 (⟨rfl, rfl, rfl, hno1⟩ | ⟨rfl, rfl, hyes, hP1, hca, hcb, hC1⟩)
  rotate_left
  · unfold zmove at hno
    rw [if_pos hyes] at hno
    cases hno
  refine J.ifc rfl rfl rfl ⟨by decide, by decide⟩ (fun hc => absurd rfl hc) (fun _ => ?_)
  refine J.run0 2 rfl ?_
  try dsimp only
  refine J.inv rfl rfl rfl rfl rfl rfl ((jD_w rfl).mpr t1) rfl rfl rfl rfl rfl (c_passOn (d := d + 3) hz hP hn hh) ?_
  rintro r w H ⟨rfl, rfl, rfl⟩
  refine J.ifc rfl rfl rfl ⟨by decide, by decide⟩ (fun hc => absurd rfl hc) (fun _ => ?_)
  refine J.run0 2 rfl ?_
  try dsimp only
  refine J.inv rfl rfl rfl rfl rfl rfl ((jD_w rfl).mpr t1) rfl rfl rfl rfl rfl (c_prevote (d := d) hz hP hn hh) ?_
  rintro r w1 H1 (⟨rfl, rfl, rfl, hno2⟩ | ⟨rfl, hyes, hI1, hC1⟩)
  rotate_left
  · unfold zmove at hno
    rw [if_neg hno1, if_pos hyes] at hno
    cases hno
  refine J.ifc rfl rfl rfl ⟨by decide, by decide⟩ (fun hc => absurd rfl hc) (fun _ => ?_)
  refine J.run0 2 rfl ?_
  try dsimp only
  refine J.inv rfl rfl rfl rfl rfl rfl ((jD_w rfl).mpr t1) rfl rfl rfl rfl rfl (c_renew (d := d) hz hP hn hh) ?_
  rintro r w2 H2 (⟨rfl, rfl, rfl, hno3⟩ | ⟨rfl, hyes, hI1, hC1⟩)
  rotate_left
  · unfold zmove at hno
    rw [if_neg hno1, if_neg hno2, if_pos hyes] at hno
    cases hno
  refine J.ifc rfl rfl rfl ⟨by decide, by decide⟩ (fun hc => absurd rfl hc) (fun _ => ?_)
  refine J.run0 2 rfl ?_
  try dsimp only
  refine J.inv rfl rfl rfl rfl rfl rfl ((jD_w rfl).mpr t1) rfl rfl rfl rfl rfl (c_pfn (d := d + 1) hz hP hn hh) ?_
  rintro r w H ⟨rfl, rfl, rfl⟩
  refine J.ifc rfl rfl rfl ⟨by decide, by decide⟩ (fun _ => ?_) (fun hc => absurd rfl hc)
  refine J.run0 1 rfl ?_
  try dsimp only
  refine J.run0 3 rfl ?_
  try dsimp only
  refine J.run0 1 rfl ?_
  try dsimp only
  refine J.ifc rfl rfl rfl ⟨by decide, by decide⟩ (fun _ => ?_) (fun hc => absurd rfl hc)
  exact J.retv rfl rfl rfl ⟨_, rfl, rfl, rfl, rfl⟩
end CQ
