section JR
variable {b : Bool} {ph : Nat → Nat → Nat} {w : jW} {hp : List xC} {Post : jO → jW → jH → Prop} {d k : Nat}
theorem jF.refl (b : Bool) (ph : Nat → Nat → Nat) (w : jW) (hp : List xC) : jF b ph w hp hp := fun _ _ _ => rfl
theorem js_ok {oc nL : Nat} {ini : Bool} {i : Instr} {len : Nat} {g g' : jG} {o : Option Prop} {ks : Nat} (hR : jRep b ph w g.2.2.2 hp) (h : js b ini oc nL w i len g = some (o, g')) (ho : jh o) :
    ∃ hp', xs oc nL ini i len (g.1, jml ph g.2.1, g.2.2.1.map (jm ph), hp, ks) = some (g'.1, jml ph g'.2.1, g'.2.2.1.map (jm ph), hp', ks) ∧ jRep b ph w g'.2.2.2 hp' ∧ jF b ph w hp hp' := by
  obtain ⟨pc, lv, st, H⟩ := g
  unfold js at h
  dsimp only at h hR ⊢
  split at h
  · rename_i v h1; cases h
    exact ⟨hp, by simp only [xs, ja1_ok h1, List.map_cons], hR, jF.refl _ _ _ _⟩
  · split at h
    · rename_i h1; cases h
      exact ⟨hp, ja6_ok hR h1 ho, hR, jF.refl _ _ _ _⟩
    · split at h
      · rename_i h1
        split at h1
        · rename_i hl; subst hl; cases h
          exact ⟨hp, ja3_ok h1 ho, hR, jF.refl _ _ _ _⟩
        · cases h1
      · split at h
        · rename_i h1; cases h
          exact ⟨hp, ja5_ok h1, hR, jF.refl _ _ _ _⟩
        · split at h
          · rename_i h1; cases h
            exact ⟨hp, ja4_ok h1, hR, jF.refl _ _ _ _⟩
          · split at h
            · rename_i h1; cases h
              exact ja7_ok hR h1 ho
            · cases h
set_option maxRecDepth 10000 in
theorem xinis_all : ((List.range 192).all fun k => match xmts[k]? with | some q => decide (xinis.contains k = decide (q.2.1.name = "<init>")) | none => true) = true := by decide +kernel
theorem xinis_ok {k : Nat} {q : xMt} (hq : xmts[k]? = some q) : xinis.contains k = decide (q.2.1.name = "<init>") := by
  have hlt : k < 192 := by
    have h1 := (List.getElem?_eq_some_iff.mp hq).1
    have h2 : xmts.length = 192 := rfl
    omega
  have h := List.all_eq_true.mp xinis_all k (List.mem_range.mpr hlt)
  rw [hq] at h
  exact of_decide_eq_true h
theorem J.one {g g' : jG} {o : Option Prop} (h : jst b w k g = some (o, g')) (ho : jh o) (hx : J b d k w g' Post) : J b d k w g Post := by
  intro ph hp hR
  unfold jst at h
  split at h
  · cases h
  · rename_i q hq
    split at h
    · cases h
    · rename_i i len hi
      obtain ⟨hp1, h1, hR1, hF1⟩ := js_ok (ks := w.2.2) hR h ho
      obtain ⟨o', w', H', ph', hp', hX, hR', hE, hF, hP⟩ := hx ph hp1 hR1
      refine ⟨o', w', H', ph', hp', X.one ?_ hX, hR', hE, jF.trans (jE.refl b ph w) hF1 hF, hP⟩
      unfold xst
      rw [hq]
      try dsimp only
      rw [hi]
      try dsimp only
      rw [← xinis_ok hq, h1]
theorem J.runs : ∀ (n : Nat) {g g' : jG} {o : Option Prop}, jstn n b w k g = some (o, g') → jh o → J b d k w g' Post → J b d k w g Post
  | 0, g, g', o, h, _, hx => by cases h; exact hx
  | n + 1, g, g', o, h, ho, hx => by
    simp only [jstn] at h
    split at h
    · rename_i o1 g1 h1
      split at h
      · rename_i o2 g2 h2
        cases h
        have h9 := jco_ok ho
        exact J.one h1 h9.1 (J.runs n h2 h9.2 hx)
      · cases h
    · cases h
/-- n plain instructions, nothing to be shown -/
theorem J.run0 (n : Nat) {g g' : jG} (h : jstn n b w k g = some (none, g')) (hx : J b d k w g' Post) : J b d k w g Post := J.runs n h trivial hx
/-- n plain instructions, and what must hold -/
theorem J.run (n : Nat) {g g' : jG} {P : Prop} (h : jstn n b w k g = some (some P, g')) (hP : P) (hx : J b d k w g' Post) : J b d k w g Post := J.runs n h hP hx
theorem J.post {g : jG} {Post' : jO → jW → jH → Prop} (h : J b d k w g Post') (hp : ∀ o w' H', Post' o w' H' → Post o w' H') : J b d k w g Post := by
  intro ph hp0 hR
  obtain ⟨o, w', H', ph', hp', h1, h2, h3, h4, h5⟩ := h ph hp0 hR
  exact ⟨o, w', H', ph', hp', h1, h2, h3, h4, hp _ _ _ h5⟩
def jR (x : Int) : Prop := -2147483648 ≤ x ∧ x ≤ 2147483647
def jcmp (c : ClassFile.Cond) (x y : Int) : Prop := match c with
  | .eq => x = y
  | .ne => ¬ x = y
  | .lt => x < y
  | .ge => y ≤ x
  | .gt => y < x
  | .le => x ≤ y
theorem jof_inj {x y : Int} (hx : jR x) (hy : jR y) : Int32.ofInt x = Int32.ofInt y ↔ x = y := by
  refine ⟨fun h => ?_, fun h => by rw [h]⟩
  have h9 := congrArg Int32.toInt h
  rw [Int32.toInt_ofInt_of_le (by have := hx.1; omega) (by have := hx.2; omega), Int32.toInt_ofInt_of_le (by have := hy.1; omega) (by have := hy.2; omega)] at h9
  exact h9
theorem jof_lt {x y : Int} (hx : jR x) (hy : jR y) : Int32.ofInt x < Int32.ofInt y ↔ x < y := by
  rw [Int32.lt_iff_toInt_lt, Int32.toInt_ofInt_of_le (by have := hx.1; omega) (by have := hx.2; omega), Int32.toInt_ofInt_of_le (by have := hy.1; omega) (by have := hy.2; omega)]
theorem jof_le {x y : Int} (hx : jR x) (hy : jR y) : Int32.ofInt x ≤ Int32.ofInt y ↔ x ≤ y := by
  rw [Int32.le_iff_toInt_le, Int32.toInt_ofInt_of_le (by have := hx.1; omega) (by have := hx.2; omega), Int32.toInt_ofInt_of_le (by have := hy.1; omega) (by have := hy.2; omega)]
theorem jcmp_ok {x y : Int} (c : ClassFile.Cond) (hx : jR x) (hy : jR y) : xcmp c (Int32.ofInt x) (Int32.ofInt y) = true ↔ jcmp c x y := by
  cases c <;> simp only [xcmp, jcmp, decide_eq_true_eq, jof_inj hx hy, jof_lt hx hy, jof_lt hy hx, jof_le hx hy, jof_le hy hx]
variable {lv : jL} {st : List jV} {H : jH} {pc : Nat} {q : xMt}
theorem J.icmp {cd : ClassFile.Cond} {off : Int} {x y : Int} {t : Nat} (hq : xmts[k]? = some q) (hi : xat k pc = some (.if_icmp cd off, 3)) (hj : xj pc off = some t) (hr : (-2147483648 ≤ x ∧ x ≤ 2147483647) ∧ -2147483648 ≤ y ∧ y ≤ 2147483647) (hT : jcmp cd x y → J b d k w (t, lv, st, H) Post) (hF : ¬ jcmp cd x y → J b d k w (pc + 3, lv, st, H) Post) : J b d k w (pc, lv, .inl y :: .inl x :: st, H) Post := by
  intro ph hp hR
  have hc := jcmp_ok cd hr.1 hr.2
  by_cases h : jcmp cd x y
  · obtain ⟨o, w', H', ph', hp', hX, h2, h3, h4, h5⟩ := hT h ph hp hR
    exact ⟨o, w', H', ph', hp', X.icmp hq hi hj (fun _ => hX) (fun z => by rw [hc.mpr h] at z; cases z), h2, h3, h4, h5⟩
  · obtain ⟨o, w', H', ph', hp', hX, h2, h3, h4, h5⟩ := hF h ph hp hR
    exact ⟨o, w', H', ph', hp', X.icmp hq hi hj (fun z => absurd (hc.mp z) h) (fun _ => hX), h2, h3, h4, h5⟩
theorem J.ifc {cd : ClassFile.Cond} {off : Int} {x : Int} {t : Nat} (hq : xmts[k]? = some q) (hi : xat k pc = some (.ifCond cd off, 3)) (hj : xj pc off = some t) (hr : -2147483648 ≤ x ∧ x ≤ 2147483647) (hT : jcmp cd x 0 → J b d k w (t, lv, st, H) Post) (hF : ¬ jcmp cd x 0 → J b d k w (pc + 3, lv, st, H) Post) : J b d k w (pc, lv, .inl x :: st, H) Post := by
  intro ph hp hR
  have hc : xcmp cd (Int32.ofInt x) 0 = true ↔ jcmp cd x 0 := jcmp_ok cd hr (show jR 0 from ⟨by decide, by decide⟩)
  by_cases h : jcmp cd x 0
  · obtain ⟨o, w', H', ph', hp', hX, h2, h3, h4, h5⟩ := hT h ph hp hR
    exact ⟨o, w', H', ph', hp', X.ifc hq hi hj (fun _ => hX) (fun z => by rw [hc.mpr h] at z; cases z), h2, h3, h4, h5⟩
  · obtain ⟨o, w', H', ph', hp', hX, h2, h3, h4, h5⟩ := hF h ph hp hR
    exact ⟨o, w', H', ph', hp', X.ifc hq hi hj (fun z => absurd (hc.mp z) h) (fun _ => hX), h2, h3, h4, h5⟩
/-- ends -/
theorem J.reti {x : Int} (hq : xmts[k]? = some q) (hi : xat k pc = some (.ireturn, 1)) (ht : q.2.2.2.2.1 = some .int) (hP : Post (.inl (some (.inl x))) w H) : J b d k w (pc, lv, [.inl x], H) Post := by
  intro ph hp hR
  refine ⟨.inl (some (.inl x)), w, H, ph, hp, ?_, hR, jE.refl _ _ _, jF.refl _ _ _ _, hP⟩
  refine X.ret (g := (pc, jml ph lv, [.int (Int32.ofInt x)], hp, w.2.2)) (q := q) ⟨hq, hi, ?_, ?_⟩ ?_
  · simp only [xs, xs1, xs6, xs3, xs5, xs4, xs7, xs8, if_true]
  · simp only [xs9]
  · simp only [xret, ht, if_true]
    rfl
theorem J.retb {x : Int} (hq : xmts[k]? = some q) (hi : xat k pc = some (.ireturn, 1)) (ht : q.2.2.2.2.1 = some .boolean) (hx : x = 0 ∨ x = 1) (hP : Post (.inl (some (.inl x))) w H) : J b d k w (pc, lv, [.inl x], H) Post := by
  intro ph hp hR
  refine ⟨.inl (some (.inl x)), w, H, ph, hp, ?_, hR, jE.refl _ _ _, jF.refl _ _ _ _, hP⟩
  refine X.ret (g := (pc, jml ph lv, [.int (Int32.ofInt x)], hp, w.2.2)) (q := q) ⟨hq, hi, ?_, ?_⟩ ?_
  · simp only [xs, xs1, xs6, xs3, xs5, xs4, xs7, xs8, if_true]
  · simp only [xs9]
  · simp only [xret, ht]
    rcases hx with rfl | rfl <;> rfl
theorem J.retv (hq : xmts[k]? = some q) (hi : xat k pc = some (.return_, 1)) (ht : q.2.2.2.2.1 = none) (hP : Post (.inl none) w H) : J b d k w (pc, lv, [], H) Post := by
  intro ph hp hR
  refine ⟨.inl none, w, H, ph, hp, ?_, hR, jE.refl _ _ _, jF.refl _ _ _ _, hP⟩
  refine X.ret (g := (pc, jml ph lv, [], hp, w.2.2)) (q := q) ⟨hq, hi, ?_, ?_⟩ ?_
  · simp only [xs, xs1, xs6, xs3, xs5, xs4, xs7, xs8, if_true]
  · simp only [xs9]
  · simp only [xret, ht, if_true]
    rfl
theorem J.reta {v : Option (Nat × Nat)} {s : String} (hq : xmts[k]? = some q) (hi : xat k pc = some (.areturn, 1)) (ht : q.2.2.2.2.1 = some (.object s)) (hP : Post (.inl (some (.inr v))) w H) : J b d k w (pc, lv, [.inr v], H) Post := by
  intro ph hp hR
  refine ⟨.inl (some (.inr v)), w, H, ph, hp, ?_, hR, jE.refl _ _ _, jF.refl _ _ _ _, hP⟩
  cases v with
  | none =>
    refine X.ret (g := (pc, jml ph lv, [.null], hp, w.2.2)) (q := q) ⟨hq, hi, ?_, ?_⟩ ?_
    · simp only [xs, xs1, xs6, xs3, xs5, xs4, xs7, xs8, if_true]
    · simp only [xs9]
    · simp only [xret, ht, if_true]
      rfl
  | some t =>
    refine X.ret (g := (pc, jml ph lv, [.ref (ph t.1 t.2)], hp, w.2.2)) (q := q) ⟨hq, hi, ?_, ?_⟩ ?_
    · simp only [xs, xs1, xs6, xs3, xs5, xs4, xs7, xs8, if_true]
    · simp only [xs9]
    · simp only [xret, ht, if_true]
      rfl
/-- tokens that no new cell can move -/
def jtk1 (b : Bool) : jV → Bool
  | .inl _ => true
  | .inr none => true
  | .inr (some (k, p)) => jdr k || (b && jcn k && Nat.beq p 0)
def jtks (b : Bool) (lv : jL) (st : List jV) : Bool := (lv.all fun q => jtk1 b q.2) && st.all (jtk1 b)
theorem jm_stable {ph ph' : Nat → Nat → Nat} {w' : jW} {H' : jH} {hp' : List xC} (hR : jRep b ph w H hp) (hR' : jRep b ph' w' H' hp') (hE : jE b ph w ph' w') {v : jV} (h : jtk1 b v = true) : jm ph' v = jm ph v := by
  rcases v with x | (_ | ⟨k, p⟩)
  · rfl
  · rfl
  · simp only [jtk1, Bool.or_eq_true, Bool.and_eq_true] at h
    simp only [jm]
    rcases h with h | h
    · rw [hR.2.2.2.2.1 k p h, hR'.2.2.2.2.1 k p h]
    · have : jD b w k p := by
        unfold jD
        rw [h.1.2]
        exact ⟨h.1.1, Nat.eq_of_beq_eq_true h.2⟩
      rw [(hE.1 k p this).2]
theorem jtks_ok {ph ph' : Nat → Nat → Nat} {w' : jW} {H' : jH} {hp' : List xC} (hR : jRep b ph w H hp) (hR' : jRep b ph' w' H' hp') (hE : jE b ph w ph' w') (h : jtks b lv st = true) : jml ph' lv = jml ph lv ∧ st.map (jm ph') = st.map (jm ph) := by
  simp only [jtks, Bool.and_eq_true, List.all_eq_true] at h
  refine ⟨?_, List.map_congr_left fun v hv => jm_stable hR hR' hE (h.2 v hv)⟩
  unfold jml
  exact List.map_congr_left fun v hv => by rw [jm_stable hR hR' hE (h.1 v hv)]
def jtk (n : Nat) (st : List jV) : Option (List jV × List jV) := if n ≤ st.length then some ((st.take n).reverse, st.drop n) else none
def jargs : Nat → List jV → jL
  | _, [] => []
  | i, v :: vs => (i, v) :: jargs (i + 1) vs
theorem jargs_ok (ph : Nat → Nat → Nat) : ∀ (vs : List jV) (i : Nat), lv_args i (vs.map (jm ph)) = jml ph (jargs i vs)
  | [], _ => rfl
  | v :: vs, i => by
    simp only [List.map_cons, lv_args, jargs, jml, jm_cat, show ¬ ((1 : Nat) = 2) by decide, if_false]
    rw [jargs_ok ph vs (i + 1)]
    rfl
theorem jtk_ok (ph : Nat → Nat → Nat) {n : Nat} {st as rest : List jV} (h : jtk n st = some (as, rest)) : xtk n (st.map (jm ph)) = some (as.map (jm ph), rest.map (jm ph)) := by
  unfold jtk at h
  unfold xtk
  split at h
  · rename_i hl
    cases h
    rw [if_pos (by rw [List.length_map]; exact hl), ← List.map_take, ← List.map_drop, List.map_reverse]
  · cases h
theorem jcat_ok (ph : Nat → Nat → Nat) (st : List jV) : xcat (st.map (jm ph)) = st.length := by
  unfold xcat
  induction st with
  | nil => rfl
  | cons v l ih =>
    simp only [List.map_cons, List.sum_cons, jm_cat, List.length_cons] at ih ⊢
    omega
/-- a result without a throw -/
def jN (Q : Option jV → jW → jH → Prop) : jO → jW → jH → Prop := fun o w' H' => ∃ v, o = .inl v ∧ Q v w' H'
variable {k' : Nat} {q' : xMt} {Q : Option jV → jW → jH → Prop}
theorem J.inv {ix c p : Nat} {as rest : List jV} (hq : xmts[k]? = some q) (hi : xat k pc = some (.invokevirtual ix, 3)) (hl : xlk xivs q.1 ix = some (0, k')) (hq' : xmts[k']? = some q') (htk : jtk (q'.2.2.2.2.2 - 1) st = some (as, .inr (some (c, p)) :: rest)) (hc : q'.1 = c) (hD : jD b w c p) (hk : Nat.ble 170 k' = false) (hci : Nat.ble c 11 = true) (hr : Nat.ble rest.length 8 = true) (hw : Nat.ble (as.length + 1) q'.2.2.2.1 = true) (hst : jtks b lv rest = true)
    (h1 : J b d k' w (0, jargs 0 (.inr (some (c, p)) :: as), [], H) (jN Q)) (h2 : ∀ v w' H', Q v w' H' → J b (d + 1) k w' (pc + 3, lv, v.toList ++ rest, H') Post) : J b (d + 1) k w (pc, lv, st, H) Post := by
  intro ph hp hR
  obtain ⟨o, w1, H1, ph1, hp1, hX1, hR1, hE1, hF1, v, rfl, hQ⟩ := h1 ph hp hR
  obtain ⟨o2, w2, H2, ph2, hp2, hX2, hR2, hE2, hF2, hP2⟩ := h2 v w1 H1 hQ ph1 hp1 hR1
  refine ⟨o2, w2, H2, ph2, hp2, ?_, hR2, hE1.trans hE2, jF.trans hE1 hF1 hF2, hP2⟩
  have hcell := hR.1 c p (Nat.lt_succ_of_le (Nat.le_of_ble_eq_true hci)) hD
  have hs := jtks_ok hR hR1 hE1 hst
  have hX1' : X d k' (0, lv_args 0 (.ref (ph c p) :: as.map (jm ph)), [], hp, w.2.2) (.inl (v.map (jm ph1)), hp1, w1.2.2) := by
    have := jargs_ok ph (.inr (some (c, p)) :: as) 0
    simp only [List.map_cons, jm] at this
    rw [this]
    exact hX1
  have e2 : (v.toList ++ rest).map (jm ph1) = (v.map (jm ph1)).toList ++ rest.map (jm ph) := by
    rw [List.map_append, hs.2]
    cases v <;> rfl
  have hX2' : X (d + 1) k (pc + 3, jml ph lv, (v.map (jm ph1)).toList ++ rest.map (jm ph), hp1, w1.2.2) (jmo ph2 o2, hp2, w2.2.2) := by
    rw [← hs.1, ← e2]
    exact hX2
  refine X.inv hq hi hl hq' (jtk_ok ph htk) (by rw [hc]; exact hcell) hk (by rw [hc]; exact hci) ?_ ?_ hX1' hX2'
  · rw [jcat_ok]; exact hr
  · have := jcat_ok ph (.inr (some (c, p)) :: as)
    simp only [List.map_cons, jm] at this
    rw [this]
    exact hw
theorem J.ins {ix : Nat} {as rest : List jV} (hq : xmts[k]? = some q) (hi : xat k pc = some (.invokestatic ix, 3)) (hl : xlk xivs q.1 ix = some (1, k')) (hq' : xmts[k']? = some q') (htk : jtk q'.2.2.2.2.2 st = some (as, rest)) (hk : Nat.ble 170 k' = false) (hr : Nat.ble rest.length 8 = true) (hw : Nat.ble as.length q'.2.2.2.1 = true) (hst : jtks b lv rest = true)
    (h1 : J b d k' w (0, jargs 0 as, [], H) (jN Q)) (h2 : ∀ v w' H', Q v w' H' → J b (d + 1) k w' (pc + 3, lv, v.toList ++ rest, H') Post) : J b (d + 1) k w (pc, lv, st, H) Post := by
  intro ph hp hR
  obtain ⟨o, w1, H1, ph1, hp1, hX1, hR1, hE1, hF1, v, rfl, hQ⟩ := h1 ph hp hR
  obtain ⟨o2, w2, H2, ph2, hp2, hX2, hR2, hE2, hF2, hP2⟩ := h2 v w1 H1 hQ ph1 hp1 hR1
  refine ⟨o2, w2, H2, ph2, hp2, ?_, hR2, hE1.trans hE2, jF.trans hE1 hF1 hF2, hP2⟩
  have hs := jtks_ok hR hR1 hE1 hst
  have hX1' : X d k' (0, lv_args 0 (as.map (jm ph)), [], hp, w.2.2) (.inl (v.map (jm ph1)), hp1, w1.2.2) := by
    rw [jargs_ok ph as 0]
    exact hX1
  have e2 : (v.toList ++ rest).map (jm ph1) = (v.map (jm ph1)).toList ++ rest.map (jm ph) := by
    rw [List.map_append, hs.2]
    cases v <;> rfl
  have hX2' : X (d + 1) k (pc + 3, jml ph lv, (v.map (jm ph1)).toList ++ rest.map (jm ph), hp1, w1.2.2) (jmo ph2 o2, hp2, w2.2.2) := by
    rw [← hs.1, ← e2]
    exact hX2
  have hne : ∀ e, xlk xivs q.1 ix = some (e, 0) → e = 1 := fun e he => by rw [hl] at he; cases he; rfl
  refine X.ins hq hi hl hq' (jtk_ok ph htk) hk ?_ ?_ ?_ hX1' hX2'
  · rw [jcat_ok]; exact hr
  · rw [jcat_ok]; exact hw
  · have e7 : ¬ (xlk xivs q.1 ix = some (7, 0)) := by rw [hl]; simp
    have e1 : ¬ (xlk xivs q.1 ix = some (1, 170)) := by
      rw [hl]
      intro z
      cases z
      revert hk
      decide
    have e3 : ¬ (xlk xivs q.1 ix = some (1, 171)) := by
      rw [hl]
      intro z
      cases z
      revert hk
      decide
    unfold xs9
    split
    · rename_i he _; cases he
    · rename_i he _; cases he
      rw [if_neg fun z => e7 z.2.1]
    · rename_i he _; cases he
      rw [if_neg fun z => e1 z.2.1, if_neg fun z => e3 z.2.1]
    · rfl
end JR
