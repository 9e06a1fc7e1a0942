section JW
variable {b : Bool} {ph : Nat → Nat → Nat} {w : jW} {H : jH} {hp : List xC}
def jti (t : FieldType) : Bool := match t with
  | .int => true
  | _ => false
def jtb (t : FieldType) : Bool := match t with
  | .boolean => true
  | _ => false
def jtr (t : FieldType) : Bool := match t with
  | .object _ => true
  | .array _ => true
  | _ => false
def jtok (c j : Nat) : Bool := match xtys[c]?, jft c j with
  | some ty, some (0, 0) => jti (ty j)
  | some ty, some (0, _) => jtb (ty j)
  | some ty, some (_, _) => jtr (ty j)
  | _, _ => false
theorem jti_ok {t : FieldType} {x : Int32} (h : jti t = true) : xfit t (.int x) = true := by
  unfold jti at h
  split at h
  · rfl
  · cases h
theorem jtb_ok {t : FieldType} {x : Int} (h : jtb t = true) (hx : x = 0 ∨ x = 1) : xfit t (.int (Int32.ofInt x)) = true := by
  unfold jtb at h
  split at h
  · rcases hx with rfl | rfl <;> decide
  · cases h
theorem jtr_ok {t : FieldType} {v : Value} (h : jtr t = true) (hv : v = .null ∨ ∃ a, v = .ref a) : xfit t v = true := by
  unfold jtr at h
  split at h
  · rcases hv with rfl | ⟨a, rfl⟩ <;> rfl
  · rcases hv with rfl | ⟨a, rfl⟩ <;> rfl
  · cases h
set_option maxRecDepth 10000 in
theorem jtok_all : ((List.range 12).all fun c => (List.range (jfn c)).all fun j => jtok c j) = true := by decide +kernel
theorem jtok_ok {c j : Nat} {z : Nat × Nat} (h : jft c j = some z) : jtok c j = true := by
  have hl := jft_lt h
  exact List.all_eq_true.mp (List.all_eq_true.mp jtok_all c (List.mem_range.mpr hl.1)) j (List.mem_range.mpr hl.2)
theorem jfs_set {n j : Nat} {f f' : Nat → Value} {v : Value} (hj : f' j = v) (hne : ∀ j', j' ≠ j → f' j' = f j') : ((List.range n).map f).set j v = (List.range n).map f' := by
  refine List.ext_getElem? fun i => ?_
  rw [List.getElem?_set, List.getElem?_map, List.getElem?_map]
  by_cases h : j = i
  · subst h
    rw [if_pos rfl]
    by_cases hl : j < n
    · rw [if_pos (by simpa using hl), List.getElem?_range hl]
      simp [hj]
    · rw [if_neg (by simpa using hl), List.getElem?_eq_none (by simp; omega)]
      rfl
  · rw [if_neg h]
    by_cases hl : i < n
    · rw [List.getElem?_range hl]
      simp [hne i (Ne.symm h)]
    · rw [List.getElem?_eq_none (by simp; omega)]
      rfl
theorem xs_pf {oc nL pc ks : Nat} {ini : Bool} {lv : xL} {st : List Value} {ix ci j b : Nat} {fs : List Value} {v : Value} {z : vw_C} {ty : Nat → FieldType} (hl : xlk xfls oc ix = some (ci, j)) (hz : xcl[ci]? = some z) (hty : xtys[ci]? = some ty) (hf : (z.2.1 j).2.2.2 = false ∨ ini = true ∧ some (z.2.1 j).1 = xowns[oc]?) (ha : hp[b]? = some (.inr (ci, fs))) (hb : 0 < b) (hj : j < fs.length) (hv : xfit (ty j) v = true) :
    xs oc nL ini (.putfield ix) 3 (pc, lv, v :: .ref b :: st, hp, ks) = some (pc + 3, lv, st, hp.set b (.inr (ci, fs.set j v)), ks) := by
  obtain ⟨a, rfl⟩ : ∃ a, b = a + 1 := ⟨b - 1, by omega⟩
  have h7 : xs7 oc ini (.putfield ix) 3 (v :: .ref (a + 1) :: st) hp = some (st, hp.set (a + 1) (.inr (ci, fs.set j v))) := by
    simp only [xs7, hl, ha, hz, hty, if_true]
    rw [if_pos ⟨trivial, hj, hv, hf⟩]
  simp only [xs, xs1, xs6, xs5, xs4, h7, show ¬ ((3 : Nat) = 1) by decide, if_false]
def jown (c : Nat) : Bool := match xcl[c]? with
  | some r => (List.range (jfn c)).all fun j => decide (some (r.2.1 j).1 = xowns[c]?)
  | none => false
set_option maxRecDepth 10000 in
theorem jown_all : ((List.range 12).all jown) = true := by decide +kernel
theorem jown_ok {c j : Nat} {r : vw_C} (hz : xcl[c]? = some r) (hc : c < 12) (hj : j < jfn c) : some (r.2.1 j).1 = xowns[c]? := by
  have h := List.all_eq_true.mp jown_all c (List.mem_range.mpr hc)
  unfold jown at h
  rw [hz] at h
  exact of_decide_eq_true (List.all_eq_true.mp h j (List.mem_range.mpr hj))
/-- a field is written: the machine's step and the picture behind it, in one -/
theorem jput_ok (hR : jRep b ph w H hp) {oc nL pc ks ix c j p : Nat} {ini : Bool} {lv : xL} {st : List Value} {v : Value} {H' : jH} {z : Nat × Nat} (hl : xlk xfls oc ix = some (c, j)) (hft : jft c j = some z) (hfin : (jfin c j && !(ini && Nat.beq oc c)) = false) (hD : jD b w c p) (hv : ∀ ty, xtys[c]? = some ty → xfit (ty j) v = true)
    (h0 : jfv ph H' c p j = v) (h1 : ∀ c' j' p', ¬ (c' = c ∧ j' = j ∧ p' = p) → jfv ph H' c' p' j' = jfv ph H c' p' j') (h3 : H'.1 42 0 = H.1 42 0 ∧ H'.2.2.1 = H.2.2.1 ∧ H'.2.2.2.1 = H.2.2.2.1) :
    ∃ hp', xs oc nL ini (.putfield ix) 3 (pc, lv, v :: .ref (ph c p) :: st, hp, ks) = some (pc + 3, lv, st, hp', ks) ∧ jRep b ph w H' hp' ∧ jF b ph w hp hp' := by
  have hlt := jft_lt hft
  have hcell := hR.1 c p hlt.1 hD
  have hpos := hR.2.2.2.1 c p hD
  obtain ⟨ty, hty⟩ : ∃ ty, xtys[c]? = some ty := ⟨_, List.getElem?_eq_getElem (show c < xtys.length from hlt.1)⟩
  unfold jfin at hfin
  split at hfin
  · rename_i r hz
    have hfin' : (r.2.1 j).2.2.2 = false ∨ ini = true ∧ some (r.2.1 j).1 = xowns[oc]? := by
      cases hff : (r.2.1 j).2.2.2 with
      | false => exact Or.inl rfl
      | true =>
        rw [hff] at hfin
        simp only [Bool.true_and, Bool.not_eq_false', Bool.and_eq_true] at hfin
        have hoc : oc = c := Nat.eq_of_beq_eq_true hfin.2
        subst hoc
        exact Or.inr ⟨hfin.1, jown_ok hz hlt.1 hlt.2⟩
    refine ⟨_, xs_pf hl hz hty hfin' hcell hpos ?_ (hv ty hty), ?_⟩
    · rw [List.length_map, List.length_range]
      exact hlt.2
    · refine hR.obj hlt.1 hD (fun c' p' he => funext fun j' => h1 c' j' p' fun z => he ⟨z.1, z.2.2⟩) ?_ ?_ h3.1
      · rw [jfs_set h0 fun j' hj' => h1 c j' p fun z => hj' z.2.1]
      · intro k p t n tk _
        unfold jrw jlen
        rw [h3.1, h3.2.1, h3.2.2]
  · exact absurd hlt.1 (by
      rename_i hz
      have := List.getElem?_eq_none_iff.mp hz
      have h15 : xcl.length = 15 := by decide
      omega)
theorem jrow_ok (hR : jRep b ph w H hp) {k p t tk : Nat} {n : Int} {z : xC} {H' : jH} (hk : jrk k = some (t, n, tk)) (hD : jD b w k p) (h0 : H'.1 = H.1 ∧ H'.2.1 = H.2.1 ∧ H'.2.2.2.2 = H.2.2.2.2) (h2 : jrw ph H' k p t n tk = z) (h3 : ∀ k' p', ¬ (k' = k ∧ p' = p) → H'.2.2.1 k' p' = H.2.2.1 k' p' ∧ H'.2.2.2.1 k' p' = H.2.2.2.1 k' p') :
    jRep b ph w H' (hp.set (ph k p) z) ∧ jF b ph w hp (hp.set (ph k p) z) := by
  refine hR.rows hk hD (fun c p _ => ?_) h2 (fun k' p' t n tk _ he => ?_) (by rw [h0.1])
  · funext j
    unfold jfv
    rw [h0.1, h0.2.1, h0.2.2]
  · unfold jrw jlen
    rw [h0.1, (h3 k' p' he).1, (h3 k' p' he).2]
theorem jbool_ok {y : Int} (h : y = 0 ∨ y = 1) : vp_nar .boolean (Int32.ofInt y) = Int32.ofInt y := by
  rcases h with rfl | rfl <;> decide
theorem ja7_ok {oc nL : Nat} {ini : Bool} {i : Instr} {len pc : Nat} {lv : xL} {st st' : List jV} {o : Option Prop} {ks : Nat} {H' : jH} (hR : jRep b ph w H hp) (h : ja7 b ini w oc i len st H = some (o, st', H')) (ho : jh o) :
    ∃ hp', xs oc nL ini i len (pc, lv, st.map (jm ph), hp, ks) = some (pc + len, lv, st'.map (jm ph), hp', ks) ∧ jRep b ph w H' hp' ∧ jF b ph w hp hp' := by
  unfold ja7 at h
  split at h
  · rename_i ix x c' p st
    split at h
    · rename_i hl
      subst hl
      split at h
      · rename_i c j hx
        split at h
        · rename_i hb hfin hc hf; cases h
          obtain rfl : c = c' := Nat.eq_of_beq_eq_true hb
          have hlt := jft_lt hf
          refine jput_ok (v := .int (Int32.ofInt x)) hR hx hf hfin (jcd_ok hc ho) (fun ty hty => ?_) ?_ (fun c' j' p' he => ?_) ⟨?_, rfl, rfl⟩
          · have h9 := jtok_ok hf
            unfold jtok at h9
            rw [show xtys[c]? = some ty from hty, hf] at h9
            exact jti_ok h9
          · unfold jfv; rw [hf]; dsimp only; rw [jupF_eq]; rfl
          · unfold jfv; dsimp only; rw [jupF_ne he]
          · funext q; dsimp only; exact jupF_ne fun z => by have := hlt.1; omega
        · rename_i b hnb hb hfin hc hf; cases h
          obtain rfl : c = c' := Nat.eq_of_beq_eq_true hb
          have hlt := jft_lt hf
          obtain ⟨ho1, hx01⟩ := jca_ok ho
          refine jput_ok (v := .int (Int32.ofInt x)) hR hx hf hfin (jcd_ok hc ho1) (fun ty hty => ?_) ?_ (fun c' j' p' he => ?_) ⟨?_, rfl, rfl⟩
          · have h9 := jtok_ok hf
            unfold jtok at h9
            rw [show xtys[c]? = some ty from hty, hf] at h9
            match b, hnb, h9 with
            | 0, hnb, _ => exact absurd rfl hnb
            | b + 1, _, h9 => exact jtb_ok h9 hx01
          · unfold jfv; rw [hf]; dsimp only; rw [jupF_eq]; rfl
          · unfold jfv; dsimp only; rw [jupF_ne he]
          · funext q; dsimp only; exact jupF_ne fun z => by have := hlt.1; omega
        · cases h
      · cases h
    · cases h
  · rename_i ix v c' p st
    split at h
    · rename_i hl
      subst hl
      split at h
      · rename_i c j hx
        have hfit : ∀ {t k : Nat} {v : Value}, jft c j = some (t + 2, k) → (v = .null ∨ ∃ a, v = .ref a) → ∀ ty, xtys[c]? = some ty → xfit (ty j) v = true := by
          intro t k v hf hv ty hty
          have h9 := jtok_ok hf
          unfold jtok at h9
          rw [show xtys[c]? = some ty from hty, hf] at h9
          exact jtr_ok h9 hv
        split at h
        · rename_i hb hfin hc hf; cases h
          obtain rfl : c = c' := Nat.eq_of_beq_eq_true hb
          refine jput_ok (v := .null) hR hx hf hfin (jcd_ok hc ho) (hfit hf (Or.inl rfl)) ?_ (fun c' j' p' he => ?_) ⟨rfl, rfl, rfl⟩
          · unfold jfv; rw [hf]; dsimp only; rw [jupF_eq]; rfl
          · unfold jfv; dsimp only; rw [jupF_ne he]
        · rename_i k k' q hb hfin hc hf
          split at h
          · rename_i hkk; cases h
            obtain rfl : c = c' := Nat.eq_of_beq_eq_true hb
            obtain rfl : k = k' := Nat.eq_of_beq_eq_true hkk
            refine jput_ok (v := .ref (ph k q)) hR hx hf hfin (jcd_ok hc ho) (hfit hf (Or.inr ⟨_, rfl⟩)) ?_ (fun c' j' p' he => ?_) ⟨rfl, rfl, rfl⟩
            · unfold jfv; rw [hf]; dsimp only; rw [jupF_eq]; rfl
            · unfold jfv; dsimp only; rw [jupF_ne he]
          · cases h
        · rename_i k k' q hb hfin hc hf
          split at h
          · rename_i hkk; cases h
            obtain rfl : c = c' := Nat.eq_of_beq_eq_true hb
            obtain rfl : k = k' := Nat.eq_of_beq_eq_true hkk
            obtain ⟨ho1, hq0⟩ := jca_ok ho
            refine jput_ok (v := .ref (ph k q)) hR hx hf hfin (jcd_ok hc ho1) (hfit hf (Or.inr ⟨_, rfl⟩)) ?_ (fun c' j' p' he => ?_) ⟨rfl, rfl, rfl⟩
            · unfold jfv; rw [hf]; dsimp only; rw [jupF_eq]
              obtain ⟨a, rfl⟩ : ∃ a, q = a + 1 := ⟨q - 1, by omega⟩
              rfl
            · unfold jfv; dsimp only; rw [jupF_ne he]
          · cases h
        · cases h
      · cases h
    · cases h
  · rename_i y x k p st
    split at h
    · rename_i hl
      subst hl
      split at h
      · rename_i n tk o1 hk hc; cases h
        obtain ⟨ho1, hx1, hx2⟩ := jca_ok ho
        have hd := jcd_ok hc ho1
        have hcell := jrow_get hR hk hd
        have hin := jin_ok hx1 hx2 (jlen_small hR hk hd)
        have hpos := hR.2.2.2.1 k p hd
        simp only [jrw] at hcell
        refine ⟨hp.set (ph k p) (.inl (0, (jlen H k p n).toNat, .inl (upd (fun i => Int32.ofInt (H.2.2.1 k p i)) (Int32.ofInt x).toNatClampNeg (Int32.ofInt y)))), ?_, jrow_ok hR hk hd ⟨rfl, rfl, rfl⟩ ?_ fun k' p' he => ⟨jsetR_ne he, rfl⟩⟩
        · obtain ⟨a, ha⟩ : ∃ a, ph k p = a + 1 := ⟨ph k p - 1, by omega⟩
          rw [ha] at hcell ⊢
          simp only [xs, xs1, xs6, xs3, xs2, xs5, xs4, xs7, List.map_cons, jm, ha, hcell, hin.1, if_true, Option.map_none]
        · simp only [jrw, jsetR_eq]
          have e : (fun i : Nat => Int32.ofInt (jup (H.2.2.1 k p) x y i)) = upd (fun i => Int32.ofInt (H.2.2.1 k p i)) (Int32.ofInt x).toNatClampNeg (Int32.ofInt y) := by
            funext i
            unfold jup upd
            by_cases he : (i : Int) = x
            · rw [if_pos he, if_pos (by omega)]
            · rw [if_neg he, if_neg (by omega)]
          rw [e]
          rfl
      · cases h
    · cases h
  · rename_i y x k p st
    split at h
    · rename_i hl
      subst hl
      split at h
      · rename_i n tk o1 hk hc; cases h
        obtain ⟨ho1, hy, hx1, hx2⟩ := jca_ok ho
        have hd := jcd_ok hc ho1
        have hcell := jrow_get hR hk hd
        have hin := jin_ok hx1 hx2 (jlen_small hR hk hd)
        have hpos := hR.2.2.2.1 k p hd
        simp only [jrw] at hcell
        refine ⟨hp.set (ph k p) (.inl (1, (jlen H k p n).toNat, .inl (upd (fun i => Int32.ofInt (H.2.2.1 k p i)) (Int32.ofInt x).toNatClampNeg (Int32.ofInt y)))), ?_, jrow_ok hR hk hd ⟨rfl, rfl, rfl⟩ ?_ fun k' p' he => ⟨jsetR_ne he, rfl⟩⟩
        · obtain ⟨a, ha⟩ : ∃ a, ph k p = a + 1 := ⟨ph k p - 1, by omega⟩
          rw [ha] at hcell ⊢
          simp only [xs, xs1, xs6, xs3, xs2, xs5, xs4, xs7, List.map_cons, jm, ha, hcell, hin.1, if_true, Option.map_none, jbool_ok hy]
        · simp only [jrw, jsetR_eq]
          have e : (fun i : Nat => Int32.ofInt (jup (H.2.2.1 k p) x y i)) = upd (fun i => Int32.ofInt (H.2.2.1 k p i)) (Int32.ofInt x).toNatClampNeg (Int32.ofInt y) := by
            funext i
            unfold jup upd
            by_cases he : (i : Int) = x
            · rw [if_pos he, if_pos (by omega)]
            · rw [if_neg he, if_neg (by omega)]
          rw [e]
          rfl
      · cases h
    · cases h
  · rename_i c q x k p st
    split at h
    · rename_i hl
      subst hl
      split at h
      · rename_i t n tk o1 o2 hk hc hc2
        split at h
        · rename_i hb; cases h
          simp only [Bool.and_eq_true] at hb
          obtain ⟨⟨hb1, hb2⟩, hb3⟩ := hb
          obtain rfl : tk = c := Nat.eq_of_beq_eq_true hb1
          have hov : xovc[t]? = some tk := by
            cases hz : xovc[t]? with
            | none => rw [hz] at hb2; cases hb2
            | some z => rw [hz] at hb2; rw [Nat.eq_of_beq_eq_true hb2]
          obtain ⟨ho1, hq, hx1, hx2⟩ := jca_ok ho
          have hd := jcd_ok hc ho1
          have hdq : jD b w tk q := jcd_ok hc2 hq
          have hcell := jrow_get hR hk hd
          have hob := hR.1 tk q (by have := Nat.le_of_ble_eq_true hb3; omega) hdq
          have hin := jin_ok hx1 hx2 (jlen_small hR hk hd)
          have hpos := hR.2.2.2.1 k p hd
          simp only [jrw] at hcell
          refine ⟨hp.set (ph k p) (.inl (t + 3, (jlen H k p n).toNat, .inr (.inr (.inr (.inr (va_up (fun i : Nat => (H.2.2.2.1 k p i).map (ph tk)) (Int32.ofInt x).toNatClampNeg (some (ph tk q)))))))), ?_, jrow_ok hR hk hd ⟨rfl, rfl, rfl⟩ ?_ fun k' p' he => ⟨rfl, jsetR_ne he⟩⟩
          · obtain ⟨a, ha⟩ : ∃ a, ph k p = a + 1 := ⟨ph k p - 1, by omega⟩
            rw [ha] at hcell ⊢
            simp only [xs, xs1, xs6, xs3, xs5, xs4, xs7, List.map_cons, jm, ha, hcell, hob, hov, hin.1, if_true, and_self]
          · simp only [jrw, jsetR_eq]
            have e : (fun i : Nat => (jup (H.2.2.2.1 k p) x (some q) i).map (ph tk)) = va_up (fun i : Nat => (H.2.2.2.1 k p i).map (ph tk)) (Int32.ofInt x).toNatClampNeg (some (ph tk q)) := by
              funext i
              unfold jup va_up
              by_cases he : (i : Int) = x
              · rw [if_pos he, if_pos (by omega)]; rfl
              · rw [if_neg he, if_neg (by omega)]
            rw [e]
            rfl
        · cases h
      · cases h
    · cases h
  · cases h
end JW
