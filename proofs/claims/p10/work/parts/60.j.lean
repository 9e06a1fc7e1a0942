/-! new cells in the machine over numbers -/
section JN
variable {b : Bool} {ph : Nat → Nat → Nat} {w : jW} {H : jH} {hp : List xC} {Post : jO → jW → jH → Prop} {d k pc : Nat} {q : xMt} {lv : jL} {st : List jV}
/-- one more place -/
def jwA (w : jW) (c p s : Nat) : jW := (fun k' p' => w.1 k' p' ∨ (k' = c ∧ p' = p), w.2.1 + 1, w.2.2 + s)
theorem J.wc {g : jG} (h : jwc w → J b d k w g Post) : J b d k w g Post := fun ph hp hR => h hR.2.2.2.2.2.2.2 ph hp hR
theorem jcn_lo {c : Nat} (h : Nat.ble c 10 = true) : jcn c = false := by
  have h1 := Nat.le_of_ble_eq_true h
  unfold jcn
  have h2 : Nat.beq c 11 = false := by
    cases h3 : Nat.beq c 11 with
    | false => rfl
    | true => have := Nat.eq_of_beq_eq_true h3; omega
  have h4 : Nat.ble 50 c = false := by
    cases h3 : Nat.ble 50 c with
    | false => rfl
    | true => have := Nat.le_of_ble_eq_true h3; omega
  rw [h2, h4]
  rfl
theorem jD_A {c p s : Nat} (hc : jcn c = false) {k' p' : Nat} : jD b (jwA w c p s) k' p' ↔ jD b w k' p' ∨ (k' = c ∧ p' = p) := by
  unfold jD
  cases hk : jcn k' with
  | true =>
    refine ⟨fun h => Or.inl h, fun h => ?_⟩
    rcases h with h | h
    · exact h
    · rw [h.1, hc] at hk; cases hk
  | false => exact Iff.rfl
theorem jD_w (h : jcn k = false) {p : Nat} : jD b w k p ↔ w.1 k p := by
  unfold jD
  rw [h]
theorem jRep.lt (hR : jRep b ph w H hp) {k p : Nat} (hD : jD b w k p) : ph k p < hp.length := by
  have key : k < 12 ∨ ∃ z, jrk k = some z := by
    cases hk : jcn k with
    | true =>
      unfold jcn at hk
      simp only [Bool.or_eq_true, Bool.and_eq_true] at hk
      rcases hk with hk | hk
      · exact Or.inl (by have := Nat.eq_of_beq_eq_true hk; omega)
      · exact Or.inr (Option.isSome_iff_exists.mp hk.2)
    | false =>
      have h1 := (hR.2.2.2.2.2.2.2.2 k p ((jD_w hk).mp hD)).2
      unfold jkd at h1
      simp only [Bool.or_eq_true, Bool.and_eq_true] at h1
      rcases h1 with h1 | h1
      · exact Or.inl (by have := Nat.le_of_ble_eq_true h1; omega)
      · exact Or.inr (Option.isSome_iff_exists.mp h1.2)
  rcases key with h | ⟨⟨t, n, tk⟩, h⟩
  · exact (List.getElem?_eq_some_iff.mp (hR.1 k p h hD)).1
  · exact (List.getElem?_eq_some_iff.mp (hR.2.1 k p t n tk h hD)).1
def jT2 : Bool := (List.range 12).all fun c => (List.range (jfn c)).all fun j => match jft c j with
  | some (0, _) => true
  | some (1, k) => Nat.beq c 11 || (!(jdr k) && !(jcn k))
  | some (_, k) => jdr k
  | none => false
set_option maxRecDepth 10000 in
theorem jT2_ok : jT2 = true := by decide +kernel
theorem jT2_at {c j : Nat} {z : Nat × Nat} (h : jft c j = some z) : (match jft c j with
  | some (0, _) => true
  | some (1, k) => Nat.beq c 11 || (!(jdr k) && !(jcn k))
  | some (_, k) => jdr k
  | none => false) = true := by
  have hl := jft_lt h
  exact List.all_eq_true.mp (List.all_eq_true.mp jT2_ok c (List.mem_range.mpr hl.1)) j (List.mem_range.mpr hl.2)
def jT3 : Bool := jrt.all fun z => match z with
  | some (_, _, tk) => jdr tk
  | none => true
set_option maxRecDepth 10000 in
theorem jT3_ok : jT3 = true := by decide +kernel
theorem jT3_at {k t tk : Nat} {n : Int} (h : jrk k = some (t, n, tk)) : jdr tk = true := by
  unfold jrk at h
  split at h
  · rename_i z hz
    cases h
    exact List.all_eq_true.mp jT3_ok _ (List.mem_of_getElem? hz)
  · cases h
theorem jfv_eq {ph' : Nat → Nat → Nat} {H' : jH} {c p : Nat} (h1 : ∀ j, H'.1 c j p = H.1 c j p ∧ H'.2.1 c j p = H.2.1 c j p ∧ H'.2.2.2.2 c j p = H.2.2.2.2 c j p) (h2 : ∀ j k, jft c j = some (1, k) → ph' k p = ph k p) (h3 : ∀ k, jdr k = true → ph' k = ph k) : jfv ph' H' c p = jfv ph H c p := by
  funext j
  unfold jfv
  rw [(h1 j).1, (h1 j).2.1, (h1 j).2.2]
  cases hft : jft c j with
  | none => rfl
  | some z =>
    have hT := jT2_at hft
    rw [hft] at hT
    obtain ⟨t, k⟩ := z
    match t, hft, hT with
    | 0, hft, hT => rfl
    | 1, hft, hT =>
      show va_z (ph' k p) = va_z (ph k p)
      rw [h2 j k hft]
    | 2, hft, hT =>
      show va_rf ((H.2.1 c j p).map (ph' k)) = va_rf ((H.2.1 c j p).map (ph k))
      rw [h3 k hT]
    | t + 3, hft, hT =>
      show (match H.2.2.2.2 c j p with | 0 => Value.null | q + 1 => .ref (ph' k (q + 1))) = (match H.2.2.2.2 c j p with | 0 => Value.null | q + 1 => .ref (ph k (q + 1)))
      rw [h3 k hT]
theorem jrw_eq {ph' : Nat → Nat → Nat} {H' : jH} {k p t tk : Nat} {n : Int} (hk : jrk k = some (t, n, tk)) (h1 : H'.1 42 0 p = H.1 42 0 p ∧ H'.2.2.1 k p = H.2.2.1 k p ∧ H'.2.2.2.1 k p = H.2.2.2.1 k p) (h3 : ∀ k, jdr k = true → ph' k = ph k) : jrw ph' H' k p t n tk = jrw ph H k p t n tk := by
  unfold jrw jlen
  rw [h1.1, h1.2.1, h1.2.2, h3 tk (jT3_at hk)]
/-- a cell comes -/
theorem jRep.add (hR : jRep b ph w H hp) {kd p0 s : Nat} {hp' : List xC} {H' : jH} {ph' : Nat → Nat → Nat} (hkd : jkd kd = true) (hcn : jcn kd = false) (hp0 : p0 ≤ w.2.1) (hph : ph' kd p0 = hp.length) (hsame : ∀ k' p', jD b w k' p' → ph' k' p' = ph k' p') (hdr : ∀ k', jdr k' = true → (k' = kd → p0 = hp.length) → ph' k' = ph k') (hdk : jdr kd = true → p0 = hp.length) (hlen : hp'.length = hp.length + 1)
    (hobj : ∀ c p, c < 12 → jD b w c p → hp'[ph c p]? = some (.inr (c, (List.range (jfn c)).map (jfv ph' H' c p)))) (hrow : ∀ k p t n tk, jrk k = some (t, n, tk) → jD b w k p → hp'[ph k p]? = some (jrw ph' H' k p t n tk))
    (hc1 : kd < 12 → hp'[hp.length]? = some (.inr (kd, (List.range (jfn kd)).map (jfv ph' H' kd p0)))) (hc2 : ∀ t n tk, jrk kd = some (t, n, tk) → hp'[hp.length]? = some (jrw ph' H' kd p0 t n tk)) (h42 : ∀ p, w.1 42 p ∨ (42 = kd ∧ p = p0) → H'.1 42 0 p ≤ 2147483647) :
    jRep b ph' (jwA w kd p0 s) H' hp' ∧ jE b ph w ph' (jwA w kd p0 s) := by
  have hlt := fun {k p} (h : jD b w k p) => hR.lt h
  obtain ⟨r1, r2, r3, r4, r5, r6, r7, r8⟩ := hR
  have hsplit : ∀ {k' p'}, jD b (jwA w kd p0 s) k' p' → (jD b w k' p' ∧ ph' k' p' = ph k' p') ∨ (k' = kd ∧ p' = p0) := fun h => by
    rcases (jD_A hcn).mp h with h | h
    · exact Or.inl ⟨h, hsame _ _ h⟩
    · exact Or.inr h
  refine ⟨⟨fun c p hc hD => ?_, fun k p t n tk hk hD => ?_, fun k1 p1 k2 p2 h1 h2 he => ?_, fun k p hD => ?_, fun k p hk => ?_, ?_, fun p h => h42 p h, ?_, fun k p h => ?_⟩, fun k p h => ⟨(jD_A hcn).mpr (Or.inl h), hsame k p h⟩, fun k p h => ?_, Nat.le_succ _⟩
  · rcases hsplit hD with ⟨h, e⟩ | ⟨rfl, rfl⟩
    · rw [e]; exact hobj c p hc h
    · rw [hph]; exact hc1 hc
  · rcases hsplit hD with ⟨h, e⟩ | ⟨rfl, rfl⟩
    · rw [e]; exact hrow k p t n tk hk h
    · rw [hph]; exact hc2 t n tk hk
  · rcases hsplit h1 with ⟨a, e⟩ | ⟨rfl, rfl⟩
    · rcases hsplit h2 with ⟨a', e'⟩ | ⟨rfl, rfl⟩
      · rw [e, e'] at he
        exact r3 k1 p1 k2 p2 a a' he
      · rw [e, hph] at he
        have := hlt a
        omega
    · rcases hsplit h2 with ⟨a', e'⟩ | ⟨rfl, rfl⟩
      · rw [e', hph] at he
        have := hlt a'
        omega
      · exact ⟨rfl, rfl⟩
  · rcases hsplit hD with ⟨h, e⟩ | ⟨rfl, rfl⟩
    · rw [e]; exact r4 k p h
    · rw [hph, ← r6]; exact r8.1
  · by_cases hkk : k = kd
    · subst hkk
      rw [hdr k hk fun _ => hdk hk]
      exact r5 k p hk
    · rw [hdr k hk fun z => absurd z hkk]
      exact r5 k p hk
  · show w.2.1 + 1 = hp'.length
    rw [hlen, r6]
  · exact Nat.succ_pos _
  · rcases h with h | ⟨rfl, rfl⟩
    · have := r8.2 k p h
      exact ⟨Nat.lt_succ_of_lt this.1, this.2⟩
    · exact ⟨Nat.lt_succ_of_le hp0, hkd⟩
  · rcases hsplit h with ⟨h, e⟩ | ⟨rfl, rfl⟩
    · exact Or.inl h
    · refine Or.inr ?_
      rw [hph, r6]
      exact Nat.le_refl _
/-- tokens that stay -/
def jtkP (b : Bool) (w : jW) : jV → Prop
  | .inl _ => True
  | .inr none => True
  | .inr (some (k, p)) => jdr k = true ∨ jD b w k p
def jstP (b : Bool) (w : jW) (lv : jL) (st : List jV) : Prop := (∀ q ∈ lv, jtkP b w q.2) ∧ ∀ v ∈ st, jtkP b w v
theorem jstP.of (h : jtks b lv st = true) : jstP b w lv st := by
  have one : ∀ v : jV, jtk1 b v = true → jtkP b w v := by
    intro v h1
    rcases v with x | (_ | ⟨k, p⟩)
    · trivial
    · trivial
    · simp only [jtk1, Bool.or_eq_true, Bool.and_eq_true] at h1
      rcases h1 with h1 | h1
      · exact Or.inl h1
      · refine Or.inr ?_
        unfold jD
        rw [h1.1.2]
        exact ⟨h1.1.1, Nat.eq_of_beq_eq_true h1.2⟩
  simp only [jtks, Bool.and_eq_true, List.all_eq_true] at h
  exact ⟨fun q hq => one q.2 (h.1 q hq), fun v hv => one v (h.2 v hv)⟩
theorem jstP_ok {ph ph' : Nat → Nat → Nat} {w' : jW} {H' : jH} {hp' : List xC} (hR : jRep b ph w H hp) (hR' : jRep b ph' w' H' hp') (hE : jE b ph w ph' w') (h : jstP b w lv st) : jml ph' lv = jml ph lv ∧ st.map (jm ph') = st.map (jm ph) := by
  have one : ∀ v : jV, jtkP b w v → jm ph' v = jm ph v := by
    intro v h
    rcases v with x | (_ | ⟨k, p⟩)
    · rfl
    · rfl
    · simp only [jm]
      rcases h with h | h
      · rw [hR.2.2.2.2.1 k p h, hR'.2.2.2.2.1 k p h]
      · rw [(hE.1 k p h).2]
  refine ⟨?_, List.map_congr_left fun v hv => one v (h.2 v hv)⟩
  unfold jml
  exact List.map_congr_left fun v hv => by rw [one _ (h.1 v hv)]
/-- the same but for a new object -/
def jNew (H' H : jH) (c p : Nat) : Prop := (∀ c' j' p', ¬ (c' = c ∧ p' = p) → H'.1 c' j' p' = H.1 c' j' p' ∧ H'.2.1 c' j' p' = H.2.1 c' j' p' ∧ H'.2.2.2.2 c' j' p' = H.2.2.2.2 c' j' p') ∧ (∀ j, H'.1 c j p = 0 ∧ H'.2.1 c j p = none ∧ H'.2.2.2.2 c j p = 0) ∧ H'.2.2.1 = H.2.2.1 ∧ H'.2.2.2.1 = H.2.2.2.1
def jnewH (H : jH) (c p : Nat) : jH := (fun c' j' p' => if c' = c ∧ p' = p then 0 else H.1 c' j' p', fun c' j' p' => if c' = c ∧ p' = p then none else H.2.1 c' j' p', H.2.2.1, H.2.2.2.1, fun c' j' p' => if c' = c ∧ p' = p then 0 else H.2.2.2.2 c' j' p')
theorem jnewH_ok (H : jH) (c p : Nat) : jNew (jnewH H c p) H c p := by
  refine ⟨fun c' j' p' h => ?_, fun j => ?_, rfl, rfl⟩
  · unfold jnewH
    try dsimp only
    rw [if_neg h, if_neg h, if_neg h]
    exact ⟨rfl, rfl, rfl⟩
  · unfold jnewH
    try dsimp only
    rw [if_pos ⟨rfl, rfl⟩, if_pos ⟨rfl, rfl⟩, if_pos ⟨rfl, rfl⟩]
    exact ⟨rfl, rfl, rfl⟩
theorem jdef_ok {c j : Nat} {ty : Nat → FieldType} {H' : jH} {p : Nat} {ph' : Nat → Nat → Nat} (hc : Nat.ble c 10 = true) (hty : xtys[c]? = some ty) (hj : j < jfn c) (h1 : H'.1 c j p = 0 ∧ H'.2.1 c j p = none ∧ H'.2.2.2.2 c j p = 0) (h2 : ∀ k, jdr k = false → jcn k = false → ph' k p = 0) : defaultValue (ty j) = jfv ph' H' c p j := by
  have hc' := Nat.le_of_ble_eq_true hc
  have hex : ∃ z, jft c j = some z := by
    unfold jfn at hj
    unfold jft
    cases hf : jfd[c]? with
    | none => rw [hf] at hj; exact absurd hj (Nat.not_lt_zero _)
    | some l => rw [hf] at hj; exact ⟨_, List.getElem?_eq_getElem hj⟩
  obtain ⟨⟨t, k⟩, hft⟩ := hex
  have h3 := jtok_ok hft
  have hT := jT2_at hft
  unfold jtok at h3
  rw [hty, hft] at h3
  rw [hft] at hT
  unfold jfv
  rw [hft, h1.1, h1.2.1, h1.2.2]
  have dr : ∀ x : FieldType, jtr x = true → defaultValue x = Value.null := fun x hx => by
    unfold jtr at hx
    split at hx
    · rfl
    · rfl
    · cases hx
  match t, k, h3, hT with
  | 0, 0, h3, _ =>
    have h4 : jti (ty j) = true := h3
    show defaultValue (ty j) = Value.int (Int32.ofInt 0)
    unfold jti at h4
    split at h4
    · rename_i e; rw [e]; rfl
    · cases h4
  | 0, k + 1, h3, _ =>
    have h4 : jtb (ty j) = true := h3
    show defaultValue (ty j) = Value.int (Int32.ofInt 0)
    unfold jtb at h4
    split at h4
    · rename_i e; rw [e]; rfl
    · cases h4
  | 1, k, h3, hT =>
    have hT' : (Nat.beq c 11 || (!(jdr k) && !(jcn k))) = true := hT
    have hk : jdr k = false ∧ jcn k = false := by
      simp only [Bool.or_eq_true, Bool.and_eq_true, Bool.not_eq_true'] at hT'
      rcases hT' with hT' | hT'
      · have := Nat.eq_of_beq_eq_true hT'; omega
      · exact hT'
    show defaultValue (ty j) = va_z (ph' k p)
    rw [h2 k hk.1 hk.2]
    exact dr _ h3
  | 2, k, h3, _ =>
    show defaultValue (ty j) = Value.null
    exact dr _ h3
  | t + 3, k, h3, _ =>
    show defaultValue (ty j) = Value.null
    exact dr _ h3
theorem J.nw {ix c : Nat} {z : vw_C} {ty : Nat → FieldType} (hq : xmts[k]? = some q) (hi : xat k pc = some (.new ix, 3)) (hl : xlk xnws q.1 ix = some c) (hz : xcl[c]? = some z) (hty : xtys[c]? = some ty) (hn : z.2.2 = jfn c) (hc : Nat.ble c 10 = true) (hst : jstP b w lv st)
    (hx : ∀ H', jNew H' H c w.2.1 → jwc w → J b d k (jwA w c w.2.1 (jfn c)) (pc + 3, lv, .inr (some (c, w.2.1)) :: st, H') Post) : J b d k w (pc, lv, st, H) Post := by
  intro ph hp hR
  have hwc := hR.2.2.2.2.2.2.2
  have hle := hR.2.2.2.2.2.1
  have hcn := jcn_lo hc
  have hcd : jdr c = true := by
    unfold jdr
    rw [hc]
    rfl
  have hc12 : c < 12 := by have := Nat.le_of_ble_eq_true hc; omega
  have hN := jnewH_ok H c w.2.1
  generalize hph' : (fun k' p' => if p' = w.2.1 ∧ jdr k' = false ∧ jcn k' = false then 0 else ph k' p' : Nat → Nat → Nat) = ph'
  generalize hH' : jnewH H c w.2.1 = H' at hN
  have hdr : ∀ k', jdr k' = true → ph' k' = ph k' := fun k' h => by
    funext p'
    rw [← hph']
    try dsimp only
    rw [if_neg fun z => by rw [h] at z; cases z.2.1]
  have hsame : ∀ k' p', jD b w k' p' → ph' k' p' = ph k' p' := fun k' p' h => by
    rw [← hph']
    try dsimp only
    refine if_neg fun z => ?_
    have := (hwc.2 k' p' ((jD_w z.2.2).mp h)).1
    omega
  have hpc : ph' c w.2.1 = hp.length := by
    rw [hdr c hcd, hR.2.2.2.2.1 c _ hcd, hle]
  have hz0 : ∀ k', jdr k' = false → jcn k' = false → ph' k' w.2.1 = 0 := fun k' h1 h2 => by
    rw [← hph']
    try dsimp only
    rw [if_pos ⟨rfl, h1, h2⟩]
  have hcell : (List.range z.2.2).map (fun j => defaultValue (ty j)) = (List.range (jfn c)).map (jfv ph' H' c w.2.1) := by
    rw [hn]
    exact List.map_congr_left fun j hj => jdef_ok hc hty (List.mem_range.mp hj) (hN.2.1 j) hz0
  have hold : ∀ {k' p'}, jD b w k' p' → ¬ (k' = c ∧ p' = w.2.1) := fun {k' p'} h e => by
    have := (hwc.2 k' p' ((jD_w (by rw [e.1]; exact hcn)).mp h)).1
    omega
  have hadd := hR.add (kd := c) (p0 := w.2.1) (s := jfn c) (hp' := hp ++ [.inr (c, (List.range z.2.2).map fun j => defaultValue (ty j))]) (H' := H') (ph' := ph') (by unfold jkd; rw [hc]; rfl) hcn (Nat.le_refl _) hpc hsame (fun k' h _ => hdr k' h) (fun _ => hle) (by rw [List.length_append]; rfl) ?_ ?_ ?_ ?_ ?_
  · obtain ⟨hR', hE⟩ := hadd
    obtain ⟨o, w2, H2, ph2, hp2, hX, hR2, hE2, hF2, hP⟩ := hx H' hN hwc ph' _ hR'
    have hF : jF b ph w hp (hp ++ [.inr (c, (List.range z.2.2).map fun j => defaultValue (ty j))]) := fun p hp0 _ => List.getElem?_append_left (by rw [← hle]; exact hp0)
    refine ⟨o, w2, H2, ph2, hp2, X.nw hq hi hl hz hty ?_, hR2, hE.trans hE2, jF.trans hE hF hF2, hP⟩
    have hs := jstP_ok hR hR' hE hst
    have e : (pc + 3, jml ph lv, Value.ref hp.length :: st.map (jm ph), hp ++ [.inr (c, (List.range z.2.2).map fun j => defaultValue (ty j))], w.2.2 + z.2.2) = (pc + 3, jml ph' lv, (Sum.inr (some (c, w.2.1)) :: st).map (jm ph'), hp ++ [.inr (c, (List.range z.2.2).map fun j => defaultValue (ty j))], (jwA w c w.2.1 (jfn c)).2.2) := by
      rw [hs.1, List.map_cons, hs.2, hn]
      simp only [jm, hpc]
      rfl
    rw [e]
    exact hX
  · intro c' p' hc' hD
    rw [List.getElem?_append_left (hR.lt hD), hR.1 c' p' hc' hD]
    have e : jfv ph' H' c' p' = jfv ph H c' p' := by
      refine jfv_eq (fun j => hN.1 c' j p' (hold hD)) (fun j k' hft => ?_) hdr
      rw [← hph']
      try dsimp only
      refine if_neg fun z => ?_
      cases hcc : jcn c' with
      | false =>
        have := (hwc.2 c' p' ((jD_w hcc).mp hD)).1
        omega
      | true =>
        have h11 : c' = 11 := by
          unfold jcn at hcc
          simp only [Bool.or_eq_true, Bool.and_eq_true] at hcc
          rcases hcc with h | h
          · exact Nat.eq_of_beq_eq_true h
          · have := Nat.le_of_ble_eq_true h.1; omega
        have hp0 : p' = 0 := by
          unfold jD at hD
          rw [hcc] at hD
          exact hD.2
        have := hwc.1
        omega
    rw [e]
  · intro k' p' t n tk hk hD
    have h12 := (jrk_small hk).2
    rw [List.getElem?_append_left (hR.lt hD), hR.2.1 k' p' t n tk hk hD]
    rw [jrw_eq hk ⟨(hN.1 42 0 p' fun z => by omega).1, by rw [hN.2.2.1], by rw [hN.2.2.2]⟩ hdr]
  · intro _
    rw [List.getElem?_append_right (Nat.le_refl _), Nat.sub_self, hcell]
    rfl
  · intro t n tk hk
    have h12 := (jrk_small hk).2
    omega
  · rintro p (h | ⟨h, _⟩)
    · rw [(hN.1 42 0 p fun z => by omega).1]
      exact hR.2.2.2.2.2.2.1 p h
    · omega
/-- a call of a constructor -/
theorem J.ini {k' ix c p kd : Nat} {q' : xMt} {as rest : List jV} {Q : Option jV → jW → jH → Prop} (hq : xmts[k]? = some q) (hi : xat k pc = some (.invokespecial ix, 3)) (hl : xlk xivs q.1 ix = some (kd, k')) (hkd : kd = 2 ∨ kd = 5) (hq' : xmts[k']? = some q') (htk : jtk (q'.2.2.2.2.2 - 1) st = some (as, .inr (some (c, p)) :: rest)) (hk : Nat.ble 170 k' = false) (hr : Nat.ble rest.length 8 = true) (hw : Nat.ble (as.length + 1) q'.2.2.2.1 = true) (hst : jstP b w lv rest)
    (h1 : J b d k' w (0, jargs 0 (.inr (some (c, p)) :: as), [], H) (jN Q)) (h2 : ∀ v w' H', Q v w' H' → J b (d + 1) k w' (pc + 3, lv, v.toList ++ rest, H') Post) : J b (d + 1) k w (pc, lv, st, H) Post := by
  intro ph hp hR
  obtain ⟨o, w1, H1, ph1, hp1, hX1, hR1, hE1, hF1, v, rfl, hQ⟩ := h1 ph hp hR
  obtain ⟨o2, w2, H2, ph2, hp2, hX2, hR2, hE2, hF2, hP2⟩ := h2 v w1 H1 hQ ph1 hp1 hR1
  refine ⟨o2, w2, H2, ph2, hp2, ?_, hR2, hE1.trans hE2, jF.trans hE1 hF1 hF2, hP2⟩
  have hs := jstP_ok hR hR1 hE1 hst
  have hX1' : X d k' (0, lv_args 0 (.ref (ph c p) :: as.map (jm ph)), [], hp, w.2.2) (.inl (v.map (jm ph1)), hp1, w1.2.2) := by
    have := jargs_ok ph (.inr (some (c, p)) :: as) 0
    simp only [List.map_cons, jm] at this
    rw [this]
    exact hX1
  have e2 : (v.toList ++ rest).map (jm ph1) = (v.map (jm ph1)).toList ++ rest.map (jm ph) := by
    rw [List.map_append, hs.2]
    cases v <;> rfl
  have hX2' : X (d + 1) k (pc + 3, jml ph lv, (v.map (jm ph1)).toList ++ rest.map (jm ph), hp1, w1.2.2) (jmo ph2 o2, hp2, w2.2.2) := by
    rw [← hs.1, ← e2]
    exact hX2
  refine X.ini hq hi hl hkd hq' (jtk_ok ph htk) hk ?_ ?_ ?_ hX1' hX2'
  · rw [jcat_ok]; exact hr
  · have := jcat_ok ph (.inr (some (c, p)) :: as)
    simp only [List.map_cons, jm] at this
    rw [this]
    exact hw
  · have e6 : ¬ (xlk xivs q.1 ix = some (6, 0)) := by
      rw [hl]
      rintro z
      cases z
      omega
    unfold xs9
    split
    · rename_i he _; cases he
      rw [if_neg fun z => e6 z.2.1]
    · rename_i he _; cases he
    · rename_i he _; cases he
    · rfl
/-- Object's own constructor -/
theorem J.obj {ix : Nat} {t : Nat × Nat} (hq : xmts[k]? = some q) (hi : xat k pc = some (.invokespecial ix, 3)) (hl : xlk xivs q.1 ix = some (6, 0)) (hr : Nat.ble st.length 8 = true) (hx : J b d k w (pc + 3, lv, st, H) Post) : J b d k w (pc, lv, .inr (some t) :: st, H) Post := by
  intro ph hp hR
  obtain ⟨o, w', H', ph', hp', hX, h2, h3, h4, h5⟩ := hx ph hp hR
  refine ⟨o, w', H', ph', hp', X.one ?_ hX, h2, h3, h4, h5⟩
  have h1 : xs q.1 q.2.2.2.1 (decide (q.2.1.name = "<init>")) (.invokespecial ix) 3 (pc, jml ph lv, Value.ref (ph t.1 t.2) :: st.map (jm ph), hp, w.2.2) = none := by
    simp only [xs, xs1, xs6, xs5, xs4, xs7, xs8, show ¬ ((3 : Nat) = 1) by decide, if_false]
  have h9 : xs9 q.1 (.invokespecial ix) 3 (Value.ref (ph t.1 t.2) :: st.map (jm ph)) hp = some (st.map (jm ph), hp) := by
    simp only [xs9, hl]
    rw [if_pos ⟨trivial, trivial, by rw [jcat_ok]; exact Nat.le_of_ble_eq_true hr⟩]
  show xst k (pc, jml ph lv, Value.ref (ph t.1 t.2) :: st.map (jm ph), hp, w.2.2) = _
  simp only [xst, hq, hi, h1, h9]
end JN
