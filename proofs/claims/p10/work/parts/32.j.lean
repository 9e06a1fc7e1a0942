section JT
variable {b : Bool} {ph : Nat → Nat → Nat} {w : jW} {H : jH} {hp : List xC}
theorem jcd_ok {k p : Nat} {o : Option Prop} (h : jcd b w k p = some o) (ho : jh o) : jD b w k p := by
  unfold jcd at h
  unfold jD
  split at h
  · rename_i hc
    split at h
    · exact ⟨rfl, rfl⟩
    · cases h
  · rename_i hc
    cases h
    exact ho
theorem jca_ok {o : Option Prop} {Q : Prop} (h : jh (jca o Q)) : jh o ∧ Q := by
  cases o with
  | none => exact ⟨trivial, h⟩
  | some P => exact h
theorem jco_ok {o o' : Option Prop} (h : jh (jco o o')) : jh o ∧ jh o' := by
  cases o with
  | none => exact ⟨trivial, h⟩
  | some P => cases o' with
    | none => exact ⟨h, trivial⟩
    | some Q => exact h
theorem jft_lt {c j : Nat} {z : Nat × Nat} (h : jft c j = some z) : c < 12 ∧ j < jfn c := by
  unfold jft at h
  unfold jfn
  cases hc : jfd[c]? with
  | none => rw [hc] at h; cases h
  | some l =>
    rw [hc] at h
    have h1 : c < jfd.length := (List.getElem?_eq_some_iff.mp hc).1
    have h2 : j < l.length := (List.getElem?_eq_some_iff.mp h).1
    exact ⟨h1, h2⟩
theorem jfs_get {c p j : Nat} (h : j < jfn c) : ((List.range (jfn c)).map (jfv ph H c p))[j]? = some (jfv ph H c p j) := by
  rw [List.getElem?_map, List.getElem?_range h]
  rfl
theorem jrw_inl (ph : Nat → Nat → Nat) (H : jH) (k p t : Nat) (n : Int) (tk : Nat) : ∃ z, jrw ph H k p t n tk = .inl z := by
  unfold jrw
  split <;> exact ⟨_, rfl⟩
theorem jin_ok {x n : Int} (h1 : 0 ≤ x) (h2 : x < n) (hn : n ≤ 2147483647) : xin (Int32.ofInt x) n.toNat = true ∧ ((Int32.ofInt x).toNatClampNeg : Int) = x := by
  have e : (Int32.ofInt x).toInt = x := Int32.toInt_ofInt_of_le (by omega) (by omega)
  have e2 : (Int32.ofInt x).toNatClampNeg = x.toNat := Int32.toNatClampNeg_ofInt_of_le (by omega) (by omega)
  refine ⟨?_, by rw [e2]; omega⟩
  unfold xin
  rw [e2]
  simp only [Bool.not_eq_true', Bool.or_eq_false_iff, decide_eq_false_iff_not]
  refine ⟨fun z => ?_, by omega⟩
  have z1 := Int32.lt_iff_toInt_lt.mp z
  rw [e] at z1
  have : (0 : Int32).toInt = 0 := by decide
  omega
/-- lengths are small -/
def jsmall : Bool := jrt.all fun z => match z with
  | some (_, n, _) => decide (n ≤ 2147483647)
  | none => true
set_option maxRecDepth 10000 in
theorem jsmall_ok : jsmall = true := by decide +kernel
theorem jrk_small {k t tk : Nat} {n : Int} (h : jrk k = some (t, n, tk)) : n ≤ 2147483647 ∧ 12 ≤ k := by
  unfold jrk at h
  split at h
  · rename_i z hz
    cases h
    have h1 := List.all_eq_true.mp jsmall_ok _ (List.mem_of_getElem? hz)
    refine ⟨of_decide_eq_true h1, ?_⟩
    refine Nat.le_of_not_lt fun hlt => ?_
    have : ∀ k, k < 12 → jrt[k]? = some none := by decide
    rw [this k hlt] at hz
    cases hz
  · cases h
theorem jrow_get (hR : jRep b ph w H hp) {k p t tk : Nat} {n : Int} (hk : jrk k = some (t, n, tk)) (hd : jD b w k p) : hp[ph k p]? = some (jrw ph H k p t n tk) := hR.2.1 k p t n tk hk hd
theorem jlen_small (hR : jRep b ph w H hp) {k p t tk : Nat} {n : Int} (hk : jrk k = some (t, n, tk)) (hd : jD b w k p) : jlen H k p n ≤ 2147483647 := by
  unfold jlen
  split
  · rename_i hb
    obtain rfl : k = 42 := Nat.eq_of_beq_eq_true hb
    exact hR.2.2.2.2.2.2.1 p hd
  · exact (jrk_small hk).1
theorem jm_rf (o : Option Nat) (k : Nat) : jm ph (.inr (o.map fun q => (k, q))) = va_rf (o.map (ph k)) := by
  cases o <;> rfl
theorem ja6_ok {oc nL : Nat} {ini : Bool} {i : Instr} {len pc : Nat} {lv : xL} {st st' : List jV} {o : Option Prop} {ks : Nat} (hR : jRep b ph w H hp) (h : ja6 b w oc i len st H = some (o, st')) (ho : jh o) : xs oc nL ini i len (pc, lv, st.map (jm ph), hp, ks) = some (pc + len, lv, st'.map (jm ph), hp, ks) := by
  have hsm : ∀ {k p t tk : Nat} {n : Int}, jrk k = some (t, n, tk) → jD b w k p → jlen H k p n ≤ 2147483647 := fun hk hd => jlen_small hR hk hd
  unfold ja6 at h
  split at h
  · rename_i ix c' p st
    split at h
    · rename_i hl
      split at h
      · rename_i c j hx
        have key : ∀ {o1 : Option Prop} {v : jV}, Nat.beq c c' = true → jcd b w c p = some o1 → jh o1 → j < jfn c → c < 12 → jfv ph H c p j = jm ph v → xs oc nL ini (.getfield ix) len (pc, lv, (Sum.inr (some (c', p)) :: st : List jV).map (jm ph), hp, ks) = some (pc + len, lv, (v :: st).map (jm ph), hp, ks) := by
          intro o1 v hb hc ho1 hj hc12 hfv
          obtain rfl : c = c' := Nat.eq_of_beq_eq_true hb
          have hcell := hR.1 c p hc12 (jcd_ok hc ho1)
          simp only [xs, xs1, xs6, hl, hx, List.map_cons, jm, hcell, jfs_get hj, hfv, if_true, Option.map_some]
        split at h
        · rename_i hb hc hf; cases h
          have hl2 := jft_lt hf
          exact key hb hc ho hl2.2 hl2.1 (by unfold jfv; rw [hf]; rfl)
        · rename_i k hb hc hf
          split at h
          · rename_i o' hc2; cases h
            have hl2 := jft_lt hf
            have ho2 := jco_ok ho
            have hpos := hR.2.2.2.1 k p (jcd_ok hc2 ho2.2)
            refine key hb hc ho2.1 hl2.2 hl2.1 ?_
            unfold jfv
            rw [hf]
            obtain ⟨a, ha⟩ : ∃ a, ph k p = a + 1 := ⟨ph k p - 1, by omega⟩
            simp only [va_z, jm, ha]
          · cases h
        · rename_i k hb hc hf; cases h
          have hl2 := jft_lt hf
          exact key hb hc ho hl2.2 hl2.1 (by unfold jfv; rw [hf, jm_rf]; rfl)
        · rename_i t k h0 h1 h2 hb hc hf; cases h
          have hl2 := jft_lt hf
          obtain ⟨ho1, hq⟩ := jca_ok ho
          refine key hb hc ho1 hl2.2 hl2.1 ?_
          unfold jfv
          rw [hf]
          obtain ⟨a, ha⟩ : ∃ a, H.2.2.2.2 c j p = a + 1 := ⟨H.2.2.2.2 c j p - 1, by omega⟩
          match t, h0, h1, h2 with
          | 0, h0, _, _ => exact absurd rfl h0
          | 1, _, h1, _ => exact absurd rfl h1
          | 2, _, _, h2 => exact absurd rfl h2
          | t + 3, _, _, _ => simp only [jm, ha]
        · cases h
      · cases h
    · cases h
  · rename_i x k p st
    split at h
    · rename_i hl
      split at h
      · rename_i n tk o1 hk hc; cases h
        obtain ⟨ho1, hx1, hx2⟩ := jca_ok ho
        have hd := jcd_ok hc ho1
        have hcell := jrow_get hR hk hd
        have hin := jin_ok hx1 hx2 (hsm hk hd)
        simp only [jrw] at hcell
        simp only [xs, xs1, xs6, hl, List.map_cons, jm, hcell, hin.1, hin.2, if_true]
      · cases h
    · cases h
  · rename_i x k p st
    split at h
    · rename_i hl
      split at h
      · rename_i n tk o1 hk hc; cases h
        obtain ⟨ho1, hx1, hx2⟩ := jca_ok ho
        have hd := jcd_ok hc ho1
        have hcell := jrow_get hR hk hd
        have hin := jin_ok hx1 hx2 (hsm hk hd)
        simp only [jrw] at hcell
        simp only [xs, xs1, xs6, hl, List.map_cons, jm, hcell, hin.1, hin.2, if_true]
      · cases h
    · cases h
  · rename_i x k p st
    split at h
    · rename_i hl
      split at h
      · rename_i t n tk o1 hk hc; cases h
        obtain ⟨ho1, hx1, hx2⟩ := jca_ok ho
        have hd := jcd_ok hc ho1
        have hcell := jrow_get hR hk hd
        have hin := jin_ok hx1 hx2 (hsm hk hd)
        have ht : t < xovs.length := by
          have : jrt.all (fun z => match z with | some (t + 3, _, _) => decide (t < xovs.length) | _ => true) = true := by decide +kernel
          unfold jrk at hk
          split at hk
          · rename_i z hz
            cases hk
            exact of_decide_eq_true (List.all_eq_true.mp this _ (List.mem_of_getElem? hz))
          · cases hk
        simp only [jrw] at hcell
        simp only [xs, xs1, xs6, hl, List.map_cons, hcell, hin.1, hin.2, jm_rf, ht, and_self, if_true]
        simp only [jm, hcell, hin.1, hin.2, ht, and_self, if_true]
      · cases h
    · cases h
  · rename_i k p st
    split at h
    · rename_i hl
      split at h
      · rename_i n tk o1 hk hc; cases h
        obtain ⟨ho1, hx1, hx2⟩ := jca_ok ho
        have hd := jcd_ok hc ho1
        have hcell := jrow_get hR hk hd
        simp only [jrw] at hcell
        have e : Int32.ofNat (jlen H k p n).toNat = Int32.ofInt (jlen H k p n) := by
          rw [← Int32.ofInt_eq_ofNat]
          congr 1
          omega
        simp only [xs, xs1, xs6, hl, List.map_cons, jm, hcell, e, if_true, show (0 : Nat) < 3 + xovs.length by decide]
      · cases h
    · cases h
  · cases h
/-- a cell is written: the picture afterwards -/
theorem jRep.obj (hR : jRep b ph w H hp) {c p : Nat} {fs' : List Value} {H' : jH} (hc : c < 12) (hD : jD b w c p) (h1 : ∀ c' p', ¬ (c' = c ∧ p' = p) → jfv ph H' c' p' = jfv ph H c' p') (h2 : (List.range (jfn c)).map (jfv ph H' c p) = fs') (h3 : ∀ k p t n tk, jrk k = some (t, n, tk) → jrw ph H' k p t n tk = jrw ph H k p t n tk) (h4 : H'.1 42 0 = H.1 42 0) :
    jRep b ph w H' (hp.set (ph c p) (.inr (c, fs'))) ∧ jF b ph w hp (hp.set (ph c p) (.inr (c, fs'))) := by
  obtain ⟨r1, r2, r3, r4, r5, r6, r7⟩ := hR
  have hcell := r1 c p hc hD
  have hlt : ph c p < hp.length := (List.getElem?_eq_some_iff.mp hcell).1
  refine ⟨⟨fun c' p' hc' hD' => ?_, fun k p' t n tk hk hD' => ?_, r3, r4, r5, by rw [List.length_set]; exact r6, by rw [h4]; exact r7⟩, fun q _ hn => ?_⟩
  · by_cases he : c' = c ∧ p' = p
    · obtain ⟨rfl, rfl⟩ := he
      rw [List.getElem?_set_self hlt, h2]
    · rw [List.getElem?_set_ne (fun z => he (by have := r3 _ _ _ _ hD hD' z; exact ⟨this.1.symm, this.2.symm⟩)), r1 c' p' hc' hD', h1 c' p' he]
  · have hrow := r2 k p' t n tk hk hD'
    rw [List.getElem?_set_ne (fun z => ?_), hrow, h3 k p' t n tk hk]
    rw [z, hrow] at hcell
    obtain ⟨y, hy⟩ := jrw_inl ph H k p' t n tk
    rw [hy] at hcell
    cases hcell
  · rw [List.getElem?_set_ne (hn c p hD)]
theorem jRep.rows (hR : jRep b ph w H hp) {k p t tk : Nat} {n : Int} {z : xC} {H' : jH} (hk : jrk k = some (t, n, tk)) (hD : jD b w k p) (h1 : ∀ c p, c < 12 → jfv ph H' c p = jfv ph H c p) (h2 : jrw ph H' k p t n tk = z) (h3 : ∀ k' p' t n tk, jrk k' = some (t, n, tk) → ¬ (k' = k ∧ p' = p) → jrw ph H' k' p' t n tk = jrw ph H k' p' t n tk) (h4 : H'.1 42 0 = H.1 42 0) :
    jRep b ph w H' (hp.set (ph k p) z) ∧ jF b ph w hp (hp.set (ph k p) z) := by
  obtain ⟨r1, r2, r3, r4, r5, r6, r7⟩ := hR
  have hcell := r2 k p t n tk hk hD
  have hlt : ph k p < hp.length := (List.getElem?_eq_some_iff.mp hcell).1
  refine ⟨⟨fun c' p' hc' hD' => ?_, fun k' p' t' n' tk' hk' hD' => ?_, r3, r4, r5, by rw [List.length_set]; exact r6, by rw [h4]; exact r7⟩, fun q _ hn => ?_⟩
  · have hob := r1 c' p' hc' hD'
    rw [List.getElem?_set_ne (fun z => ?_), hob, h1 c' p' hc']
    rw [z, hob] at hcell
    obtain ⟨y, hy⟩ := jrw_inl ph H k p t n tk
    rw [hy] at hcell
    cases hcell
  · by_cases he : k' = k ∧ p' = p
    · obtain ⟨rfl, rfl⟩ := he
      rw [hk] at hk'
      cases hk'
      rw [List.getElem?_set_self hlt, h2]
    · rw [List.getElem?_set_ne (fun z => he (by have := r3 _ _ _ _ hD hD' z; exact ⟨this.1.symm, this.2.symm⟩)), r2 k' p' t' n' tk' hk' hD', h3 k' p' t' n' tk' hk' he]
  · rw [List.getElem?_set_ne (hn k p hD)]
theorem jupF_ne {α : Type} {F : Nat → Nat → Nat → α} {c j p c' j' p' : Nat} {x : α} (h : ¬ (c' = c ∧ j' = j ∧ p' = p)) : jupF F c j p x c' j' p' = F c' j' p' := by
  unfold jupF
  split
  · rfl
  · rename_i h1
    split
    · rfl
    · rename_i h2
      rw [if_neg fun h3 => h ⟨Nat.eq_of_beq_eq_true h1, Nat.eq_of_beq_eq_true h2, h3⟩]
theorem jupF_eq {α : Type} {F : Nat → Nat → Nat → α} {c j p : Nat} {x : α} : jupF F c j p x c j p = x := by
  unfold jupF
  rw [Nat.beq_refl, Nat.beq_refl]
  simp
theorem jsetR_ne {α : Type} {R : Nat → Nat → Int → α} {k p k' p' : Nat} {g : Int → α} (h : ¬ (k' = k ∧ p' = p)) : jsetR R k p g k' p' = R k' p' := by
  unfold jsetR
  split
  · rfl
  · rename_i h1
    rw [if_neg fun h3 => h ⟨Nat.eq_of_beq_eq_true h1, h3⟩]
theorem jsetR_eq {α : Type} {R : Nat → Nat → Int → α} {k p : Nat} {g : Int → α} : jsetR R k p g k p = g := by
  unfold jsetR
  rw [Nat.beq_refl]
  simp
theorem jsetR_set {α : Type} {R : Nat → Nat → Int → α} {k p : Nat} {g g' : Int → α} : jsetR (jsetR R k p g) k p g' = jsetR R k p g' := by
  funext k' p'
  by_cases h : k' = k ∧ p' = p
  · obtain ⟨rfl, rfl⟩ := h
    rw [jsetR_eq, jsetR_eq]
  · rw [jsetR_ne h, jsetR_ne h, jsetR_ne h]
theorem jsetR_self {α : Type} {R : Nat → Nat → Int → α} {k p : Nat} : jsetR R k p (R k p) = R := by
  funext k' p'
  by_cases h : k' = k ∧ p' = p
  · obtain ⟨rfl, rfl⟩ := h
    rw [jsetR_eq]
  · rw [jsetR_ne h]
end JT
