/-! the class: what is there, and of which kind -/
section CT
def cid (l : List (Nat × (Int × Int))) (i : Nat) (x : Int) : Prop := match l.lookup i with
  | some (lo, hi) => lo ≤ x ∧ x ≤ hi
  | none => True
/-- ranges of fields: 100 c + j -/
def cvt : List (Nat × (Int × Int)) := [(0, (0, 299)), (1, (0, 299)), (201, (-2147483648, 2147483647)), (202, (-2147483648, 2147483647)), (203, (0, 31)), (207, (-2147483648, 2147483647)), (208, (-2147483648, 2147483647)), (301, (1, 300)), (303, (0, 1500)), (401, (0, 96)), (500, (0, 5999)), (502, (0, 15)), (503, (0, 120)), (504, (0, 31)), (505, (-2147483648, 2147483647)), (506, (-2147483648, 2147483647)), (600, (0, 15)), (602, (0, 31)), (606, (-2147483648, 2147483647)), (607, (-2147483648, 2147483647)), (608, (0, 1)), (609, (0, 1)), (610, (0, 1)), (611, (0, 1)), (704, (0, 6000)), (804, (0, 96)), (808, (0, 32)), (900, (0, 4)), (901, (0, 199)), (902, (-1, 199)), (904, (-1, 15)), (4200, (0, 12))]
/-- ranges of rows -/
def crt : List (Nat × (Int × Int)) := [(23, (0, 1499)), (34, (0, 15)), (36, (0, 199)), (42, (0, 1499))]
abbrev cvi (c j : Nat) (x : Int) : Prop := cid cvt (100 * c + j) x
abbrev cri (k : Nat) (x : Int) : Prop := cid crt k x
abbrev cP : Type := Nat → Nat → Prop
abbrev cG : Type := Nat × Nat × Nat × Nat
def cT (T : cP) (w : jW) (H : jH) : Prop :=
  (∀ k p, T k p → w.1 k p ∧ 0 < p) ∧ (∀ c j k p, jft c j = some (1, k) → T c p → T k p) ∧
  (∀ c j k p q, jft c j = some (2, k) → T c p → H.2.1 c j p = some q → T k q) ∧
  (∀ c j k p, jft c j = some (3, k) → T c p → 0 < H.2.2.2.2 c j p ∧ T k (H.2.2.2.2 c j p)) ∧
  (∀ k t n tk p i q, jrk k = some (t + 3, n, tk) → T k p → H.2.2.2.1 k p i = some q → T tk q) ∧
  (∀ c j p, j < 100 → T c p → cvi c j (H.1 c j p)) ∧ (∀ k p i, T k p → cri k (H.2.2.1 k p i))
/-- what hangs together: places of the one object, ledger, post, client; s MESSAGES, b BLOCKS, t TRANSACTIONS -/
def cR (F : cG) (s b t : Int) (T : cP) (H : jH) : Prop :=
  (T 10 F.1 ∧ T 3 F.2.1 ∧ T 7 F.2.2.1 ∧ T 1 F.2.2.2) ∧
  ((∀ p, T 10 p → p = F.1) ∧ (∀ p, T 3 p → p = F.2.1) ∧ (∀ p, T 7 p → p = F.2.2.1) ∧ (∀ p, T 1 p → p = F.2.2.2)) ∧
  (∀ p q, T 0 p → H.2.1 0 2 p = some q → H.1 0 1 q < H.1 0 1 p) ∧
  (∀ p, T 0 p → H.1 0 1 p ≤ H.1 0 0 p ∧ H.1 0 0 p < b) ∧
  (∀ p q, T 5 p → H.2.1 5 7 p = some q → H.1 5 0 p < H.1 5 0 q) ∧
  (∀ p, T 5 p → H.1 5 0 p < s) ∧
  (∀ i, 0 ≤ i → i < t → H.2.2.2.1 22 F.2.1 i ≠ none) ∧
  (∀ n, 0 ≤ n → n < 16 → H.2.2.2.1 40 F.1 n ≠ none) ∧
  (∀ p, T 9 p → (H.1 9 0 p = 0 → 0 ≤ H.1 9 2 p) ∧ (1 ≤ H.1 9 0 p → H.1 9 0 p ≤ 3 → 0 ≤ H.1 9 2 p ∧ H.1 9 2 p ≤ 15)) ∧
  (∀ p, T 0 p → H.2.1 0 6 p ≠ some (H.2.2.2.2 3 4 F.2.1))
def cI (F : cG) (s b t : Int) (T : cP) (w : jW) (H : jH) : Prop := cT T w H ∧ cR F s b t T H
abbrev cJ (F : cG) (T : cP) (w : jW) (H : jH) : Prop := cI F (H.1 7 4 F.2.2.1) (H.1 3 1 F.2.1) (H.1 3 3 F.2.1) T w H
/-- all but these is as before, of what was there -/
def cEx (T : cP) (ks : List Nat) (H' H : jH) : Prop :=
  (∀ c j p, T c p → (100 * c + j ∉ ks → H'.1 c j p = H.1 c j p) ∧ (10000 + 100 * c + j ∉ ks → H'.2.1 c j p = H.2.1 c j p) ∧ (20000 + 100 * c + j ∉ ks → H'.2.2.2.2 c j p = H.2.2.2.2 c j p)) ∧
  ∀ k p, T k p → (30000 + k ∉ ks → H'.2.2.1 k p = H.2.2.1 k p) ∧ (40000 + k ∉ ks → H'.2.2.2.1 k p = H.2.2.2.1 k p)
variable {F : cG} {s b t : Int} {T T' : cP} {w w' : jW} {H H' H1 H2 : jH} {ks : List Nat}
theorem cEx.refl : cEx T ks H H := ⟨fun _ _ _ _ => ⟨fun _ => rfl, fun _ => rfl, fun _ => rfl⟩, fun _ _ _ => ⟨fun _ => rfl, fun _ => rfl⟩⟩
theorem cEx.trans {ks' : List Nat} (h : cEx T' ks H2 H1) (h' : cEx T ks' H1 H) (hT : ∀ k p, T k p → T' k p) (hk : (ks.all fun k => ks'.contains k) = true) : cEx T ks' H2 H := by
  have hm : ∀ k, k ∉ ks' → k ∉ ks := fun k h1 h2 => h1 (by
    have h3 := List.all_eq_true.mp hk k h2
    exact List.contains_iff_mem.mp h3)
  refine ⟨fun c j p ht => ?_, fun k p ht => ?_⟩
  · have a := h.1 c j p (hT _ _ ht)
    have a' := h'.1 c j p ht
    exact ⟨fun z => (a.1 (hm _ z)).trans (a'.1 z), fun z => (a.2.1 (hm _ z)).trans (a'.2.1 z), fun z => (a.2.2 (hm _ z)).trans (a'.2.2 z)⟩
  · have a := h.2 k p (hT _ _ ht)
    have a' := h'.2 k p ht
    exact ⟨fun z => (a.1 (hm _ z)).trans (a'.1 z), fun z => (a.2 (hm _ z)).trans (a'.2 z)⟩
theorem cI.v (h : cI F s b t T w H) (c j p : Nat) (ht : T c p) (hj : j < 100 := by decide) : cvi c j (H.1 c j p) := h.1.2.2.2.2.2.1 c j p hj ht
theorem cI.r (h : cI F s b t T w H) (c j k p : Nat) (hf : jft c j = some (1, k)) (ht : T c p) : T k p := h.1.2.1 c j k p hf ht
theorem cI.n (h : cI F s b t T w H) (c j k p : Nat) {q : Nat} (hf : jft c j = some (2, k)) (ht : T c p) (hq : H.2.1 c j p = some q) : T k q := h.1.2.2.1 c j k p q hf ht hq
theorem cI.o (h : cI F s b t T w H) (c j k p : Nat) (hf : jft c j = some (3, k)) (ht : T c p) : 0 < H.2.2.2.2 c j p ∧ T k (H.2.2.2.2 c j p) := h.1.2.2.2.1 c j k p hf ht
theorem cI.a (h : cI F s b t T w H) (k p : Nat) {t' tk q : Nat} {n i : Int} (hf : jrk k = some (t' + 3, n, tk)) (ht : T k p) (hq : H.2.2.2.1 k p i = some q) : T tk q := h.1.2.2.2.2.1 k t' n tk p i q hf ht hq
theorem cI.i (h : cI F s b t T w H) (k p : Nat) (i : Int) (ht : T k p) : cri k (H.2.2.1 k p i) := h.1.2.2.2.2.2.2 k p i ht
theorem cI.is (h : cI F s b t T w H) {k p : Nat} (ht : T k p) : w.1 k p := (h.1.1 k p ht).1
theorem cI.pos (h : cI F s b t T w H) {k p : Nat} (ht : T k p) : 0 < p := (h.1.1 k p ht).2
theorem cI.top (h : cI F s b t T w H) : T 10 F.1 ∧ T 3 F.2.1 ∧ T 7 F.2.2.1 ∧ T 1 F.2.2.2 := h.2.1
theorem cI.one (h : cI F s b t T w H) : (∀ p, T 10 p → p = F.1) ∧ (∀ p, T 3 p → p = F.2.1) ∧ (∀ p, T 7 p → p = F.2.2.1) ∧ (∀ p, T 1 p → p = F.2.2.2) := h.2.2.1
theorem cI.up (h : cI F s b t T w H) {p q : Nat} (ht : T 0 p) (hq : H.2.1 0 2 p = some q) : H.1 0 1 q < H.1 0 1 p := h.2.2.2.1 p q ht hq
theorem cI.nx (h : cI F s b t T w H) {p q : Nat} (ht : T 5 p) (hq : H.2.1 5 7 p = some q) : H.1 5 0 p < H.1 5 0 q := h.2.2.2.2.2.1 p q ht hq
theorem cI.tr (h : cI F s b t T w H) {i : Int} (h0 : 0 ≤ i) (h1 : i < t) : H.2.2.2.1 22 F.2.1 i ≠ none := h.2.2.2.2.2.2.2.1 i h0 h1
theorem cI.nd (h : cI F s b t T w H) {n : Int} (h0 : 0 ≤ n) (h1 : n < 16) : H.2.2.2.1 40 F.1 n ≠ none := h.2.2.2.2.2.2.2.2.1 n h0 h1
theorem cI.tx (h : cI F s b t T w H) {p : Nat} (ht : T 9 p) : (H.1 9 0 p = 0 → 0 ≤ H.1 9 2 p) ∧ (1 ≤ H.1 9 0 p → H.1 9 0 p ≤ 3 → 0 ≤ H.1 9 2 p ∧ H.1 9 2 p ≤ 15) := h.2.2.2.2.2.2.2.2.2.1 p ht
theorem cI.st (h : cI F s b t T w H) {p : Nat} (ht : T 0 p) : H.2.1 0 6 p ≠ some (H.2.2.2.2 3 4 F.2.1) := h.2.2.2.2.2.2.2.2.2.2 p ht
theorem cI.ms (h : cI F s b t T w H) {p : Nat} (ht : T 5 p) : H.1 5 0 p < s := h.2.2.2.2.2.2.1 p ht
theorem cI.bl (h : cI F s b t T w H) {p : Nat} (ht : T 0 p) : H.1 0 1 p ≤ H.1 0 0 p ∧ H.1 0 0 p < b := h.2.2.2.2.1 p ht
/-- nothing that was there is touched -/
theorem cI.same (h : cI F s b t T w H) (hs : cEx T [] H' H) (hw : ∀ k p, w.1 k p → w'.1 k p) : cI F s b t T w' H' := by
  obtain ⟨⟨t1, t2, t3, t4, t5, t6, t7⟩, r0, r1, r2, r3, r4, r5, r6, r7, r8, r9⟩ := h
  have n : ∀ i : Nat, i ∉ ([] : List Nat) := fun i z => nomatch z
  have e1 : ∀ {c p}, T c p → ∀ j, H'.1 c j p = H.1 c j p := fun ht j => (hs.1 _ j _ ht).1 (n _)
  have e2 : ∀ {c p}, T c p → ∀ j, H'.2.1 c j p = H.2.1 c j p := fun ht j => (hs.1 _ j _ ht).2.1 (n _)
  have e3 : ∀ {c p}, T c p → ∀ j, H'.2.2.2.2 c j p = H.2.2.2.2 c j p := fun ht j => (hs.1 _ j _ ht).2.2 (n _)
  have e4 : ∀ {k p}, T k p → H'.2.2.1 k p = H.2.2.1 k p := fun ht => (hs.2 _ _ ht).1 (n _)
  have e5 : ∀ {k p}, T k p → H'.2.2.2.1 k p = H.2.2.2.1 k p := fun ht => (hs.2 _ _ ht).2 (n _)
  have x22 : T 22 F.2.1 := t2 3 2 22 _ rfl r0.2.1
  have x40 : T 40 F.1 := t2 10 2 40 _ rfl r0.1
  refine ⟨⟨fun k p ht => ⟨hw _ _ (t1 k p ht).1, (t1 k p ht).2⟩, t2, fun c j k p q hf ht hq => t3 c j k p q hf ht (by rw [← e2 ht]; exact hq), fun c j k p hf ht => by rw [e3 ht]; exact t4 c j k p hf ht, fun k t n tk p i q hf ht hq => t5 k t n tk p i q hf ht (by rw [← e5 ht]; exact hq), fun c j p hj ht => by rw [e1 ht]; exact t6 c j p hj ht, fun k p i ht => by rw [e4 ht]; exact t7 k p i ht⟩,
    r0, r1, fun p q ht hq => ?_, fun p ht => by rw [e1 ht, e1 ht]; exact r3 p ht, fun p q ht hq => ?_, fun p ht => by rw [e1 ht]; exact r5 p ht, fun i h0 h1 => by rw [e5 x22]; exact r6 i h0 h1, fun i h0 h1 => by rw [e5 x40]; exact r7 i h0 h1, fun p ht => by rw [e1 ht, e1 ht]; exact r8 p ht, fun p ht => by rw [e2 ht, e3 r0.2.1]; exact r9 p ht⟩
  · rw [e2 ht] at hq
    have hq' := t3 0 2 0 p q rfl ht hq
    rw [e1 ht, e1 hq']
    exact r2 p q ht hq
  · rw [e2 ht] at hq
    have hq' := t3 5 7 5 p q rfl ht hq
    rw [e1 ht, e1 hq']
    exact r4 p q ht hq
theorem cJ.same (h : cJ F T w H) (hs : cEx T [] H' H) (hw : ∀ k p, w.1 k p → w'.1 k p) : cJ F T w' H' := by
  have n : ∀ i : Nat, i ∉ ([] : List Nat) := fun i z => nomatch z
  have h1 := cI.same h hs hw
  show cI F (H'.1 7 4 F.2.2.1) (H'.1 3 1 F.2.1) (H'.1 3 3 F.2.1) T w' H'
  rw [(hs.1 7 4 _ h.2.1.2.2.1).1 (n _), (hs.1 3 1 _ h.2.1.2.1).1 (n _), (hs.1 3 3 _ h.2.1.2.1).1 (n _)]
  exact h1
theorem jupF_id {α : Type} {G : Nat → Nat → Nat → α} {c j p c' j' : Nat} {x : α} (h : 100 * c' + j' ≠ 100 * c + j) : jupF G c j p x c' j' = G c' j' := by
  funext p'
  exact jupF_ne fun z => h (by rw [z.1, z.2.1])
def cfree (i : Nat) : Bool := !([0, 1, 500, 900, 902].contains i)
theorem cfree_ne {i i' : Nat} (h : cfree i = true) (h' : ([0, 1, 500, 900, 902].contains i') = true) : i' ≠ i := fun z => by
  subst z
  unfold cfree at h
  rw [h'] at h
  cases h
/-- a number is written -/
theorem cI.wi {c j p : Nat} {x : Int} (h : cI F s b t T w H) (hx : cvi c j x) (hf : cfree (100 * c + j) = true) : cI F s b t T w (jupF H.1 c j p x, H.2) := by
  obtain ⟨⟨t1, t2, t3, t4, t5, t6, t7⟩, r⟩ := h
  have e : ∀ c' j', ([0, 1, 500, 900, 902].contains (100 * c' + j')) = true → jupF H.1 c j p x c' j' = H.1 c' j' := fun c' j' h' => jupF_id (cfree_ne hf h')
  refine ⟨⟨t1, t2, t3, t4, t5, fun c' j' p' hj ht => ?_, t7⟩, ?_⟩
  · show cvi c' j' (jupF H.1 c j p x c' j' p')
    by_cases hc : c' = c ∧ j' = j ∧ p' = p
    · obtain ⟨rfl, rfl, rfl⟩ := hc
      rw [jupF_eq]; exact hx
    · rw [jupF_ne hc]; exact t6 c' j' p' hj ht
  · unfold cR at r ⊢
    try dsimp only
    rw [e 0 0 rfl, e 0 1 rfl, e 5 0 rfl, e 9 0 rfl, e 9 2 rfl]
    exact r
theorem cJ.wi {c j p : Nat} {x : Int} (h : cJ F T w H) (hx : cvi c j x) (hf : cfree (100 * c + j) = true) (h3 : ([704, 301, 303].contains (100 * c + j)) = false) : cJ F T w (jupF H.1 c j p x, H.2) := by
  have h1 := cI.wi (p := p) h hx hf
  have e : ∀ c' j', ([704, 301, 303].contains (100 * c' + j')) = true → jupF H.1 c j p x c' j' = H.1 c' j' := fun c' j' h' => jupF_id fun z => by rw [z, h3] at h'; cases h'
  show cI F (jupF H.1 c j p x 7 4 F.2.2.1) (jupF H.1 c j p x 3 1 F.2.1) (jupF H.1 c j p x 3 3 F.2.1) T w _
  rw [e 7 4 rfl, e 3 1 rfl, e 3 3 rfl]
  exact h1
/-- a reference that may be null is written -/
theorem cI.wr {c j k p : Nat} {x : Option Nat} (h : cI F s b t T w H) (hf : jft c j = some (2, k)) (hx : ∀ q, x = some q → T k q) (hc : 100 * c + j ≠ 2 ∧ 100 * c + j ≠ 6 ∧ 100 * c + j ≠ 507) : cI F s b t T w (H.1, jupF H.2.1 c j p x, H.2.2) := by
  obtain ⟨⟨t1, t2, t3, t4, t5, t6, t7⟩, r⟩ := h
  have e : ∀ c' j', 100 * c' + j' ≠ 100 * c + j → jupF H.2.1 c j p x c' j' = H.2.1 c' j' := fun c' j' h' => jupF_id h'
  refine ⟨⟨t1, t2, fun c' j' k' p' q hf' ht hq => ?_, t4, t5, t6, t7⟩, ?_⟩
  · have hq : jupF H.2.1 c j p x c' j' p' = some q := hq
    by_cases hc : c' = c ∧ j' = j ∧ p' = p
    · obtain ⟨rfl, rfl, rfl⟩ := hc
      rw [jupF_eq] at hq
      rw [hf] at hf'
      cases hf'
      exact hx q hq
    · rw [jupF_ne hc] at hq; exact t3 c' j' k' p' q hf' ht hq
  · unfold cR at r ⊢
    try dsimp only
    rw [e 0 2 (fun z => hc.1 z.symm), e 0 6 (fun z => hc.2.1 z.symm), e 5 7 (fun z => hc.2.2 z.symm)]
    exact r
theorem cJ.wr {c j k p : Nat} {x : Option Nat} (h : cJ F T w H) (hf : jft c j = some (2, k)) (hx : ∀ q, x = some q → T k q) (hc : 100 * c + j ≠ 2 ∧ 100 * c + j ≠ 6 ∧ 100 * c + j ≠ 507) : cJ F T w (H.1, jupF H.2.1 c j p x, H.2.2) := cI.wr h hf hx hc
/-- a reference that is never null is written -/
theorem cI.wo {c j k p q : Nat} (h : cI F s b t T w H) (hf : jft c j = some (3, k)) (hq : 0 < q ∧ T k q) (hc : 100 * c + j ≠ 304) : cI F s b t T w (H.1, H.2.1, H.2.2.1, H.2.2.2.1, jupF H.2.2.2.2 c j p q) := by
  obtain ⟨⟨t1, t2, t3, t4, t5, t6, t7⟩, r⟩ := h
  refine ⟨⟨t1, t2, t3, fun c' j' k' p' hf' ht => ?_, t5, t6, t7⟩, ?_⟩
  · show 0 < jupF H.2.2.2.2 c j p q c' j' p' ∧ T k' (jupF H.2.2.2.2 c j p q c' j' p')
    by_cases hc : c' = c ∧ j' = j ∧ p' = p
    · obtain ⟨rfl, rfl, rfl⟩ := hc
      rw [jupF_eq]
      rw [hf] at hf'
      cases hf'
      exact hq
    · rw [jupF_ne hc]; exact t4 c' j' k' p' hf' ht
  · unfold cR at r ⊢
    try dsimp only
    rw [jupF_id (c' := 3) (j' := 4) fun z => hc z.symm]
    exact r
theorem cJ.wo {c j k p q : Nat} (h : cJ F T w H) (hf : jft c j = some (3, k)) (hq : 0 < q ∧ T k q) (hc : 100 * c + j ≠ 304) : cJ F T w (H.1, H.2.1, H.2.2.1, H.2.2.2.1, jupF H.2.2.2.2 c j p q) := cI.wo h hf hq hc
/-- a row's number is written -/
theorem cI.wR {k p : Nat} {g : Int → Int} (h : cI F s b t T w H) (hg : ∀ i, cri k (g i)) : cI F s b t T w (H.1, H.2.1, jsetR H.2.2.1 k p g, H.2.2.2) := by
  obtain ⟨⟨t1, t2, t3, t4, t5, t6, t7⟩, r⟩ := h
  refine ⟨⟨t1, t2, t3, t4, t5, t6, fun k' p' i ht => ?_⟩, r⟩
  show cri k' (jsetR H.2.2.1 k p g k' p' i)
  by_cases hk : k' = k ∧ p' = p
  · obtain ⟨rfl, rfl⟩ := hk
    rw [jsetR_eq]; exact hg i
  · rw [jsetR_ne hk]; exact t7 k' p' i ht
theorem cI.wRj {k p : Nat} {i x : Int} (h : cI F s b t T w H) (ht : T k p) (hx : cri k x) : cI F s b t T w (H.1, H.2.1, jsetR H.2.2.1 k p (jup (H.2.2.1 k p) i x), H.2.2.2) := cI.wR h fun i' => by
  unfold jup
  by_cases hi : i' = i
  · rw [if_pos hi]; exact hx
  · rw [if_neg hi]; exact h.i k p i' ht
/-- a row's reference is written -/
theorem cI.wB {k p : Nat} {t' tk : Nat} {n i : Int} {x : Option Nat} (h : cI F s b t T w H) (hf : jrk k = some (t' + 3, n, tk)) (ht : T k p) (hx : ∀ q, x = some q → T tk q) (hk : (k ≠ 22 ∧ k ≠ 40) ∨ x ≠ none) : cI F s b t T w (H.1, H.2.1, H.2.2.1, jsetR H.2.2.2.1 k p (jup (H.2.2.2.1 k p) i x), H.2.2.2.2) := by
  obtain ⟨⟨t1, t2, t3, t4, t5, t6, t7⟩, r⟩ := h
  have key : ∀ k' p' i', H.2.2.2.1 k' p' i' ≠ none → (k' = 22 ∨ k' = 40) → jsetR H.2.2.2.1 k p (jup (H.2.2.2.1 k p) i x) k' p' i' ≠ none := by
    intro k' p' i' hn hk'
    by_cases hkk : k' = k ∧ p' = p
    · obtain ⟨rfl, rfl⟩ := hkk
      rw [jsetR_eq]
      unfold jup
      by_cases hi : i' = i
      · rw [if_pos hi]
        rcases hk with hk | hk
        · rcases hk' with h9 | h9
          · exact absurd h9 hk.1
          · exact absurd h9 hk.2
        · exact hk
      · rw [if_neg hi]; exact hn
    · rw [jsetR_ne hkk]; exact hn
  refine ⟨⟨t1, t2, t3, t4, fun k' t' n' tk' p' i' q hf' ht' hq => ?_, t6, t7⟩, ?_⟩
  · have hq : jsetR H.2.2.2.1 k p (jup (H.2.2.2.1 k p) i x) k' p' i' = some q := hq
    by_cases hkk : k' = k ∧ p' = p
    · obtain ⟨rfl, rfl⟩ := hkk
      rw [jsetR_eq] at hq
      rw [hf] at hf'
      cases hf'
      unfold jup at hq
      by_cases hi : i' = i
      · rw [if_pos hi] at hq; exact hx q hq
      · rw [if_neg hi] at hq; exact t5 _ _ _ _ _ _ _ hf ht hq
    · rw [jsetR_ne hkk] at hq; exact t5 _ _ _ _ _ _ _ hf' ht' hq
  · obtain ⟨r0, r1, r2, r3, r4, r5, r6, r7, r8, r9⟩ := r
    exact ⟨r0, r1, r2, r3, r4, r5, fun i' h0 h1 => key _ _ _ (r6 i' h0 h1) (Or.inl rfl), fun i' h0 h1 => key _ _ _ (r7 i' h0 h1) (Or.inr rfl), r8, r9⟩
/-- frames of writes -/
theorem cEx.wi {c j p : Nat} {x : Int} (h : cEx T ks H1 H) (hk : 100 * c + j ∈ ks) : cEx T ks (jupF H1.1 c j p x, H1.2) H :=
  ⟨fun c' j' p' ht => ⟨fun z => (show jupF H1.1 c j p x c' j' p' = _ from jupF_ne fun e => z (by rw [e.1, e.2.1]; exact hk)).trans ((h.1 c' j' p' ht).1 z), (h.1 c' j' p' ht).2⟩, h.2⟩
theorem cEx.wr {c j p : Nat} {x : Option Nat} (h : cEx T ks H1 H) (hk : 10000 + 100 * c + j ∈ ks) : cEx T ks (H1.1, jupF H1.2.1 c j p x, H1.2.2) H :=
  ⟨fun c' j' p' ht => ⟨(h.1 c' j' p' ht).1, fun z => (show jupF H1.2.1 c j p x c' j' p' = _ from jupF_ne fun e => z (by rw [e.1, e.2.1]; exact hk)).trans ((h.1 c' j' p' ht).2.1 z), (h.1 c' j' p' ht).2.2⟩, h.2⟩
theorem cEx.wo {c j p q : Nat} (h : cEx T ks H1 H) (hk : 20000 + 100 * c + j ∈ ks) : cEx T ks (H1.1, H1.2.1, H1.2.2.1, H1.2.2.2.1, jupF H1.2.2.2.2 c j p q) H :=
  ⟨fun c' j' p' ht => ⟨(h.1 c' j' p' ht).1, (h.1 c' j' p' ht).2.1, fun z => (show jupF H1.2.2.2.2 c j p q c' j' p' = _ from jupF_ne fun e => z (by rw [e.1, e.2.1]; exact hk)).trans ((h.1 c' j' p' ht).2.2 z)⟩, h.2⟩
theorem cEx.wR {k p : Nat} {g : Int → Int} (h : cEx T ks H1 H) (hk : 30000 + k ∈ ks) : cEx T ks (H1.1, H1.2.1, jsetR H1.2.2.1 k p g, H1.2.2.2) H :=
  ⟨h.1, fun k' p' ht => ⟨fun z => (show jsetR H1.2.2.1 k p g k' p' = _ from jsetR_ne fun e => z (by rw [e.1]; exact hk)).trans ((h.2 k' p' ht).1 z), (h.2 k' p' ht).2⟩⟩
theorem cEx.wB {k p : Nat} {g : Int → Option Nat} (h : cEx T ks H1 H) (hk : 40000 + k ∈ ks) : cEx T ks (H1.1, H1.2.1, H1.2.2.1, jsetR H1.2.2.2.1 k p g, H1.2.2.2.2) H :=
  ⟨h.1, fun k' p' ht => ⟨(h.2 k' p' ht).1, fun z => (show jsetR H1.2.2.2.1 k p g k' p' = _ from jsetR_ne fun e => z (by rw [e.1]; exact hk)).trans ((h.2 k' p' ht).2 z)⟩⟩
/-- of what was not there anything may be written -/
theorem cEx.oi {c j p : Nat} {x : Int} (h : cEx T ks H1 H) (hn : ¬ T c p) : cEx T ks (jupF H1.1 c j p x, H1.2) H :=
  ⟨fun c' j' p' ht => ⟨fun z => (show jupF H1.1 c j p x c' j' p' = _ from jupF_ne fun e => hn (by rw [← e.1, ← e.2.2]; exact ht)).trans ((h.1 c' j' p' ht).1 z), (h.1 c' j' p' ht).2⟩, h.2⟩
theorem cEx.or {c j p : Nat} {x : Option Nat} (h : cEx T ks H1 H) (hn : ¬ T c p) : cEx T ks (H1.1, jupF H1.2.1 c j p x, H1.2.2) H :=
  ⟨fun c' j' p' ht => ⟨(h.1 c' j' p' ht).1, fun z => (show jupF H1.2.1 c j p x c' j' p' = _ from jupF_ne fun e => hn (by rw [← e.1, ← e.2.2]; exact ht)).trans ((h.1 c' j' p' ht).2.1 z), (h.1 c' j' p' ht).2.2⟩, h.2⟩
theorem cEx.oo {c j p q : Nat} (h : cEx T ks H1 H) (hn : ¬ T c p) : cEx T ks (H1.1, H1.2.1, H1.2.2.1, H1.2.2.2.1, jupF H1.2.2.2.2 c j p q) H :=
  ⟨fun c' j' p' ht => ⟨(h.1 c' j' p' ht).1, (h.1 c' j' p' ht).2.1, fun z => (show jupF H1.2.2.2.2 c j p q c' j' p' = _ from jupF_ne fun e => hn (by rw [← e.1, ← e.2.2]; exact ht)).trans ((h.1 c' j' p' ht).2.2 z)⟩, h.2⟩
theorem cEx.oR {k p : Nat} {g : Int → Int} (h : cEx T ks H1 H) (hn : ¬ T k p) : cEx T ks (H1.1, H1.2.1, jsetR H1.2.2.1 k p g, H1.2.2.2) H :=
  ⟨h.1, fun k' p' ht => ⟨fun z => (show jsetR H1.2.2.1 k p g k' p' = _ from jsetR_ne fun e => hn (by rw [← e.1, ← e.2]; exact ht)).trans ((h.2 k' p' ht).1 z), (h.2 k' p' ht).2⟩⟩
theorem cEx.nw {c p : Nat} (h : cEx T ks H1 H) (hN : jNew H2 H1 c p) (hn : ¬ T c p) : cEx T ks H2 H :=
  ⟨fun c' j' p' ht => by
    have h9 := hN.1 c' j' p' fun e => hn (by rw [← e.1, ← e.2]; exact ht)
    have a := h.1 c' j' p' ht
    exact ⟨fun z => h9.1.trans (a.1 z), fun z => h9.2.1.trans (a.2.1 z), fun z => h9.2.2.trans (a.2.2 z)⟩,
   fun k' p' ht => ⟨fun z => (congrFun (congrFun hN.2.2.1 k') p').trans ((h.2 k' p' ht).1 z), fun z => (congrFun (congrFun hN.2.2.2 k') p').trans ((h.2 k' p' ht).2 z)⟩⟩
/-- whether a NODE is FAULTY -/
def cfl (F : cG) (H : jH) (i : Int) : Int := match H.2.2.2.1 40 F.1 i with
  | some q => H.1 6 10 q
  | none => 0
def cnd (F : cG) (H : jH) (i : Int) : Option Nat := H.2.2.2.1 40 F.1 i
/-- ints as they lie in the machine -/
def jn (x : Int) : Int := (Int32.ofInt x).toInt
theorem jn_r (x : Int) : -2147483648 ≤ jn x ∧ jn x ≤ 2147483647 := jI32 _
theorem jn_of {x : Int} (h : -2147483648 ≤ x ∧ x ≤ 2147483647) : jn x = x := Int32.toInt_ofInt_of_le (by have := h.1; omega) (by have := h.2; omega)
theorem J.st {bb : Bool} {d k pc : Nat} {lv : jL} {st st' : List jV} {Post : jO → jW → jH → Prop} (h : ∀ ph, st.map (jm ph) = st'.map (jm ph)) (hx : J bb d k w (pc, lv, st', H) Post) : J bb d k w (pc, lv, st, H) Post := by
  intro ph hp hR
  have h1 := hx ph hp hR
  dsimp only at h1 ⊢
  rw [h ph]
  exact h1
theorem jm_jn (ph : Nat → Nat → Nat) (x : Int) : jm ph (.inl (jn x)) = jm ph (.inl x) := by
  show Value.int (Int32.ofInt (jn x)) = Value.int (Int32.ofInt x)
  unfold jn
  rw [Int32.ofInt_toInt]
theorem J.icmpN {bb : Bool} {d k pc : Nat} {q : xMt} {lv : jL} {st : List jV} {Post : jO → jW → jH → Prop} {cd : ClassFile.Cond} {off : Int} {x y : Int} {t : Nat} (hq : xmts[k]? = some q) (hi : xat k pc = some (.if_icmp cd off, 3)) (hj : xj pc off = some t) (hT : jcmp cd (jn x) (jn y) → J bb d k w (t, lv, st, H) Post) (hF : ¬ jcmp cd (jn x) (jn y) → J bb d k w (pc + 3, lv, st, H) Post) : J bb d k w (pc, lv, .inl y :: .inl x :: st, H) Post :=
  J.st (st' := .inl (jn y) :: .inl (jn x) :: st) (fun ph => by rw [List.map_cons, List.map_cons, List.map_cons, List.map_cons, jm_jn, jm_jn]) (J.icmp hq hi hj ⟨jn_r x, jn_r y⟩ hT hF)
theorem J.ifcN {bb : Bool} {d k pc : Nat} {q : xMt} {lv : jL} {st : List jV} {Post : jO → jW → jH → Prop} {cd : ClassFile.Cond} {off : Int} {x : Int} {t : Nat} (hq : xmts[k]? = some q) (hi : xat k pc = some (.ifCond cd off, 3)) (hj : xj pc off = some t) (hT : jcmp cd (jn x) 0 → J bb d k w (t, lv, st, H) Post) (hF : ¬ jcmp cd (jn x) 0 → J bb d k w (pc + 3, lv, st, H) Post) : J bb d k w (pc, lv, .inl x :: st, H) Post :=
  J.st (st' := .inl (jn x) :: st) (fun ph => by rw [List.map_cons, List.map_cons, jm_jn]) (J.ifc hq hi hj (jn_r x) hT hF)
theorem J.idivN {bb : Bool} {d k pc : Nat} {q : xMt} {lv : jL} {st : List jV} {Post : jO → jW → jH → Prop} {x y : Int} (hq : xmts[k]? = some q) (hi : xat k pc = some (.idiv, 1)) (hy : jn y ≠ 0) (hx : ∀ z, J bb d k w (pc + 1, lv, .inl z :: st, H) Post) : J bb d k w (pc, lv, .inl y :: .inl x :: st, H) Post := by
  intro ph hp hR
  obtain ⟨o', w', H', ph', hp', hX, hR', hE, hF, hP⟩ := hx (Int32.ofInt x / Int32.ofInt y).toInt ph hp hR
  refine ⟨o', w', H', ph', hp', X.one ?_ hX, hR', hE, hF, hP⟩
  have h0 : ¬ Int32.ofInt y = 0 := fun z => hy (by unfold jn; rw [z]; rfl)
  unfold xst
  rw [hq]
  try dsimp only
  rw [hi]
  simp only [xs, xs1, xs6, xs3, xs2, List.map_cons, jm, if_true, if_neg h0, Option.map_some, Int32.ofInt_toInt]
theorem J.iremN {bb : Bool} {d k pc : Nat} {q : xMt} {lv : jL} {st : List jV} {Post : jO → jW → jH → Prop} {x y : Int} (hq : xmts[k]? = some q) (hi : xat k pc = some (.irem, 1)) (hy : jn y ≠ 0) (hx : ∀ z, J bb d k w (pc + 1, lv, .inl z :: st, H) Post) : J bb d k w (pc, lv, .inl y :: .inl x :: st, H) Post := by
  intro ph hp hR
  obtain ⟨o', w', H', ph', hp', hX, hR', hE, hF, hP⟩ := hx (Int32.ofInt x - Int32.ofInt x / Int32.ofInt y * Int32.ofInt y).toInt ph hp hR
  refine ⟨o', w', H', ph', hp', X.one ?_ hX, hR', hE, hF, hP⟩
  have h0 : ¬ Int32.ofInt y = 0 := fun z => hy (by unfold jn; rw [z]; rfl)
  unfold xst
  rw [hq]
  try dsimp only
  rw [hi]
  simp only [xs, xs1, xs6, xs3, xs2, List.map_cons, jm, if_true, if_neg h0, Option.map_some, Int32.ofInt_toInt]
theorem J.maxF {d k pc ix : Nat} {q : xMt} {lv : jL} {x y : Int} {Post : jO → jW → jH → Prop} (hq : xmts[k]? = some q) (hi : xat k pc = some (.invokestatic ix, 3)) (hl : xlk xivs q.1 ix = some (1, 170)) (hx : jR x) (hy : jR y) (h : J false d k w (pc + 3, lv, [.inl (if x < y then y else x)], H) Post) : J false d k w (pc, lv, [.inl y, .inl x], H) Post := by
  intro ph hp hR
  obtain ⟨o', w', H', ph', hp', hX, hR', hE, hF, hP⟩ := h ph hp hR
  refine ⟨o', w', H', ph', hp', X.one ?_ hX, hR', hE, hF, hP⟩
  unfold xst
  rw [hq]
  try dsimp only
  rw [hi]
  try dsimp only
  have h1 : xs q.1 q.2.2.2.1 (decide (q.2.1.name = "<init>")) (.invokestatic ix) 3 (pc, jml ph lv, [Value.int (Int32.ofInt y), Value.int (Int32.ofInt x)], hp, w.2.2) = none := by
    simp only [xs, xs1, xs6, xs5, xs4, xs7, xs8, show ¬ ((3 : Nat) = 1) by decide, if_false]
  have h2 : xs9 q.1 (.invokestatic ix) 3 [Value.int (Int32.ofInt y), Value.int (Int32.ofInt x)] hp = some ([.int (Int32.ofInt (if x < y then y else x))], hp) := by
    simp only [xs9, hl]
    rw [if_pos ⟨trivial, trivial, by decide⟩]
    by_cases hlt : x < y
    · rw [if_pos ((jof_lt hx hy).mpr hlt), if_pos hlt]
    · rw [if_neg (fun z => hlt ((jof_lt hx hy).mp z)), if_neg hlt]
  show (match xs q.1 q.2.2.2.1 (decide (q.2.1.name = "<init>")) (.invokestatic ix) 3 (pc, jml ph lv, [Value.int (Int32.ofInt y), Value.int (Int32.ofInt x)], hp, w.2.2) with | some g' => some g' | none => match xs9 q.1 (.invokestatic ix) 3 [Value.int (Int32.ofInt y), Value.int (Int32.ofInt x)] hp with | some (st, hp) => some (pc + 3, jml ph lv, st, hp, w.2.2) | none => none) = _
  rw [h1, h2]
  rfl
theorem jix5 (x : Int) (h : 0 ≤ x ∧ x < 6000) : 0 ≤ jushr x 5 ∧ jushr x 5 < 188 := by
  obtain ⟨n, hn⟩ : ∃ n : Nat, x = n := ⟨x.toNat, by omega⟩
  subst hn
  have h1 := (jidx (i := n) (by omega)).1
  rw [h1]
  omega
theorem jcpy_r {f g : Int → Int} {k : Nat} {sp dp n : Int} (hf : ∀ i, cri k (f i)) (hg : ∀ i, cri k (g i)) (i : Int) : cri k (jcpy f g sp dp n i) := by
  unfold jcpy
  split
  · exact hf _
  · exact hg _
/-- a MESSAGE gets its next -/
theorem cI.wnx {p q : Nat} (h : cI F s b t T w H) (hq : T 5 q) (hl : H.1 5 0 p < H.1 5 0 q) : cI F s b t T w (H.1, jupF H.2.1 5 7 p (some q), H.2.2) := by
  obtain ⟨⟨t1, t2, t3, t4, t5, t6, t7⟩, r0, r1, r2, r3, r4, r5, r6, r7, r8, r9⟩ := h
  have e : ∀ c' j', 100 * c' + j' ≠ 100 * 5 + 7 → jupF H.2.1 5 7 p (some q) c' j' = H.2.1 c' j' := fun c' j' h' => jupF_id h'
  refine ⟨⟨t1, t2, fun c' j' k' p' q' hf' ht hq' => ?_, t4, t5, t6, t7⟩, r0, r1, ?_, r3, fun p' q' ht hq' => ?_, r5, r6, r7, r8, ?_⟩
  · have hq' : jupF H.2.1 5 7 p (some q) c' j' p' = some q' := hq'
    by_cases hc : c' = 5 ∧ j' = 7 ∧ p' = p
    · obtain ⟨rfl, rfl, rfl⟩ := hc
      rw [jupF_eq] at hq'
      cases hq'
      have hk : k' = 5 := by
        have h9 : jft 5 7 = some (2, 5) := rfl
        rw [h9] at hf'
        cases hf'
        rfl
      rw [hk]
      exact hq
    · rw [jupF_ne hc] at hq'; exact t3 c' j' k' p' q' hf' ht hq'
  · intro p' q' ht hq'
    have hq' : jupF H.2.1 5 7 p (some q) 0 2 p' = some q' := hq'
    rw [e 0 2 (by decide)] at hq'
    exact r2 p' q' ht hq'
  · have hq' : jupF H.2.1 5 7 p (some q) 5 7 p' = some q' := hq'
    by_cases hc : p' = p
    · subst hc
      rw [jupF_eq] at hq'
      cases hq'
      exact hl
    · rw [jupF_ne (fun z => hc z.2.2)] at hq'
      exact r4 p' q' ht hq'
  · intro p' ht
    show jupF H.2.1 5 7 p (some q) 0 6 p' ≠ _
    rw [e 0 6 (by decide)]
    exact r9 p' ht
end CT
