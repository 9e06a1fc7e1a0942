/-! the class's picture -/
section CP
/-- the first MESSAGE of HEIGHT h from i on, of M with the HEIGHTS f -/
def nxt : Nat → (Nat → Nat) → Nat → Nat → Option Nat
  | 0, _, _, _ => none
  | M + 1, f, h, i => match nxt M f h i with
    | some j => some j
    | none => if i ≤ M ∧ f M = h then some M else none
theorem nxt_none {f : Nat → Nat} {h i : Nat} : ∀ {M : Nat}, nxt M f h i = none → ∀ l, i ≤ l → l < M → f l ≠ h
  | 0, _, l, _, hl => absurd hl (Nat.not_lt_zero _)
  | M + 1, hn, l, h1, h2 => by
    unfold nxt at hn
    split at hn
    · cases hn
    · rename_i h3
      split at hn
      · cases hn
      · rename_i h4
        by_cases hlM : l = M
        · rw [hlM]
          exact fun z => h4 ⟨by omega, z⟩
        · exact nxt_none h3 l h1 (by omega)
theorem nxt_some {f : Nat → Nat} {h i j : Nat} : ∀ {M : Nat}, nxt M f h i = some j → i ≤ j ∧ j < M ∧ f j = h ∧ ∀ l, i ≤ l → l < j → f l ≠ h
  | 0, hn => by cases hn
  | M + 1, hn => by
    unfold nxt at hn
    split at hn
    · rename_i j' h3
      cases hn
      have := nxt_some h3
      exact ⟨this.1, by omega, this.2.2⟩
    · rename_i h3
      split at hn
      · rename_i h4
        cases hn
        exact ⟨h4.1, by omega, h4.2, fun l a b => nxt_none h3 l a b⟩
      · cases hn
theorem nxt_congr {f f' : Nat → Nat} {h i : Nat} : ∀ {M : Nat}, (∀ l, l < M → f' l = f l) → nxt M f' h i = nxt M f h i
  | 0, _ => rfl
  | M + 1, he => by
    unfold nxt
    rw [nxt_congr fun l hl => he l (by omega), he M (by omega)]
def lx : Nat → (Nat → Nat) → Nat → Option Nat
  | 0, _, _ => none
  | M + 1, f, h => if f M = h then some M else lx M f h
theorem lx_some {f : Nat → Nat} {h l : Nat} : ∀ {M : Nat}, lx M f h = some l → l < M ∧ f l = h ∧ ∀ x, l < x → x < M → f x ≠ h
  | 0, hn => by cases hn
  | M + 1, hn => by
    unfold lx at hn
    split at hn
    · rename_i h1
      cases hn
      exact ⟨by omega, h1, fun x a b => by omega⟩
    · rename_i h1
      have := lx_some hn
      refine ⟨by omega, this.2.1, fun x a b => ?_⟩
      by_cases hx : x = M
      · rw [hx]; exact h1
      · exact this.2.2 x a (by omega)
theorem lx_none {f : Nat → Nat} {h : Nat} : ∀ {M : Nat}, lx M f h = none → ∀ x, x < M → f x ≠ h
  | 0, _, x, hx => absurd hx (Nat.not_lt_zero _)
  | M + 1, hn, x, hx => by
    unfold lx at hn
    split at hn
    · cases hn
    · rename_i h1
      by_cases hxM : x = M
      · rw [hxM]; exact h1
      · exact lx_none hn x (by omega)
theorem lx_congr {f f' : Nat → Nat} {h : Nat} : ∀ {M : Nat}, (∀ l, l < M → f' l = f l) → lx M f' h = lx M f h
  | 0, _ => rfl
  | M + 1, he => by
    unfold lx
    rw [lx_congr fun l hl => he l (by omega), he M (by omega)]
/-- the same but for classes cs and kinds of rows ks -/
def jK (cs ks : List Nat) (H1 H : jH) : Prop := (∀ c, c ∉ cs → H1.1 c = H.1 c ∧ H1.2.1 c = H.2.1 c ∧ H1.2.2.2.2 c = H.2.2.2.2 c) ∧ ∀ k, k ∉ ks → H1.2.2.1 k = H.2.2.1 k ∧ H1.2.2.2.1 k = H.2.2.2.1 k
theorem jK.refl (cs ks : List Nat) (H : jH) : jK cs ks H H := ⟨fun _ _ => ⟨rfl, rfl, rfl⟩, fun _ _ => ⟨rfl, rfl⟩⟩
theorem jK.trans {cs ks cs' ks' : List Nat} {H1 H2 H3 : jH} (h : jK cs ks H1 H2) (h' : jK cs' ks' H2 H3) (hc : ∀ c ∈ cs, c ∈ cs') (hk : ∀ k ∈ ks, k ∈ ks') : jK cs' ks' H1 H3 := by
  refine ⟨fun c hn => ?_, fun k hn => ?_⟩
  · have a := h.1 c fun z => hn (hc c z)
    have b := h'.1 c hn
    exact ⟨a.1.trans b.1, a.2.1.trans b.2.1, a.2.2.trans b.2.2⟩
  · have a := h.2 k fun z => hn (hk k z)
    have b := h'.2 k hn
    exact ⟨a.1.trans b.1, a.2.trans b.2⟩
theorem jK.mono {cs ks cs' ks' : List Nat} {H1 H : jH} (h : jK cs ks H1 H) (hc : ∀ c ∈ cs, c ∈ cs') (hk : ∀ k ∈ ks, k ∈ ks') : jK cs' ks' H1 H := h.trans (jK.refl _ _ _) hc hk
theorem jupF_c {α : Type} {F : Nat → Nat → Nat → α} {c j p c' : Nat} {x : α} (h : c' ≠ c) : jupF F c j p x c' = F c' := by
  funext j' p'
  exact jupF_ne fun z => h z.1
theorem jsetR_k {α : Type} {R : Nat → Nat → Int → α} {k p k' : Nat} {g : Int → α} (h : k' ≠ k) : jsetR R k p g k' = R k' := by
  funext p'
  exact jsetR_ne fun z => h z.1
theorem jK.int {cs ks : List Nat} {F : Nat → Nat → Nat → Int} {O : Nat → Nat → Nat → Option Nat} {R : Nat → Nat → Int → Int} {B : Nat → Nat → Int → Option Nat} {W : Nat → Nat → Nat → Nat} {H : jH} {c j p : Nat} {x : Int} (h : jK cs ks (F, O, R, B, W) H) (hc : c ∈ cs) : jK cs ks (jupF F c j p x, O, R, B, W) H :=
  ⟨fun c' hn => ⟨(jupF_c fun z => hn (by rw [z]; exact hc)).trans (h.1 c' hn).1, (h.1 c' hn).2⟩, h.2⟩
theorem jK.ref {cs ks : List Nat} {F : Nat → Nat → Nat → Int} {O : Nat → Nat → Nat → Option Nat} {R : Nat → Nat → Int → Int} {B : Nat → Nat → Int → Option Nat} {W : Nat → Nat → Nat → Nat} {H : jH} {c j p : Nat} {x : Option Nat} (h : jK cs ks (F, O, R, B, W) H) (hc : c ∈ cs) : jK cs ks (F, jupF O c j p x, R, B, W) H :=
  ⟨fun c' hn => ⟨(h.1 c' hn).1, (jupF_c fun z => hn (by rw [z]; exact hc)).trans (h.1 c' hn).2.1, (h.1 c' hn).2.2⟩, h.2⟩
theorem jK.own {cs ks : List Nat} {F : Nat → Nat → Nat → Int} {O : Nat → Nat → Nat → Option Nat} {R : Nat → Nat → Int → Int} {B : Nat → Nat → Int → Option Nat} {W : Nat → Nat → Nat → Nat} {H : jH} {c j p : Nat} {x : Nat} (h : jK cs ks (F, O, R, B, W) H) (hc : c ∈ cs) : jK cs ks (F, O, R, B, jupF W c j p x) H :=
  ⟨fun c' hn => ⟨(h.1 c' hn).1, (h.1 c' hn).2.1, (jupF_c fun z => hn (by rw [z]; exact hc)).trans (h.1 c' hn).2.2⟩, h.2⟩
theorem jK.row {cs ks : List Nat} {F : Nat → Nat → Nat → Int} {O : Nat → Nat → Nat → Option Nat} {R : Nat → Nat → Int → Int} {B : Nat → Nat → Int → Option Nat} {W : Nat → Nat → Nat → Nat} {H : jH} {k p : Nat} {g : Int → Int} (h : jK cs ks (F, O, R, B, W) H) (hk : k ∈ ks) : jK cs ks (F, O, jsetR R k p g, B, W) H :=
  ⟨h.1, fun k' hn => ⟨(jsetR_k fun z => hn (by rw [z]; exact hk)).trans (h.2 k' hn).1, (h.2 k' hn).2⟩⟩
theorem jK.rows {cs ks : List Nat} {F : Nat → Nat → Nat → Int} {O : Nat → Nat → Nat → Option Nat} {R : Nat → Nat → Int → Int} {B : Nat → Nat → Int → Option Nat} {W : Nat → Nat → Nat → Nat} {H : jH} {k p : Nat} {g : Int → Option Nat} (h : jK cs ks (F, O, R, B, W) H) (hk : k ∈ ks) : jK cs ks (F, O, R, jsetR B k p g, W) H :=
  ⟨h.1, fun k' hn => ⟨(h.2 k' hn).1, (jsetR_k fun z => hn (by rw [z]; exact hk)).trans (h.2 k' hn).2⟩⟩
theorem jK.new {cs ks : List Nat} {H2 H1 H : jH} {c p : Nat} (h : jK cs ks H1 H) (hN : jNew H2 H1 c p) (hc : c ∈ cs) : jK cs ks H2 H :=
  ⟨fun c' hn => by
    have hne : c' ≠ c := fun z => hn (by rw [z]; exact hc)
    have b := h.1 c' hn
    exact ⟨(funext fun j => funext fun p' => (hN.1 c' j p' fun z => hne z.1).1).trans b.1, (funext fun j => funext fun p' => (hN.1 c' j p' fun z => hne z.1).2.1).trans b.2.1, (funext fun j => funext fun p' => (hN.1 c' j p' fun z => hne z.1).2.2).trans b.2.2⟩,
   fun k hn => by
    have b := h.2 k hn
    rw [hN.2.2.1, hN.2.2.2]
    exact b⟩
/-- the places that stay: the object, its ledger, post, client, trial STATE, BLOCK 0; NODES and their LOGS -/
abbrev cF : Type := Nat × Nat × Nat × Nat × Nat × Nat × (Nat → Nat) × (Nat → Nat)
abbrev fX (F : cF) : Nat := F.1
abbrev fL (F : cF) : Nat := F.2.1
abbrev fP (F : cF) : Nat := F.2.2.1
abbrev fC (F : cF) : Nat := F.2.2.2.1
abbrev fT (F : cF) : Nat := F.2.2.2.2.1
abbrev fG (F : cF) : Nat := F.2.2.2.2.2.1
abbrev fN (F : cF) : Nat → Nat := F.2.2.2.2.2.2.1
abbrev fO (F : cF) : Nat → Nat := F.2.2.2.2.2.2.2
def jwM (w w' : jW) : Prop := ∀ k p, w.1 k p → w'.1 k p
def cTop (F : cF) (w : jW) (H : jH) : Prop :=
  (w.1 10 (fX F) ∧ w.1 40 (fX F) ∧ H.2.2.2.2 10 0 (fX F) = fL F ∧ H.2.2.2.2 10 1 (fX F) = fP F ∧ H.2.2.2.2 10 3 (fX F) = fC F ∧ 0 < fL F ∧ 0 < fP F ∧ 0 < fC F) ∧
  (∀ n : Nat, n < 16 → H.2.2.2.1 40 (fX F) (n : Int) = some (fN F n)) ∧ (∀ n m, n < 16 → m < 16 → fN F n = fN F m → n = m) ∧ (∀ n m, n < 16 → m < 16 → fO F n = fO F m → n = m) ∧
  (w.1 1 (fC F) ∧ w.1 20 (fC F) ∧ H.2.2.2.2 1 0 (fC F) = fG F)
def cMs (F : cF) (w : jW) (z : zT) (H : jH) (mp : Nat → Nat) : Prop :=
  (w.1 7 (fP F) ∧ w.1 28 (fP F) ∧ w.1 29 (fP F) ∧ w.1 30 (fP F) ∧ w.1 31 (fP F)) ∧
  H.1 7 4 (fP F) = (zM z : Int) ∧
  (∀ i : Nat, i < zM z → (w.1 5 (mp i) ∧ 0 < mp i ∧ H.2.2.2.1 28 (fP F) (i : Int) = some (mp i)) ∧ (H.1 5 0 (mp i) = i ∧ H.1 5 1 (mp i) = zk z i ∧ H.1 5 2 (mp i) = zn z i ∧ H.1 5 3 (mp i) = zh z i ∧ H.1 5 4 (mp i) = 0 ∧ H.1 5 5 (mp i) = zh z i ∧ H.1 5 6 (mp i) = -1) ∧ H.2.1 5 7 (mp i) = (nxt (zM z) (zh z) (zh z i) (i + 1)).map mp) ∧
  ((∀ i j, i < zM z → j < zM z → mp i = mp j → i = j) ∧ (∀ i : Nat, zM z ≤ i → H.2.2.2.1 28 (fP F) (i : Int) = none) ∧ ∀ i : Int, i % 32 ≠ 0 → H.2.2.2.1 29 (fP F) i = none) ∧
  (∀ h : Nat, h ≤ 120 → H.2.2.2.1 29 (fP F) ((h : Int) * 32 + 0) = (nxt (zM z) (zh z) h 0).map mp ∧ H.2.2.2.1 30 (fP F) ((h : Int) * 32 + 0) = (lx (zM z) (zh z) h).map mp ∧ H.2.2.1 31 (fP F) (h : Int) = if (nxt (zM z) (zh z) h 0).isSome = true then 1 else 0)
/-- a STATE without its POWERS -/
def cSt0 (w : jW) (H : jH) (s : Nat) : Prop :=
  (w.1 8 s ∧ 0 < s ∧ w.1 32 s ∧ w.1 33 s ∧ w.1 34 s ∧ w.1 35 s ∧ w.1 36 s ∧ w.1 37 s ∧ w.1 38 s ∧ w.1 39 s)
def cSt1 (H : jH) (s : Nat) : Prop :=
  (H.1 8 4 s = 16 ∧ H.1 8 8 s = 0 ∧ H.1 8 9 s = 0 ∧ H.1 8 11 s = 0) ∧
  (∀ a, 0 ≤ a → a < 200 → H.2.2.1 32 s a = 1000) ∧ (∀ i, 0 ≤ i → i < 16 → H.2.2.1 33 s i = i ∧ H.2.2.1 34 s i = i ∧ H.2.2.1 35 s i = 100) ∧ ∀ n, 0 ≤ n → n < 16 → H.2.2.1 39 s n = 0
def cSt2 (w : jW) (H : jH) (s : Nat) : Prop := H.1 8 13 s = 1600 ∧ 0 < H.2.2.2.2 8 12 s ∧ w.1 43 (H.2.2.2.2 8 12 s) ∧ ∀ n, 0 ≤ n → n < 16 → H.2.2.1 43 (H.2.2.2.2 8 12 s) n = 100
def cBlk (w : jW) (H : jH) (bp sp : Nat → Nat) (b : Nat) : Prop :=
  (w.1 0 (bp b) ∧ 0 < bp b ∧ H.1 0 0 (bp b) = b ∧ H.1 0 1 (bp b) = b ∧ H.2.1 0 2 (bp b) = (if b = 0 then none else some (bp (b - 1))) ∧ H.1 0 3 (bp b) = (if b = 0 then -1 else (zP b : Int))) ∧
  (0 < H.2.2.2.2 0 4 (bp b) ∧ w.1 42 (H.2.2.2.2 0 4 (bp b)) ∧ H.1 42 0 (H.2.2.2.2 0 4 (bp b)) = 0) ∧
  (0 < H.2.2.2.2 0 5 (bp b) ∧ w.1 43 (H.2.2.2.2 0 5 (bp b)) ∧ ∀ n, 0 ≤ n → n < 16 → H.2.2.1 43 (H.2.2.2.2 0 5 (bp b)) n = 100) ∧
  H.2.1 0 6 (bp b) = some (sp b) ∧ cSt0 w H (sp b) ∧ cSt1 H (sp b) ∧ cSt2 w H (sp b)
def cBk (F : cF) (w : jW) (z : zT) (H : jH) (bp sp : Nat → Nat) : Prop :=
  (w.1 3 (fL F) ∧ w.1 21 (fL F) ∧ w.1 22 (fL F) ∧ w.1 23 (fL F) ∧ w.1 24 (fL F)) ∧
  (H.1 3 1 (fL F) = (zB z : Int) ∧ H.1 3 3 (fL F) = 0 ∧ H.2.2.2.2 3 4 (fL F) = fT F ∧ bp 0 = fG F) ∧ cSt0 w H (fT F) ∧
  (∀ b : Nat, b < zB z → H.2.2.2.1 21 (fL F) (b : Int) = some (bp b) ∧ sp b ≠ fT F ∧ cBlk w H bp sp b) ∧ ∀ a b, a < zB z → b < zB z → (bp a = bp b → a = b) ∧ (sp a = sp b → a = b)
def cNd (w : jW) (v : zV) (kd : Nat → Nat) (H : jH) (n P L q je : Nat) : Prop :=
  (w.1 6 P ∧ 0 < P ∧ w.1 26 P ∧ w.1 27 P ∧ w.1 4 L ∧ 0 < L ∧ w.1 25 L) ∧
  (H.1 6 0 P = n ∧ H.2.2.2.2 6 1 P = q ∧ H.1 6 2 P = 0 ∧ H.1 6 3 P = v.2.1 ∧ H.1 6 8 P = v.2.2.1 ∧ H.1 6 9 P = je ∧ H.1 6 10 P = 0 ∧ H.1 6 11 P = 0 ∧ H.1 6 12 P = 13) ∧
  ((H.1 6 4 P = -1 ∨ H.1 6 4 P = v.1) ∧ (-1 ≤ H.1 6 5 P ∧ H.1 6 5 P < 32) ∧ (-1 ≤ H.1 6 6 P ∧ H.1 6 6 P < 300) ∧ (-1 ≤ H.1 6 7 P ∧ H.1 6 7 P < 32) ∧ (v.2.2.1 = 0 → H.1 6 4 P = -1 ∧ H.1 6 5 P = -1 ∧ H.1 6 6 P = -1 ∧ H.1 6 7 P = -1)) ∧
  (H.2.2.2.2 6 13 P = L ∧ H.1 4 1 L = v.2.2.2.1 ∧ H.1 4 2 L = 0) ∧
  H.1 6 16 P = v.2.2.2.2.length ∧ (∀ i : Nat, i < 6000 → mb (H.2.2.1 26 P ((i / 32 : Nat) : Int)) (i % 32) = decide (i ∈ v.2.2.2.2)) ∧ ∀ i : Nat, i < 6000 → mb (H.2.2.1 27 P ((i / 32 : Nat) : Int)) (i % 32) = decide (i ∈ v.2.2.2.2 ∧ kd i = 0)
/-- room: its ground is kept at two places of F that no NODE has -/
def cRoom (F : cF) (w : jW) (z : zT) : Prop := w.2.1 ≤ fO F 17 + 2 * zM z + 20 * zB z ∧ w.2.2 ≤ fO F 16 + 20 * zM z + 1000 * zB z
def cPic (F : cF) (w : jW) (z : zT) (H : jH) (je : Nat → Nat) (mp bp sp : Nat → Nat) : Prop :=
  cTop F w H ∧ cMs F w z H mp ∧ cBk F w z H bp sp ∧ (∀ n, n < 16 → cNd w (z.2.2.2 n) (zk z) H n (fN F n) (fO F n) (bp (nh z n - 1)) (je n)) ∧ cRoom F w z
def cInv (F : cF) (w : jW) (z : zT) (H : jH) (je : Nat → Nat) : Prop := ∃ mp bp sp, cPic F w z H je mp bp sp
/-- nothing of the reference is touched -/
def jCl (H' H : jH) : Prop := H'.1 11 = H.1 11 ∧ (∀ k, 50 ≤ k → H'.2.2.1 k = H.2.2.1 k) ∧ ∀ p (i : Int) (x : Nat), 0 ≤ i → H.2.2.2.1 28 p i = some x → H'.2.2.2.1 28 p i = some x
theorem jCl.refl (H : jH) : jCl H H := ⟨rfl, fun _ _ => rfl, fun _ _ _ _ h => h⟩
theorem jCl.trans {H1 H2 H3 : jH} (h : jCl H1 H2) (h' : jCl H2 H3) : jCl H1 H3 := ⟨h.1.trans h'.1, fun k hk => (h.2.1 k hk).trans (h'.2.1 k hk), fun p i x h0 hx => h.2.2 p i x h0 (h'.2.2 p i x h0 hx)⟩
theorem jK.cl {cs ks : List Nat} {H1 H : jH} (h : jK cs ks H1 H) (hc : (cs.all fun c => !(Nat.beq c 11)) = true) (hk : (ks.all fun k => Nat.ble k 49 && !(Nat.beq k 28)) = true) : jCl H1 H := by
  refine ⟨(h.1 11 fun z => ?_).1, fun k h50 => (h.2 k fun z => ?_).1, fun p i x _ hx => ?_⟩
  · have := List.all_eq_true.mp hc 11 z
    cases this
  · have h9 := List.all_eq_true.mp hk k z
    simp only [Bool.and_eq_true] at h9
    have := Nat.le_of_ble_eq_true h9.1
    omega
  · have h28 : 28 ∉ ks := fun z => by
      have h9 := List.all_eq_true.mp hk _ z
      revert h9
      decide
    rw [(h.2 _ h28).2]
    exact hx
/-! what stays of the picture where other things change -/
theorem cTop.mv {F : cF} {w w' : jW} {H H' : jH} {cs ks : List Nat} (h : cTop F w H) (hw : jwM w w') (hK : jK cs ks H' H) (hc : 10 ∉ cs ∧ 1 ∉ cs) (hk : 40 ∉ ks) : cTop F w' H' := by
  obtain ⟨⟨a1, a2, a3, a4, a5, a6⟩, b1, b2, b3, c1, c2, c3⟩ := h
  have e := hK.1 10 hc.1
  have e1 := hK.1 1 hc.2
  have e2 := hK.2 40 hk
  unfold cTop
  rw [e.2.2, e1.2.2, e2.2]
  exact ⟨⟨hw _ _ a1, hw _ _ a2, a3, a4, a5, a6⟩, b1, b2, b3, hw _ _ c1, hw _ _ c2, c3⟩
theorem cMs.mv {F : cF} {w w' : jW} {z z' : zT} {H H' : jH} {cs ks : List Nat} {mp : Nat → Nat} (h : cMs F w z H mp) (hw : jwM w w') (hz : z'.1 = z.1 ∧ z'.2.1 = z.2.1) (hK : jK cs ks H' H) (hc : 5 ∉ cs ∧ 7 ∉ cs) (hk : 28 ∉ ks ∧ 29 ∉ ks ∧ 30 ∉ ks ∧ 31 ∉ ks) : cMs F w' z' H' mp := by
  have e5 := hK.1 5 hc.1
  have e7 := hK.1 7 hc.2
  have k1 := hK.2 28 hk.1
  have k2 := hK.2 29 hk.2.1
  have k3 := hK.2 30 hk.2.2.1
  have k4 := hK.2 31 hk.2.2.2
  obtain ⟨⟨a1, a2, a3, a4, a5⟩, b, c, d, e⟩ := h
  unfold cMs zM zk zn zh
  rw [hz.1, hz.2, e5.1, e5.2.1, e7.1, k1.2, k2.2, k3.2, k4.1]
  exact ⟨⟨hw _ _ a1, hw _ _ a2, hw _ _ a3, hw _ _ a4, hw _ _ a5⟩, b, fun i hi => ⟨⟨hw _ _ (c i hi).1.1, (c i hi).1.2⟩, (c i hi).2⟩, d, e⟩
theorem cSt0.mv {w w' : jW} {H H' : jH} {s : Nat} (h : cSt0 w H s) (hw : jwM w w') : cSt0 w' H' s := by
  obtain ⟨a1, a2, a3, a4, a5, a6, a7, a8, a9, a10⟩ := h
  exact ⟨hw _ _ a1, a2, hw _ _ a3, hw _ _ a4, hw _ _ a5, hw _ _ a6, hw _ _ a7, hw _ _ a8, hw _ _ a9, hw _ _ a10⟩
abbrev bK : List Nat := [21, 22, 23, 24, 32, 33, 34, 35, 36, 37, 38, 39, 42, 43]
theorem cBk.mv {F : cF} {w w' : jW} {z z' : zT} {H H' : jH} {cs ks : List Nat} {bp sp : Nat → Nat} (h : cBk F w z H bp sp) (hw : jwM w w') (hz : zB z' = zB z) (hK : jK cs ks H' H) (hc : 0 ∉ cs ∧ 3 ∉ cs ∧ 8 ∉ cs ∧ 42 ∉ cs) (hk : ∀ k ∈ bK, k ∉ ks) : cBk F w' z' H' bp sp := by
  have e0 := hK.1 0 hc.1
  have e3 := hK.1 3 hc.2.1
  have e8 := hK.1 8 hc.2.2.1
  have e42 := hK.1 42 hc.2.2.2
  have kk := fun k h => hK.2 k (hk k h)
  obtain ⟨⟨a1, a2, a3, a4, a5⟩, b, c, d, e⟩ := h
  unfold cBk cBlk cSt1 cSt2
  rw [hz, e0.1, e0.2.1, e0.2.2, e3.1, e3.2.2, e8.1, e8.2.2, e42.1, (kk 21 (by decide)).2, (kk 32 (by decide)).1, (kk 33 (by decide)).1, (kk 34 (by decide)).1, (kk 35 (by decide)).1, (kk 39 (by decide)).1, (kk 43 (by decide)).1]
  refine ⟨⟨hw _ _ a1, hw _ _ a2, hw _ _ a3, hw _ _ a4, hw _ _ a5⟩, b, c.mv hw, fun b' hb => ?_, e⟩
  obtain ⟨d1, d2, ⟨f1, f2⟩, ⟨g1, g2, g3⟩, ⟨i1, i2, i3⟩, j, k1, k2, l1, l2, l3, l4⟩ := d b' hb
  exact ⟨d1, d2, ⟨hw _ _ f1, f2⟩, ⟨g1, hw _ _ g2, g3⟩, ⟨i1, hw _ _ i2, i3⟩, j, k1.mv hw, k2, l1, l2, hw _ _ l3, l4⟩
/-- NODE's cells are as before -/
def nSame (H' H : jH) (P L : Nat) : Prop := (∀ j, H'.1 6 j P = H.1 6 j P ∧ H'.2.2.2.2 6 j P = H.2.2.2.2 6 j P) ∧ (∀ j, H'.1 4 j L = H.1 4 j L) ∧ H'.2.2.1 26 P = H.2.2.1 26 P ∧ H'.2.2.1 27 P = H.2.2.1 27 P
theorem nSame.refl (H : jH) (P L : Nat) : nSame H H P L := ⟨fun _ => ⟨rfl, rfl⟩, fun _ => rfl, rfl, rfl⟩
theorem nSame.trans {H1 H2 H3 : jH} {P L : Nat} (h : nSame H1 H2 P L) (h' : nSame H2 H3 P L) : nSame H1 H3 P L := ⟨fun j => ⟨(h.1 j).1.trans (h'.1 j).1, (h.1 j).2.trans (h'.1 j).2⟩, fun j => (h.2.1 j).trans (h'.2.1 j), h.2.2.1.trans h'.2.2.1, h.2.2.2.trans h'.2.2.2⟩
theorem nSame.of {cs ks : List Nat} {H' H : jH} {P L : Nat} (hK : jK cs ks H' H) (hc : 6 ∉ cs ∧ 4 ∉ cs) (hk : 26 ∉ ks ∧ 27 ∉ ks) : nSame H' H P L := by
  have e6 := hK.1 6 hc.1
  have e4 := hK.1 4 hc.2
  refine ⟨fun j => ?_, fun j => ?_, ?_, ?_⟩
  · rw [e6.1, e6.2.2]; exact ⟨rfl, rfl⟩
  · rw [e4.1]
  · rw [(hK.2 _ hk.1).1]
  · rw [(hK.2 _ hk.2).1]
theorem cNd.mv {w w' : jW} {v : zV} {kd kd' : Nat → Nat} {H H' : jH} {n P L q je : Nat} (h : cNd w v kd H n P L q je) (hw : jwM w w') (hS : nSame H' H P L) (hk : ∀ i ∈ v.2.2.2.2, kd' i = kd i) : cNd w' v kd' H' n P L q je := by
  obtain ⟨⟨a1, a2, a3, a4, a5, a6, a7⟩, b, c, d, e1, e2, e3⟩ := h
  unfold cNd
  rw [(hS.1 0).1, (hS.1 1).2, (hS.1 2).1, (hS.1 3).1, (hS.1 4).1, (hS.1 5).1, (hS.1 6).1, (hS.1 7).1, (hS.1 8).1, (hS.1 9).1, (hS.1 10).1, (hS.1 11).1, (hS.1 12).1, (hS.1 13).2, (hS.1 16).1, hS.2.1 1, hS.2.1 2, hS.2.2.1, hS.2.2.2]
  refine ⟨⟨hw _ _ a1, a2, hw _ _ a3, hw _ _ a4, hw _ _ a5, a6, hw _ _ a7⟩, b, c, d, e1, e2, fun i hi => ?_⟩
  rw [e3 i hi]
  by_cases hm : i ∈ v.2.2.2.2
  · rw [hk i hm]
  · simp [hm]
end CP
