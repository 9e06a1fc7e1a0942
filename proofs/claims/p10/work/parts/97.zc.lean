/-! sums: what there is of money -/
section GS
theorem jcnt_ext {g g' : Int → Int} : ∀ (m : Nat), (∀ j : Nat, j < m → g j = g' j) → jcnt g m = jcnt g' m
  | 0, _ => rfl
  | m + 1, h => by
    simp only [jcnt]
    rw [jcnt_ext m fun j hj => h j (by omega), h m (by omega)]
theorem jcnt_up {g : Int → Int} {i x : Int} : ∀ (m : Nat), 0 ≤ i → i < m → jcnt (jup g i x) m = jcnt g m + (x - g i)
  | 0, h0, h1 => by omega
  | m + 1, h0, h1 => by
    simp only [jcnt]
    by_cases hi : i = m
    · have e : jcnt (jup g i x) m = jcnt g m := jcnt_ext m fun j hj => by
        unfold jup
        rw [if_neg (by omega)]
      rw [e, hi]
      unfold jup
      rw [if_pos rfl]
      omega
    · rw [jcnt_up m h0 (by omega)]
      unfold jup
      rw [if_neg (fun z => hi z.symm)]
      omega
theorem jcnt_out {g : Int → Int} {i x : Int} {m : Nat} (h : (m : Int) ≤ i) : jcnt (jup g i x) m = jcnt g m := jcnt_ext m fun j hj => by
  unfold jup
  rw [if_neg (by omega)]
theorem jcnt_pos {g : Int → Int} (h : ∀ j, 0 ≤ g j) : ∀ (m : Nat), 0 ≤ jcnt g m
  | 0 => Int.le_refl _
  | m + 1 => by
    have := jcnt_pos h m
    have := h m
    simp only [jcnt]
    omega
theorem jcnt_el {g : Int → Int} (h : ∀ j, 0 ≤ g j) {i : Int} : ∀ (m : Nat), 0 ≤ i → i < m → g i ≤ jcnt g m
  | 0, h0, h1 => by omega
  | m + 1, h0, h1 => by
    simp only [jcnt]
    have h2 := h m
    by_cases hi : i = m
    · have := jcnt_pos h m
      rw [hi]
      omega
    · have := jcnt_el h m h0 (by omega)
      omega
theorem jcnt_mono {g : Int → Int} (h : ∀ j, 0 ≤ g j) {a : Nat} : ∀ (b : Nat), a ≤ b → jcnt g a ≤ jcnt g b
  | 0, hab => by
    obtain rfl : a = 0 := by omega
    exact Int.le_refl _
  | b + 1, hab => by
    by_cases e : a = b + 1
    · rw [e]; exact Int.le_refl _
    · have := jcnt_mono h b (a := a) (by omega)
      have := h b
      simp only [jcnt]
      omega
theorem jcnt_succ {f : Int → Int} {i s : Int} (h0 : 0 ≤ i) (h : s = jcnt f i.toNat) : s + f i = jcnt f (i + 1).toNat := by
  rw [show (i + 1).toNat = i.toNat + 1 by omega]
  have e : jcnt f (i.toNat + 1) = jcnt f i.toNat + f (i.toNat : Int) := rfl
  rw [e, ← h, show ((i.toNat : Nat) : Int) = i by omega]
/-- all that there is, RETURNS up to m -/
def gS (H : jH) (m : Int) : Int := jcnt (H.2.2.1 99 0) 200 + jcnt (H.2.2.1 100 0) 3200 + jcnt (H.2.2.1 103 0) m.toNat + H.1 11 57 0
/-- the money is all there -/
def gL (H : jH) : Prop := gS H (H.1 11 56 0) = 201600
theorem gL.ex {fs ks : List Nat} {H H1 : jH} (h : gL H) (hE : jEx fs ks H1 H) (hk : (99 ∉ ks ∧ 100 ∉ ks ∧ 103 ∉ ks) ∧ 56 ∉ fs ∧ 57 ∉ fs) : gL H1 := by
  unfold gL gS at h ⊢
  rw [hE.r 99 hk.1.1, hE.r 100 hk.1.2.1, hE.r 103 hk.1.2.2, hE.v 56 hk.2.1, hE.v 57 hk.2.2]
  exact h
variable {H : jH}
theorem gT.pos (h : gT H) : (∀ j, 0 ≤ H.2.2.1 99 0 j) ∧ (∀ j, 0 ≤ H.2.2.1 100 0 j) ∧ (∀ j, 0 ≤ H.2.2.1 103 0 j) ∧ 0 ≤ H.1 11 57 0 := ⟨fun j => (show 0 ≤ H.2.2.1 99 0 j ∧ H.2.2.1 99 0 j ≤ 201600 from h.1 99 j).1, fun j => (show 0 ≤ H.2.2.1 100 0 j ∧ H.2.2.1 100 0 j ≤ 201600 from h.1 100 j).1, fun j => (show 0 ≤ H.2.2.1 103 0 j ∧ H.2.2.1 103 0 j ≤ 201600 from h.1 103 j).1, (show 0 ≤ H.1 11 57 0 ∧ H.1 11 57 0 ≤ 201600 from h.2.1 57).1⟩
theorem gS.bal (hT : gT H) (m : Int) {x : Int} (h0 : 0 ≤ x) (h1 : x < 200) : H.2.2.1 99 0 x ≤ gS H m := by
  have p := hT.pos
  have := jcnt_el p.1 200 h0 h1
  have := jcnt_pos p.2.1 3200
  have := jcnt_pos p.2.2.1 m.toNat
  have := p.2.2.2
  unfold gS
  omega
theorem gS.bnd (hT : gT H) (m : Int) {x : Int} (h0 : 0 ≤ x) (h1 : x < 3200) : H.2.2.1 100 0 x ≤ gS H m := by
  have p := hT.pos
  have := jcnt_el p.2.1 3200 h0 h1
  have := jcnt_pos p.1 200
  have := jcnt_pos p.2.2.1 m.toNat
  have := p.2.2.2
  unfold gS
  omega
theorem gS.brn (hT : gT H) (m : Int) : H.1 11 57 0 ≤ gS H m := by
  have p := hT.pos
  have := jcnt_pos p.1 200
  have := jcnt_pos p.2.1 3200
  have := jcnt_pos p.2.2.1 m.toNat
  unfold gS
  omega
theorem gS.w_balance {x y m : Int} (h0 : 0 ≤ x) (h1 : x < 200) : gS (H.1, H.2.1, jsetR H.2.2.1 99 0 (jup (H.2.2.1 99 0) x y), H.2.2.2) m = gS H m + y - H.2.2.1 99 0 x := by
  have e := jcnt_up (g := H.2.2.1 99 0) (i := x) (x := y) 200 h0 h1
  show jcnt (jup (H.2.2.1 99 0) x y) 200 + jcnt (H.2.2.1 100 0) 3200 + jcnt (H.2.2.1 103 0) m.toNat + H.1 11 57 0 = _
  unfold gS
  omega
theorem gS.w_bond {x y m : Int} (h0 : 0 ≤ x) (h1 : x < 3200) : gS (H.1, H.2.1, jsetR H.2.2.1 100 0 (jup (H.2.2.1 100 0) x y), H.2.2.2) m = gS H m + y - H.2.2.1 100 0 x := by
  have e := jcnt_up (g := H.2.2.1 100 0) (i := x) (x := y) 3200 h0 h1
  show jcnt (H.2.2.1 99 0) 200 + jcnt (jup (H.2.2.1 100 0) x y) 3200 + jcnt (H.2.2.1 103 0) m.toNat + H.1 11 57 0 = _
  unfold gS
  omega
theorem gS.w_rAmount {x y m : Int} (h1 : 0 ≤ m ∧ m ≤ x) : gS (H.1, H.2.1, jsetR H.2.2.1 103 0 (jup (H.2.2.1 103 0) x y), H.2.2.2) m = gS H m := by
  have e := jcnt_out (g := H.2.2.1 103 0) (i := x) (x := y) (m := m.toNat) (by omega)
  show jcnt (H.2.2.1 99 0) 200 + jcnt (H.2.2.1 100 0) 3200 + jcnt (jup (H.2.2.1 103 0) x y) m.toNat + H.1 11 57 0 = _
  unfold gS
  omega
theorem gS.w_burnt {y m : Int} : gS (jupF H.1 11 57 0 y, H.2) m = gS H m + y - H.1 11 57 0 := by
  show jcnt (H.2.2.1 99 0) 200 + jcnt (H.2.2.1 100 0) 3200 + jcnt (H.2.2.1 103 0) m.toNat + y = _
  unfold gS
  omega
theorem gS.more {m : Int} (h : 0 ≤ m) : gS H (m + 1) = gS H m + H.2.2.1 103 0 m := by
  obtain ⟨n, rfl⟩ : ∃ n : Nat, m = n := ⟨m.toNat, by omega⟩
  unfold gS
  have e : jcnt (H.2.2.1 103 0) (n + 1) = jcnt (H.2.2.1 103 0) n + H.2.2.1 103 0 n := rfl
  rw [show ((n : Int) + 1).toNat = n + 1 by omega, show (n : Int).toNat = n by omega, e]
  omega
end GS
section GX
/-- TRANSACTIONS are as they were submitted -/
def gX (H : jH) : Prop := ∀ t, (H.2.2.1 50 0 t = 0 → H.2.2.1 52 0 t ≤ 199) ∧ (1 ≤ H.2.2.1 50 0 t → H.2.2.1 50 0 t ≤ 3 → H.2.2.1 52 0 t ≤ 15) ∧ (H.2.2.1 50 0 t ≠ 3 → 0 ≤ H.2.2.1 53 0 t ∧ H.2.2.1 53 0 t ≤ 1000000) ∧ (H.2.2.1 50 0 t = 4 → H.2.2.1 53 0 t ≤ 5999)
theorem gX.ex {fs ks : List Nat} {H H1 : jH} (h : gX H) (hE : jEx fs ks H1 H) (hk : 50 ∉ ks ∧ 52 ∉ ks ∧ 53 ∉ ks) : gX H1 := by
  unfold gX at h ⊢
  rw [hE.r 50 hk.1, hE.r 52 hk.2.1, hE.r 53 hk.2.2]
  exact h
end GX
section GD
variable {H : jH}
/-- while RETURNS are gone through: m are kept, k seen -/
def gD (H : jH) (m k : Int) : Int := gS H m + jcnt (H.2.2.1 103 0) (H.1 11 56 0).toNat - jcnt (H.2.2.1 103 0) k.toNat
theorem gD.zero (h : gL H) : gD H 0 0 = 201600 := by
  have e : jcnt (H.2.2.1 103 0) (0 : Int).toNat = 0 := rfl
  unfold gL gS at h
  unfold gD gS
  omega
theorem gD.le (hT : gT H) {m k x : Int} (hx : 0 ≤ x ∧ x < 200) (hk : 0 ≤ k ∧ k < H.1 11 56 0) : H.2.2.1 99 0 x + H.2.2.1 103 0 k ≤ gD H m k := by
  have p := hT.pos
  have h1 := jcnt_el p.1 200 hx.1 hx.2
  have h2 := jcnt_pos p.2.1 3200
  have h3 := jcnt_pos p.2.2.1 m.toNat
  have h4 := p.2.2.2
  have h5 := jcnt_mono p.2.2.1 (a := k.toNat + 1) (H.1 11 56 0).toNat (by omega)
  have e : jcnt (H.2.2.1 103 0) (k.toNat + 1) = jcnt (H.2.2.1 103 0) k.toNat + H.2.2.1 103 0 (k.toNat : Int) := rfl
  rw [show ((k.toNat : Nat) : Int) = k by omega] at e
  unfold gD gS
  omega
theorem gD.a {m k x y : Int} (hx : 0 ≤ x ∧ x < 200) (hk : 0 ≤ k) : gD (H.1, H.2.1, jsetR H.2.2.1 99 0 (jup (H.2.2.1 99 0) x y), H.2.2.2) m (k + 1) = gD H m k + y - H.2.2.1 99 0 x - H.2.2.1 103 0 k := by
  have e1 := gS.w_balance (H := H) (x := x) (y := y) (m := m) hx.1 hx.2
  have e2 := jcnt_succ (f := H.2.2.1 103 0) (i := k) hk rfl
  show gS _ m + jcnt (H.2.2.1 103 0) (H.1 11 56 0).toNat - jcnt (H.2.2.1 103 0) (k + 1).toNat = _
  unfold gD
  omega
theorem gD.b {m k y : Int} (hm : 0 ≤ m ∧ m ≤ k) (hk : k < H.1 11 56 0) (hy : y = H.2.2.1 103 0 k) : gD (H.1, H.2.1, jsetR H.2.2.1 103 0 (jup (H.2.2.1 103 0) m y), H.2.2.2) (m + 1) (k + 1) = gD H m k := by
  have e1 := jcnt_succ (f := jup (H.2.2.1 103 0) m y) (i := m) hm.1 rfl
  have e2 : jcnt (jup (H.2.2.1 103 0) m y) m.toNat = jcnt (H.2.2.1 103 0) m.toNat := jcnt_out (by omega)
  have e3 : jup (H.2.2.1 103 0) m y m = y := if_pos rfl
  have e4 := jcnt_up (g := H.2.2.1 103 0) (i := m) (x := y) (H.1 11 56 0).toNat hm.1 (by omega)
  have e5 := jcnt_up (g := H.2.2.1 103 0) (i := m) (x := y) (k + 1).toNat hm.1 (by omega)
  have e6 := jcnt_succ (f := H.2.2.1 103 0) (i := k) (by omega) rfl
  show jcnt (H.2.2.1 99 0) 200 + jcnt (H.2.2.1 100 0) 3200 + jcnt (jup (H.2.2.1 103 0) m y) (m + 1).toNat + H.1 11 57 0 + jcnt (jup (H.2.2.1 103 0) m y) (H.1 11 56 0).toNat - jcnt (jup (H.2.2.1 103 0) m y) (k + 1).toNat = _
  unfold gD gS
  omega
theorem gD.fin {m k : Int} (h : gD H m k = 201600) (hk : k = H.1 11 56 0) : gL (jupF H.1 11 56 0 m, H.2) := by
  unfold gD at h
  rw [hk] at h
  show gS H m = 201600
  omega
end GD
