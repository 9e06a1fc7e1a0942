/-! what both sides hold in runs of one call: MESSAGES of ROUND 0 without TRANSACTIONS, all NODES up -/
section ZZ
/-- M, MESSAGE i: KIND, NODE, HEIGHT; B; NODE n: HEIGHT, STEP, whether (e) was done, RECORDS, what it KNOWS -/
abbrev zT : Type := Nat × (Nat → Nat × Nat × Nat) × Nat × (Nat → Nat × Nat × Nat × Nat × List Nat)
abbrev zM (z : zT) : Nat := z.1
abbrev zk (z : zT) (i : Nat) : Nat := (z.2.1 i).1
abbrev zn (z : zT) (i : Nat) : Nat := (z.2.1 i).2.1
abbrev zh (z : zT) (i : Nat) : Nat := (z.2.1 i).2.2
abbrev zB (z : zT) : Nat := z.2.2.1
abbrev nh (z : zT) (n : Nat) : Nat := (z.2.2.2 n).1
abbrev ns (z : zT) (n : Nat) : Nat := (z.2.2.2 n).2.1
abbrev ne (z : zT) (n : Nat) : Nat := (z.2.2.2 n).2.2.1
abbrev nr (z : zT) (n : Nat) : Nat := (z.2.2.2 n).2.2.2.1
abbrev nK (z : zT) (n : Nat) : List Nat := (z.2.2.2 n).2.2.2.2
abbrev zV : Type := Nat × Nat × Nat × Nat × List Nat
def vNow (v : zV) (ht : Nat → Nat) : List Nat := v.2.2.2.2.filter fun i => ht i == v.1
/-- the PROPOSER of a HEIGHT -/
def zP (h : Nat) : Nat := 131 * h % 1600 / 100
/-- NODE n becomes v -/
def zN (z : zT) (n : Nat) (v : Nat × Nat × Nat × Nat × List Nat) : zT := (z.1, z.2.1, z.2.2.1, va_up z.2.2.2 n v)
def zknow (z : zT) (n m : Nat) : zT := zN z n (nh z n, ns z n, ne z n, nr z n, nK z n ++ [m])
/-- n sends a MESSAGE of its HEIGHT -/
def zsend (z : zT) (n kd : Nat) : zT := if z.1 = 6000 then z else
  (z.1 + 1, va_up z.2.1 z.1 (kd, n, nh z n), z.2.2.1, va_up z.2.2.2 n (nh z n, ns z n, ne z n, nr z n + 1, nK z n ++ [z.1]))
def zst (z : zT) (n s e : Nat) : zT := zN z n (nh z n, s, e, nr z n, nK z n)
def zbegin (z : zT) (n : Nat) : zT := if nh z n ≤ 120 ∧ zP (nh z n) = n ∧ z.1 < 6000 ∧ z.2.2.1 < 300 then
    zsend (z.1, z.2.1, z.2.2.1 + 1, va_up z.2.2.2 n (nh z n, 0, 0, nr z n, nK z n)) n 0
  else zst z n 0 0
def zdecide (z : zT) (n : Nat) : zT := zbegin (zN z n (nh z n + 1, ns z n, ne z n, 0, nK z n)) n
def zprop (z : zT) (n : Nat) : Bool := (nK z n).any fun i => zk z i == 0 && zh z i == nh z n
def zsaid (z : zT) (n kd j : Nat) : Bool := (nK z n).any fun i => zk z i == kd && zh z i == nh z n && zn z i == j
def zcnt (z : zT) (n kd : Nat) : Nat := (List.range 16).countP fun j => zsaid z n kd j
def zmove (z : zT) (n : Nat) : Option zT :=
  if zprop z n = true ∧ 11 ≤ zcnt z n 2 then some (zdecide z n)
  else if zprop z n = true ∧ ns z n = 0 then some (zsend (zst z n 1 (ne z n)) n 1)
  else if zprop z n = true ∧ 0 < ns z n ∧ ne z n = 0 ∧ 11 ≤ zcnt z n 1 then some (if ns z n = 1 then zsend (zst z n 2 1) n 2 else zst z n (ns z n) 1)
  else none
def zact : Nat → zT → Nat → zT
  | 0, z, _ => z
  | f + 1, z, n => if nh z n ≤ 120 then (match zmove z n with
    | some z' => zact f z' n
    | none => z) else z
def zcame (z : zT) (m n : Nat) : zT := if m ∈ nK z n then z else zact 500 (zknow z n m) n
/-- what always holds -/
def zInv (z : zT) : Prop := (zM z ≤ 6000 ∧ 1 ≤ zB z ∧ zB z ≤ 300) ∧
  (∀ i, i < zM z → zk z i ≤ 2 ∧ zn z i < 16 ∧ 1 ≤ zh z i ∧ zh z i < zB z ∧ zh z i ≤ 120 ∧ (zk z i = 0 → zn z i = zP (zh z i))) ∧
  (∀ i j, i < zM z → j < zM z → zk z i = 0 → zk z j = 0 → zh z i = zh z j → i = j) ∧
  (∀ n, n < 16 → (1 ≤ nh z n ∧ nh z n ≤ zB z ∧ nh z n ≤ 121) ∧ ns z n ≤ 2 ∧ ne z n ≤ 1 ∧ nr z n ≤ ns z n + 1 ∧ (∀ i ∈ nK z n, i < zM z) ∧ (nK z n).Nodup) ∧
  (∀ h, 1 ≤ h → h < zB z → h ≤ nh z (zP h) ∧ zP h < 16)
theorem zP_lt (h : Nat) : zP h < 16 := by
  unfold zP
  omega
theorem nK_len {z : zT} (hz : zInv z) {n : Nat} (hn : n < 16) : (nK z n).length ≤ zM z := by
  have h := hz.2.2.2.1 n hn
  have h1 := List.Nodup.length_le_of_subset h.2.2.2.2.2 (l₂ := List.range (zM z)) fun x hx => List.mem_range.mpr (h.2.2.2.2.1 x hx)
  rw [List.length_range] at h1
  exact h1
theorem nK_len2 {z : zT} (hz : zInv z) {n m : Nat} (hn : n < 16) (hm : m < zM z) (hk : m ∉ nK z n) : (nK z n).length < zM z := by
  have h := hz.2.2.2.1 n hn
  have h1 := List.Nodup.length_le_of_subset (l₁ := m :: nK z n) (List.nodup_cons.mpr ⟨hk, h.2.2.2.2.2⟩) (l₂ := List.range (zM z)) fun x hx => List.mem_range.mpr (by
    rcases List.mem_cons.mp hx with rfl | hx
    · exact hm
    · exact h.2.2.2.2.1 x hx)
  rw [List.length_range, List.length_cons] at h1
  omega
/-- the reference's side -/
def rMsg (z : zT) (H : jH) : Prop := (H.1 11 19 0 = (zM z : Int) ∧ H.1 11 47 0 = 0) ∧ ∀ i : Nat, i < zM z → H.2.2.1 63 0 i = zk z i ∧ H.2.2.1 64 0 i = zn z i ∧ H.2.2.1 65 0 i = zh z i ∧ H.2.2.1 66 0 i = 0 ∧ H.2.2.1 67 0 i = zh z i ∧ H.2.2.1 68 0 i = -1
def rBlk (z : zT) (H : jH) : Prop := H.1 11 12 0 = (zB z : Int) ∧ rB H (zB z) ∧ (∀ b, 0 ≤ b → b < (zB z : Int) → H.2.2.1 61 0 b = 0 ∨ H.2.2.1 61 0 b = 1) ∧ (∀ b, 0 ≤ b → b + 1 < (zB z : Int) → H.2.2.1 61 0 b = 1) ∧ H.2.2.1 61 0 0 = 1 ∧ (∀ b, (zB z : Int) ≤ b → b < 300 → H.2.2.1 61 0 b = 0) ∧ rLed H ∧ (H.1 11 4 0 = 0 ∧ H.1 11 45 0 = 0 ∧ ∀ b : Nat, b < zB z → H.2.2.1 57 0 (b : Int) = if b = 0 then -1 else (zP b : Int)) ∧ -1 ≤ H.1 11 48 0 ∧ H.1 11 48 0 < 300
def rNd (v : zV) (ht : Nat → Nat) (H : jH) (n : Nat) : Prop :=
  (H.2.2.1 72 0 n = (v.1 : Int) - 1 ∧ H.2.2.1 73 0 n = 0 ∧ H.2.2.1 74 0 n = v.2.1 ∧ (H.2.2.1 75 0 n = -1 ∨ H.2.2.1 75 0 n = v.1) ∧ (-1 ≤ H.2.2.1 76 0 n ∧ H.2.2.1 76 0 n < 32) ∧ (-1 ≤ H.2.2.1 77 0 n ∧ H.2.2.1 77 0 n < 300) ∧ (-1 ≤ H.2.2.1 78 0 n ∧ H.2.2.1 78 0 n < 32) ∧ (v.2.2.1 = 0 → H.2.2.1 75 0 n = -1 ∧ H.2.2.1 76 0 n = -1 ∧ H.2.2.1 77 0 n = -1 ∧ H.2.2.1 78 0 n = -1) ∧ H.2.2.1 84 0 n = 0) ∧
  (H.2.2.1 79 0 n = 0 ∧ H.2.2.1 80 0 n = 0 ∧ H.2.2.1 82 0 n = 13 ∧ H.2.2.1 83 0 n = v.2.2.2.1 ∧ H.2.2.1 115 0 n = v.2.2.1) ∧
  (H.2.2.1 71 0 n = v.2.2.2.2.length ∧ (∀ (j x : Nat), v.2.2.2.2[j]? = some x → H.2.2.1 70 0 (6000 * (n : Int) + j) = x) ∧ ∀ i : Nat, i < 6000 → H.2.2.1 114 0 (6000 * (n : Int) + i) = if i ∈ v.2.2.2.2 then 1 else 0) ∧
  mPow H n ∧ H.2.2.1 113 0 n = (vNow v ht).length ∧ ∀ (j x : Nat), (vNow v ht)[j]? = some x → H.2.2.1 112 0 (6000 * (n : Int) + j) = x
def rNod (z : zT) (H : jH) (n : Nat) : Prop := rNd (z.2.2.2 n) (zh z) H n
def rInv (z : zT) (H : jH) : Prop := rMsg z H ∧ rBlk z H ∧ ∀ n, n < 16 → rNod z H n
/-- the rows of NODE n are as before -/
def rOth (H' H : jH) (n : Nat) : Prop :=
  (∀ k ∈ [72, 73, 74, 75, 76, 77, 78, 79, 80, 82, 83, 115, 71, 113, 111, 84], H'.2.2.1 k 0 (n : Int) = H.2.2.1 k 0 (n : Int)) ∧
  (∀ k ∈ [70, 114, 112], ∀ j, 0 ≤ j → j < 6000 → H'.2.2.1 k 0 (6000 * (n : Int) + j) = H.2.2.1 k 0 (6000 * (n : Int) + j)) ∧
  ∀ j, 0 ≤ j → j < 16 → H'.2.2.1 110 0 (16 * (n : Int) + j) = H.2.2.1 110 0 (16 * (n : Int) + j)
theorem rOth.refl (H : jH) (n : Nat) : rOth H H n := ⟨fun _ _ => rfl, fun _ _ _ _ _ => rfl, fun _ _ _ => rfl⟩
theorem rOth.trans {H1 H2 H3 : jH} {n : Nat} (h : rOth H1 H2 n) (h' : rOth H2 H3 n) : rOth H1 H3 n :=
  ⟨fun k hk => (h.1 k hk).trans (h'.1 k hk), fun k hk j a b => (h.2.1 k hk j a b).trans (h'.2.1 k hk j a b), fun j a b => (h.2.2 j a b).trans (h'.2.2 j a b)⟩
theorem rOth.up {F : Nat → Nat → Nat → Int} {O : Nat → Nat → Nat → Option Nat} {R : Nat → Nat → Int → Int} {B : Nat → Nat → Int → Option Nat} {W : Nat → Nat → Nat → Nat} {H : jH} {n : Nat} (h : rOth (F, O, R, B, W) H n) {k : Nat} {i x : Int} (hi : i ≠ n ∨ k ∉ [72, 73, 74, 75, 76, 77, 78, 79, 80, 82, 83, 115, 71, 113, 111, 84]) (hi2 : (i < 6000 * (n : Int) ∨ 6000 * (n : Int) + 6000 ≤ i) ∨ k ∉ [70, 114, 112]) (hi3 : (i < 16 * (n : Int) ∨ 16 * (n : Int) + 16 ≤ i) ∨ k ≠ 110) :
    rOth (F, O, jsetR R k 0 (jup (R k 0) i x), B, W) H n := by
  have key : ∀ (k' : Nat) (y : Int), (k' = k → y ≠ i) → jsetR R k 0 (jup (R k 0) i x) k' 0 y = R k' 0 y := by
    intro k' y hy
    by_cases hk : k' = k
    · subst hk
      rw [jsetR_eq]
      unfold jup
      rw [if_neg (hy rfl)]
    · rw [jsetR_ne fun z => hk z.1]
  refine ⟨fun k' hk' => ?_, fun k' hk' j a b => ?_, fun j a b => ?_⟩
  · refine (key k' n fun z => ?_).trans (h.1 k' hk')
    rcases hi with hi | hi
    · exact fun y => hi y.symm
    · exact absurd (z ▸ hk') hi
  · refine (key k' _ fun z => ?_).trans (h.2.1 k' hk' j a b)
    rcases hi2 with hi2 | hi2
    · omega
    · exact absurd (z ▸ hk') hi2
  · refine (key 110 _ fun z => ?_).trans (h.2.2 j a b)
    rcases hi3 with hi3 | hi3
    · omega
    · exact absurd z.symm hi3
theorem rOth.ex {fs ks : List Nat} {H1 H : jH} {n : Nat} (hE : jEx fs ks H1 H) (hk : ∀ k ∈ ks, k ∉ [72, 73, 74, 75, 76, 77, 78, 79, 80, 82, 83, 115, 71, 113, 111, 84, 70, 114, 112, 110]) : rOth H1 H n := by
  refine ⟨fun k h => ?_, fun k h j _ _ => ?_, fun j _ _ => ?_⟩
  · rw [hE.r k fun z => hk k z (by revert h; simp only [List.mem_cons, List.not_mem_nil, or_false]; omega)]
  · rw [hE.r k fun z => hk k z (by revert h; simp only [List.mem_cons, List.not_mem_nil, or_false]; omega)]
  · rw [hE.r 110 fun z => hk _ z (by decide)]
theorem vNow_congr {v : zV} {ht ht' : Nat → Nat} (h : ∀ i ∈ v.2.2.2.2, ht' i = ht i) : vNow v ht' = vNow v ht := by
  unfold vNow
  exact List.filter_congr fun i hi => by rw [h i hi]
theorem rNd.oth {v : zV} {ht ht' : Nat → Nat} {H H' : jH} {n : Nat} (h : rNd v ht H n) (ho : rOth H' H n) (hm : ∀ i ∈ v.2.2.2.2, ht' i = ht i) (hl : v.2.2.2.2.length ≤ 6000) : rNd v ht' H' n := by
  obtain ⟨⟨a1, a2, a3, a4, a5, a6, a7⟩, ⟨b1, b2, b3, b4, b5⟩, ⟨c1, c2, c3⟩, ⟨d1, d2⟩, e1, e2⟩ := h
  obtain ⟨o1, o2, o3⟩ := ho
  have hNow := vNow_congr hm
  have hlt : ∀ (l : List Nat) (j x : Nat), l.length ≤ 6000 → l[j]? = some x → (j : Int) < 6000 := fun l j x h1 h2 => by
    have := (List.getElem?_eq_some_iff.mp h2).1
    omega
  have hnl : (vNow v ht).length ≤ 6000 := Nat.le_trans (List.length_filter_le _ _) hl
  refine ⟨⟨?_, ?_, ?_, ?_, ?_, ?_, ?_⟩, ⟨?_, ?_, ?_, ?_, ?_⟩, ⟨?_, fun j x hx => ?_, fun i hi => ?_⟩, ⟨?_, fun j p q => ?_⟩, ?_, fun j x hx => ?_⟩
  · rw [o1 72 (by decide)]; exact a1
  · rw [o1 73 (by decide)]; exact a2
  · rw [o1 74 (by decide)]; exact a3
  · rw [o1 75 (by decide)]; exact a4
  · rw [o1 76 (by decide)]; exact a5
  · rw [o1 77 (by decide)]; exact a6
  · rw [o1 75 (by decide), o1 76 (by decide), o1 77 (by decide), o1 78 (by decide), o1 84 (by decide)]; exact a7
  · rw [o1 79 (by decide)]; exact b1
  · rw [o1 80 (by decide)]; exact b2
  · rw [o1 82 (by decide)]; exact b3
  · rw [o1 83 (by decide)]; exact b4
  · rw [o1 115 (by decide)]; exact b5
  · rw [o1 71 (by decide)]; exact c1
  · rw [o2 70 (by decide) j (by omega) (hlt _ _ _ hl hx)]
    exact c2 j x hx
  · rw [o2 114 (by decide) i (by omega) (by omega)]
    exact c3 i hi
  · rw [o1 111 (by decide)]; exact d1
  · rw [o3 j p q]; exact d2 j p q
  · rw [o1 113 (by decide), hNow]; exact e1
  · rw [hNow] at hx
    rw [o2 112 (by decide) j (by omega) (hlt _ _ _ hnl hx)]
    exact e2 j x hx
theorem zN_at (z : zT) (n : Nat) (v : zV) : (zN z n v).2.2.2 n = v := if_pos rfl
theorem zN_ne (z : zT) {n m : Nat} (v : zV) (h : m ≠ n) : (zN z n v).2.2.2 m = z.2.2.2 m := if_neg h
end ZZ
