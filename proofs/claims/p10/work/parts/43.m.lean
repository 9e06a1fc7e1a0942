/-! the reference's LEDGER without TRANSACTIONS -/
section JM4
variable {d : Nat} {w : jW} {H : jH}
def jsum (f : Int → Int) (n : Int) : Nat → Int
  | 0 => 0
  | a + 1 => jsum f n a + f (16 * (a : Int) + n)
theorem j_powerOf_loop {n : Int} (hn : 0 ≤ n ∧ n < 16) : ∀ (m i : Nat), i + m = 200 →
    J true d 117 w (15, [(3, .inl (i : Int)), (2, .inl (jsum (H.2.2.1 100 0) n i)), (0, jT), (1, .inl n)], [], H) (jN fun v w' H' => v = some (.inl (jsum (H.2.2.1 100 0) n 200)) ∧ w' = w ∧ H' = H) := by
  intro m
  induction m with
  | zero =>
    intro i hi
    obtain rfl : i = 200 := by omega
    refine J.run0 2 rfl ?_
    try dsimp only
    refine J.icmp rfl rfl rfl ⟨⟨by omega, by omega⟩, by omega, by omega⟩ (fun _ => ?_) (fun hc => absurd (show (200 : Int) ≤ (200 : Nat) by omega) hc)
    refine J.run0 1 rfl ?_
    try dsimp only
    exact J.reti rfl rfl rfl ⟨_, rfl, rfl, rfl, rfl⟩
  | succ m ih =>
    intro i hi
    refine J.run0 2 rfl ?_
    try dsimp only
    refine J.icmp rfl rfl rfl ⟨⟨by omega, by omega⟩, by omega, by omega⟩ (fun hc => absurd (show (200 : Int) ≤ i from hc) (by omega)) (fun _ => ?_)
    refine J.run 13 rfl ⟨show 0 ≤ 16 * (i : Int) + n by omega, show 16 * (i : Int) + n < 3200 by omega⟩ ?_
    try dsimp only
    exact ih (i + 1) (by omega)
theorem j_powerOf {n : Int} (hn : 0 ≤ n ∧ n < 16) (hj : H.2.2.1 105 0 n = 0) : J true d 117 w (0, jargs 0 [jT, .inl n], [], H) (jN fun v w' H' => v = some (.inl (jsum (H.2.2.1 100 0) n 200)) ∧ w' = w ∧ H' = H) := by
  refine J.run 6 rfl hn ?_
  try dsimp only
  refine J.ifc rfl rfl rfl ⟨show -2147483648 ≤ H.2.2.1 105 0 n by omega, show H.2.2.1 105 0 n ≤ 2147483647 by omega⟩ (fun _ => ?_) (fun hc => absurd hj hc)
  refine J.run0 2 rfl ?_
  try dsimp only
  exact j_powerOf_loop hn 200 0 rfl
/-- the first STATE -/
def rLed (H : jH) : Prop := (∀ a, 0 ≤ a → a < 200 → H.2.2.1 99 0 a = 1000) ∧ (∀ i, 0 ≤ i → i < 3200 → H.2.2.1 100 0 i = if i / 16 = i % 16 then 100 else 0) ∧ (∀ n, 0 ≤ n → n < 16 → H.2.2.1 101 0 n = 0 ∧ H.2.2.1 105 0 n = 0) ∧ H.1 11 56 0 = 0 ∧ H.1 11 57 0 = 0
theorem jsum_100 {f : Int → Int} (hf : ∀ i, 0 ≤ i → i < 3200 → f i = if i / 16 = i % 16 then 100 else 0) {n : Int} (hn : 0 ≤ n ∧ n < 16) : ∀ m : Nat, m ≤ 200 → jsum f n m = if n < m then 100 else 0
  | 0, _ => by
    rw [if_neg (by omega)]
    rfl
  | m + 1, hm => by
    have ih := jsum_100 hf hn m (by omega)
    simp only [jsum]
    rw [ih, hf _ (by omega) (by omega)]
    by_cases h1 : n < m
    · rw [if_pos h1, if_neg (by omega), if_pos (by omega)]
      omega
    · by_cases h2 : n = m
      · rw [if_neg h1, if_pos (by omega), if_pos (by omega)]
        omega
      · rw [if_neg h1, if_neg (by omega), if_neg (by omega)]
        omega
theorem j_power {n : Int} (hL : rLed H) (hn : 0 ≤ n ∧ n < 16) : J true d 117 w (0, jargs 0 [jT, .inl n], [], H) (jN fun v w' H' => v = some (.inl 100) ∧ w' = w ∧ H' = H) := by
  refine J.post (j_powerOf hn (hL.2.2.1 n hn.1 hn.2).2) ?_
  rintro o w' H' ⟨v, rfl, rfl, rfl, rfl⟩
  refine ⟨_, rfl, ?_, rfl, rfl⟩
  rw [jsum_100 hL.2.1 hn 200 (by omega), if_pos (by omega)]
theorem jup_same {g : Int → Int} {x y : Int} (h : g x = y) : jup g x y = g := by
  funext i
  unfold jup
  by_cases hi : i = x
  · rw [if_pos hi, hi, h]
  · rw [if_neg hi]
theorem hR_same (H : jH) (k : Nat) {x y : Int} (h : H.2.2.1 k 0 x = y) : (H.1, H.2.1, jsetR H.2.2.1 k 0 (jup (H.2.2.1 k 0) x y), H.2.2.2) = H := by
  rw [jup_same h, jsetR_self]
theorem jupF_same {α : Type} {F : Nat → Nat → Nat → α} {c j p : Nat} {x : α} (h : F c j p = x) : jupF F c j p x = F := by
  funext c' j' p'
  by_cases hz : c' = c ∧ j' = j ∧ p' = p
  · obtain ⟨rfl, rfl, rfl⟩ := hz
    rw [jupF_eq, h]
  · rw [jupF_ne hz]
theorem hV_same (H : jH) (f : Nat) {x : Int} (h : H.1 11 f 0 = x) : hV H f x = H := by
  simp only [hV]
  rw [jupF_same h]
/-- the same but for some numbers and rows of the reference -/
def jEx (fs ks : List Nat) (H1 H : jH) : Prop := (∀ c j p, ¬ (c = 11 ∧ j ∈ fs) → H1.1 c j p = H.1 c j p) ∧ H1.2.1 = H.2.1 ∧ (∀ k p, k ∉ ks → H1.2.2.1 k p = H.2.2.1 k p) ∧ H1.2.2.2 = H.2.2.2
theorem jEx.refl (fs ks : List Nat) (H : jH) : jEx fs ks H H := ⟨fun _ _ _ _ => rfl, rfl, fun _ _ _ => rfl, rfl⟩
theorem jEx.trans {fs ks fs' ks' : List Nat} {H1 H2 H3 : jH} (h : jEx fs ks H1 H2) (h' : jEx fs' ks' H2 H3) (hf : ∀ j ∈ fs, j ∈ fs') (hk : ∀ k ∈ ks, k ∈ ks') : jEx fs' ks' H1 H3 :=
  ⟨fun c j p hn => (h.1 c j p fun z => hn ⟨z.1, hf _ z.2⟩).trans (h'.1 c j p hn), h.2.1.trans h'.2.1, fun k p hn => (h.2.2.1 k p fun z => hn (hk _ z)).trans (h'.2.2.1 k p hn), h.2.2.2.trans h'.2.2.2⟩
theorem jEx.mono {fs ks fs' ks' : List Nat} {H1 H2 : jH} (h : jEx fs ks H1 H2) (hf : ∀ j ∈ fs, j ∈ fs') (hk : ∀ k ∈ ks, k ∈ ks') : jEx fs' ks' H1 H2 := h.trans (jEx.refl _ _ _) hf hk
theorem jEx.row {fs ks : List Nat} {F : Nat → Nat → Nat → Int} {O : Nat → Nat → Nat → Option Nat} {R : Nat → Nat → Int → Int} {B : Nat → Nat → Int → Option Nat} {W : Nat → Nat → Nat → Nat} {H : jH} {k : Nat} {g : Int → Int} (h : jEx fs ks (F, O, R, B, W) H) (hk : k ∈ ks) : jEx fs ks (F, O, jsetR R k 0 g, B, W) H :=
  ⟨h.1, h.2.1, fun k' p hn => (jsetR_ne fun z => hn (by rw [z.1]; exact hk)).trans (h.2.2.1 k' p hn), h.2.2.2⟩
theorem jEx.num {fs ks : List Nat} {F : Nat → Nat → Nat → Int} {O : Nat → Nat → Nat → Option Nat} {R : Nat → Nat → Int → Int} {B : Nat → Nat → Int → Option Nat} {W : Nat → Nat → Nat → Nat} {H : jH} {f : Nat} {x : Int} (h : jEx fs ks (F, O, R, B, W) H) (hf : f ∈ fs) : jEx fs ks (jupF F 11 f 0 x, O, R, B, W) H :=
  ⟨fun c j p hn => (jupF_ne fun z => hn ⟨z.1, by rw [z.2.1]; exact hf⟩).trans (h.1 c j p hn), h.2.1, h.2.2.1, h.2.2.2⟩
theorem jEx.r {fs ks : List Nat} {H1 H : jH} (h : jEx fs ks H1 H) (k : Nat) (hk : k ∉ ks) : H1.2.2.1 k 0 = H.2.2.1 k 0 := h.2.2.1 k 0 hk
theorem jEx.v {fs ks : List Nat} {H1 H : jH} (h : jEx fs ks H1 H) (f : Nat) (hf : f ∉ fs) : H1.1 11 f 0 = H.1 11 f 0 := h.1 11 f 0 fun z => hf z.2
theorem j_first_l3 (H0 : jH) : ∀ (m : Nat) (i : Int) (H : jH), i + m = 16 → 0 ≤ i → jEx [56, 57] [99, 100, 101, 105] H H0 → (∀ a, 0 ≤ a → a < 200 → H.2.2.1 99 0 a = 1000) → (∀ j, 0 ≤ j → j < 3200 → H.2.2.1 100 0 j = if j / 16 = j % 16 ∧ j / 16 < i then 100 else 0) → (∀ n, 0 ≤ n → n < i → H.2.2.1 101 0 n = 0 ∧ H.2.2.1 105 0 n = 0) →
    J true d 115 w (48, [(1, .inl i), (0, jT)], [], H) (jN fun v w' H' => v = none ∧ w' = w ∧ rLed H' ∧ jEx [56, 57] [99, 100, 101, 105] H' H0) := by
  intro m
  induction m with
  | zero =>
    intro i H hi h0 hE h1 h2 h3
    refine J.run0 2 rfl ?_
    try dsimp only
    refine J.icmp rfl rfl rfl ⟨⟨by omega, by omega⟩, by omega, by omega⟩ (fun _ => ?_) (fun hc => absurd (show (16 : Int) ≤ i by omega) hc)
    refine J.run0 6 rfl ?_
    try dsimp only
    refine J.retv rfl rfl rfl ⟨_, rfl, rfl, rfl, ⟨h1, fun j a b => ?_, fun n a b => h3 n a (by omega), rfl, rfl⟩, (hE.num (by decide)).num (by decide)⟩
    refine (h2 j a b).trans ?_
    by_cases hz : j / 16 = j % 16
    · rw [if_pos (by omega), if_pos hz]
    · rw [if_neg (by omega), if_neg hz]
  | succ m ih =>
    intro i H hi h0 hE h1 h2 h3
    have hlt : i < 16 := by omega
    refine J.run0 2 rfl ?_
    try dsimp only
    refine J.icmp rfl rfl rfl ⟨⟨by omega, by omega⟩, by omega, by omega⟩ (fun hc => absurd (show (16 : Int) ≤ i from hc) (by omega)) (fun _ => ?_)
    refine J.run 21 rfl ⟨⟨show 0 ≤ 16 * i + i by omega, show 16 * i + i < 3200 by omega⟩, ⟨h0, hlt⟩, Or.inl rfl, h0, hlt⟩ ?_
    try dsimp only
    refine ih (i + 1) _ (by omega) (by omega) (((hE.row (by decide)).row (by decide)).row (by decide)) h1 (fun j a b => ?_) (fun n a b => ?_)
    · show jup (H.2.2.1 100 0) (16 * i + i) 100 j = _
      unfold jup
      by_cases hj : j = 16 * i + i
      · rw [if_pos hj, if_pos (by omega)]
      · rw [if_neg hj, h2 j a b]
        by_cases hz : j / 16 = j % 16 ∧ j / 16 < i
        · rw [if_pos hz, if_pos (by omega)]
        · rw [if_neg hz, if_neg (by omega)]
    · show jup (H.2.2.1 101 0) i 0 n = 0 ∧ jup (H.2.2.1 105 0) i 0 n = 0
      unfold jup
      by_cases hj : n = i
      · rw [if_pos hj, if_pos hj]; exact ⟨rfl, rfl⟩
      · rw [if_neg hj, if_neg hj]
        exact h3 n a (by omega)
theorem j_first_l2 (H0 : jH) : ∀ (m : Nat) (i : Int) (H : jH), i + m = 3200 → 0 ≤ i → jEx [56, 57] [99, 100, 101, 105] H H0 → (∀ a, 0 ≤ a → a < 200 → H.2.2.1 99 0 a = 1000) → (∀ j, 0 ≤ j → j < i → H.2.2.1 100 0 j = 0) →
    J true d 115 w (26, [(1, .inl i), (0, jT)], [], H) (jN fun v w' H' => v = none ∧ w' = w ∧ rLed H' ∧ jEx [56, 57] [99, 100, 101, 105] H' H0) := by
  intro m
  induction m with
  | zero =>
    intro i H hi h0 hE h1 h2
    refine J.run0 2 rfl ?_
    try dsimp only
    refine J.icmp rfl rfl rfl ⟨⟨by omega, by omega⟩, by omega, by omega⟩ (fun _ => ?_) (fun hc => absurd (show (3200 : Int) ≤ i by omega) hc)
    refine J.run0 2 rfl ?_
    try dsimp only
    refine j_first_l3 H0 16 0 H (by omega) (by omega) hE h1 (fun j a b => ?_) (fun n a b => by omega)
    rw [if_neg (by omega)]
    exact h2 j a (by omega)
  | succ m ih =>
    intro i H hi h0 hE h1 h2
    have hlt : i < 3200 := by omega
    refine J.run0 2 rfl ?_
    try dsimp only
    refine J.icmp rfl rfl rfl ⟨⟨by omega, by omega⟩, by omega, by omega⟩ (fun hc => absurd (show (3200 : Int) ≤ i from hc) (by omega)) (fun _ => ?_)
    refine J.run 7 rfl ⟨h0, hlt⟩ ?_
    try dsimp only
    refine ih (i + 1) _ (by omega) (by omega) (hE.row (by decide)) h1 (fun j a b => ?_)
    show jup (H.2.2.1 100 0) i 0 j = 0
    unfold jup
    by_cases hj : j = i
    · rw [if_pos hj]
    · rw [if_neg hj]
      exact h2 j a (by omega)
theorem j_first_l1 (H0 : jH) : ∀ (m : Nat) (i : Int) (H : jH), i + m = 200 → 0 ≤ i → jEx [56, 57] [99, 100, 101, 105] H H0 → (∀ a, 0 ≤ a → a < i → H.2.2.1 99 0 a = 1000) →
    J true d 115 w (2, [(1, .inl i), (0, jT)], [], H) (jN fun v w' H' => v = none ∧ w' = w ∧ rLed H' ∧ jEx [56, 57] [99, 100, 101, 105] H' H0) := by
  intro m
  induction m with
  | zero =>
    intro i H hi h0 hE h1
    refine J.run0 2 rfl ?_
    try dsimp only
    refine J.icmp rfl rfl rfl ⟨⟨by omega, by omega⟩, by omega, by omega⟩ (fun _ => ?_) (fun hc => absurd (show (200 : Int) ≤ i by omega) hc)
    refine J.run0 2 rfl ?_
    try dsimp only
    exact j_first_l2 H0 3200 0 H (by omega) (by omega) hE (fun a b c => h1 a b (by omega)) (fun j a b => by omega)
  | succ m ih =>
    intro i H hi h0 hE h1
    have hlt : i < 200 := by omega
    refine J.run0 2 rfl ?_
    try dsimp only
    refine J.icmp rfl rfl rfl ⟨⟨by omega, by omega⟩, by omega, by omega⟩ (fun hc => absurd (show (200 : Int) ≤ i from hc) (by omega)) (fun _ => ?_)
    refine J.run 7 rfl ⟨h0, hlt⟩ ?_
    try dsimp only
    refine ih (i + 1) _ (by omega) (by omega) (hE.row (by decide)) (fun j a b => ?_)
    show jup (H.2.2.1 99 0) i 1000 j = 1000
    unfold jup
    by_cases hj : j = i
    · rw [if_pos hj]
    · rw [if_neg hj]
      exact h1 j a (by omega)
theorem j_first : J true d 115 w (0, jargs 0 [jT], [], H) (jN fun v w' H' => v = none ∧ w' = w ∧ rLed H' ∧ jEx [56, 57] [99, 100, 101, 105] H' H) := by
  refine J.run0 2 rfl ?_
  try dsimp only
  exact j_first_l1 H 200 0 H (by omega) (by omega) (jEx.refl _ _ _) (fun a b c => by omega)
theorem j_due {h : Int} (hr : H.1 11 56 0 = 0) : J true d 118 w (0, jargs 0 [jT, .inl h], [], H) (jN fun v w' H' => v = none ∧ w' = w ∧ H' = H) := by
  refine J.run0 4 rfl ?_
  try dsimp only
  refine J.run0 3 rfl ?_
  try dsimp only
  refine J.icmp rfl rfl rfl ⟨⟨by decide, by decide⟩, show -2147483648 ≤ H.1 11 56 0 by omega, show H.1 11 56 0 ≤ 2147483647 by omega⟩ (fun _ => ?_) (fun hc => absurd (show H.1 11 56 0 ≤ 0 by omega) hc)
  refine J.run0 3 rfl ?_
  try dsimp only
  refine J.heq (hV_same H 56 hr) ?_
  exact J.retv rfl rfl rfl ⟨_, rfl, rfl, rfl, rfl⟩
end JM4
