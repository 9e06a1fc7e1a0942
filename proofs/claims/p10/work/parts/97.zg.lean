/-! what NODES KNOW -/
section GK
def gK (H : jH) : Prop := ∀ n, 0 ≤ n → n < 16 → H.2.2.1 113 0 n ≤ H.2.2.1 71 0 n ∧ H.2.2.1 71 0 n = jcnt (fun z => H.2.2.1 114 0 (6000 * n + z)) 6000 ∧ ∀ m, 0 ≤ m → m < 6000 → H.2.2.1 114 0 (6000 * n + m) = 1 → ∃ k, 0 ≤ k ∧ k < H.2.2.1 71 0 n ∧ H.2.2.1 70 0 (6000 * n + k) = m
theorem gK.ex {fs ks : List Nat} {H H1 : jH} (h : gK H) (hE : jEx fs ks H1 H) (hk : 113 ∉ ks ∧ 71 ∉ ks ∧ 114 ∉ ks ∧ 70 ∉ ks) : gK H1 := by
  unfold gK at h ⊢
  rw [hE.r 113 hk.1, hE.r 71 hk.2.1, hE.r 114 hk.2.2.1, hE.r 70 hk.2.2.2]
  exact h
theorem jcnt_lt {g : Int → Int} {m : Nat} {i : Int} (h : ∀ j, 0 ≤ g j ∧ g j ≤ 1) (h0 : 0 ≤ i) (h1 : i < m) (hz : g i = 0) : jcnt g m < m := by
  have e := jcnt_up (g := g) (i := i) (x := 1) m h0 h1
  have l := (jcnt_le (g := jup g i 1) m fun j _ _ => by
    have := h j
    unfold jup
    by_cases hj : j = i
    · rw [if_pos hj]; exact Or.inr rfl
    · rw [if_neg hj]; omega).2
  omega
variable {H H' : jH}
theorem gK.room (h : gK H) (hT : gT H) {n m : Int} (hn : 0 ≤ n ∧ n < 16) (hm : 0 ≤ m ∧ m < 6000) (hz : H.2.2.1 114 0 (6000 * n + m) = 0) : H.2.2.1 71 0 n < 6000 := by
  rw [(h n hn.1 hn.2).2.1]
  exact jcnt_lt (g := fun z => H.2.2.1 114 0 (6000 * n + z)) (m := 6000) (i := m) (fun j => (show 0 ≤ H.2.2.1 114 0 (6000 * n + j) ∧ H.2.2.1 114 0 (6000 * n + j) ≤ 1 from hT.1 114 _)) hm.1 hm.2 hz
theorem gK.know (h : gK H) (hT : gT H) {n m : Int} (hn : 0 ≤ n ∧ n < 16) (hm : 0 ≤ m ∧ m < 6000) (hz : H.2.2.1 114 0 (6000 * n + m) = 0)
    (e1 : H'.2.2.1 70 0 = jup (H.2.2.1 70 0) (6000 * n + H.2.2.1 71 0 n) m) (e2 : H'.2.2.1 71 0 = jup (H.2.2.1 71 0) n (H.2.2.1 71 0 n + 1)) (e3 : H'.2.2.1 114 0 = jup (H.2.2.1 114 0) (6000 * n + m) 1) (e4 : H'.2.2.1 113 0 = H.2.2.1 113 0 ∨ H'.2.2.1 113 0 = jup (H.2.2.1 113 0) n (H.2.2.1 113 0 n + 1)) : gK H' := by
  have hr := h.room hT hn hm hz
  have hk0 : 0 ≤ H.2.2.1 71 0 n ∧ H.2.2.1 71 0 n ≤ 6000 := hT.1 71 n
  intro n' h0 h1
  obtain ⟨k1, k2, k3⟩ := h n' h0 h1
  have hk' : 0 ≤ H.2.2.1 71 0 n' ∧ H.2.2.1 71 0 n' ≤ 6000 := hT.1 71 n'
  by_cases hn' : n' = n
  · subst hn'
    have q2 : H'.2.2.1 71 0 n' = H.2.2.1 71 0 n' + 1 := by rw [e2]; exact if_pos rfl
    refine ⟨?_, ?_, fun m' hm0 hm1 hf => ?_⟩
    · rw [q2]
      rcases e4 with e4 | e4
      · rw [e4]; omega
      · have : H'.2.2.1 113 0 n' = H.2.2.1 113 0 n' + 1 := by rw [e4]; exact if_pos rfl
        omega
    · have ef : (fun z => H'.2.2.1 114 0 (6000 * n' + z)) = jup (fun z => H.2.2.1 114 0 (6000 * n' + z)) m 1 := by
        funext z
        rw [e3]
        unfold jup
        by_cases hzm : z = m
        · rw [if_pos (by omega), if_pos hzm]
        · rw [if_neg (by omega), if_neg hzm]
      rw [q2, ef, jcnt_up 6000 hm.1 hm.2, ← k2]
      show _ = _ + (1 - H.2.2.1 114 0 (6000 * n' + m))
      omega
    · rw [q2]
      by_cases hmm : m' = m
      · exact ⟨H.2.2.1 71 0 n', hk0.1, by omega, by rw [e1, hmm]; exact if_pos rfl⟩
      · rw [e3] at hf
        unfold jup at hf
        rw [if_neg (by omega)] at hf
        obtain ⟨k, a, b, c⟩ := k3 m' hm0 hm1 hf
        refine ⟨k, a, by omega, ?_⟩
        rw [e1]
        unfold jup
        rw [if_neg (by omega)]
        exact c
  · have q2 : H'.2.2.1 71 0 n' = H.2.2.1 71 0 n' := by rw [e2]; exact if_neg hn'
    refine ⟨?_, ?_, fun m' hm0 hm1 hf => ?_⟩
    · rw [q2]
      rcases e4 with e4 | e4
      · rw [e4]; exact k1
      · have : H'.2.2.1 113 0 n' = H.2.2.1 113 0 n' := by rw [e4]; exact if_neg hn'
        omega
    · rw [q2, k2]
      refine jcnt_ext 6000 fun j hj => ?_
      show _ = H'.2.2.1 114 0 (6000 * n' + j)
      rw [e3]
      unfold jup
      rw [if_neg (by omega)]
    · rw [q2]
      rw [e3] at hf
      unfold jup at hf
      rw [if_neg (by omega)] at hf
      obtain ⟨k, a, b, c⟩ := k3 m' hm0 hm1 hf
      refine ⟨k, a, b, ?_⟩
      rw [e1]
      unfold jup
      rw [if_neg (by omega)]
      exact c
end GK
section GN
/-- nobody KNOWS what was not sent -/
def gN (H : jH) : Prop := ∀ n m, 0 ≤ n → n < 16 → H.1 11 19 0 ≤ m → m < 6000 → H.2.2.1 114 0 (6000 * n + m) = 0
theorem gN.ex {fs ks : List Nat} {H H1 : jH} (h : gN H) (hE : jEx fs ks H1 H) (hk : 114 ∉ ks ∧ 19 ∉ fs) : gN H1 := by
  unfold gN at h ⊢
  rw [hE.r 114 hk.1, hE.v 19 hk.2]
  exact h
theorem gN.know {H H' : jH} (h : gN H) {n m : Int} (hn : 0 ≤ n ∧ n < 16) (hm : 0 ≤ m ∧ m < H.1 11 19 0) (h6 : m < 6000) (e3 : H'.2.2.1 114 0 = jup (H.2.2.1 114 0) (6000 * n + m) 1) (e5 : H'.1 11 19 0 = H.1 11 19 0) : gN H' := by
  intro n' m' a b c d'
  rw [e5] at c
  rw [e3]
  unfold jup
  rw [if_neg (by omega)]
  exact h n' m' a b c d'
theorem gN.up {H : jH} (h : gN H) {y : Int} (hy : H.1 11 19 0 ≤ y) : gN (jupF H.1 11 19 0 y, H.2) := by
  intro n m a b c d'
  have c' : y ≤ m := c
  exact h n m a b (by omega) d'
end GN
section GB
/-- who is DOWN knows nothing and is not FAULTY -/
def gB (H : jH) : Prop := ∀ n, 0 ≤ n → n < 16 → H.2.2.1 80 0 n = 1 → H.2.2.1 71 0 n = 0 ∧ H.2.2.1 79 0 n = 0
theorem gB.ex {fs ks : List Nat} {H H1 : jH} (h : gB H) (hE : jEx fs ks H1 H) (hk : 80 ∉ ks ∧ 71 ∉ ks ∧ 79 ∉ ks) : gB H1 := by
  unfold gB at h ⊢
  rw [hE.r 80 hk.1, hE.r 71 hk.2.1, hE.r 79 hk.2.2]
  exact h
theorem gB.wk {H : jH} {x y : Int} (h : gB H) (hx : H.2.2.1 80 0 x = 0) : gB (H.1, H.2.1, jsetR H.2.2.1 71 0 (jup (H.2.2.1 71 0) x y), H.2.2.2) := by
  intro n a b c
  have c' : H.2.2.1 80 0 n = 1 := c
  obtain ⟨q1, q2⟩ := h n a b c'
  refine ⟨?_, q2⟩
  show jup (H.2.2.1 71 0) x y n = 0
  unfold jup
  by_cases hn : n = x
  · rw [hn] at c'; omega
  · rw [if_neg hn]; exact q1
theorem gB.wd {H : jH} {x y : Int} (h : gB H) (hy : y = 0) : gB (H.1, H.2.1, jsetR H.2.2.1 80 0 (jup (H.2.2.1 80 0) x y), H.2.2.2) := by
  intro n a b c
  have c' : jup (H.2.2.1 80 0) x y n = 1 := c
  unfold jup at c'
  by_cases hn : n = x
  · rw [if_pos hn] at c'; omega
  · rw [if_neg hn] at c'
    exact h n a b c'
theorem gB.fault {H H' : jH} {n : Int} (h : gB H) (e1 : H'.2.2.1 79 0 = jup (H.2.2.1 79 0) n 1) (e2 : H'.2.2.1 80 0 = jup (H.2.2.1 80 0) n 0) (e3 : H'.2.2.1 71 0 = H.2.2.1 71 0) : gB H' := by
  intro i a b
  rw [e1, e2, e3]
  unfold jup
  by_cases hn : i = n
  · rw [if_pos hn]; intro z; omega
  · rw [if_neg hn, if_neg hn]; exact h i a b
theorem gB.rec {H H' : jH} {n : Int} (h : gB H) (hf : H.2.2.1 79 0 n = 0) (e1 : H'.2.2.1 79 0 = H.2.2.1 79 0) (e2 : (H'.2.2.1 80 0 = H.2.2.1 80 0 ∧ H'.2.2.1 71 0 = H.2.2.1 71 0) ∨ (H'.2.2.1 80 0 = jup (H.2.2.1 80 0) n 1 ∧ H'.2.2.1 71 0 = jup (H.2.2.1 71 0) n 0)) : gB H' := by
  intro i a b
  rcases e2 with ⟨e2, e3⟩ | ⟨e2, e3⟩
  · rw [e1, e2, e3]; exact h i a b
  · rw [e1, e2, e3]
    unfold jup
    by_cases hn : i = n
    · rw [if_pos hn, if_pos hn, hn]; exact fun _ => ⟨rfl, hf⟩
    · rw [if_neg hn, if_neg hn]; exact h i a b
end GB
section GU
/-- from this NODE on none has RECORDS or is DOWN -/
def gU (H : jH) (u : Int) : Prop := ∀ i, 0 ≤ i → u ≤ i → i < 16 → H.2.2.1 83 0 i = 0 ∧ H.2.2.1 80 0 i = 0
theorem gU.triv {H : jH} : gU H 16 := fun i _ h1 h2 => absurd h1 (by omega)
theorem gU.up {H : jH} {u : Int} (h : gU H u) : gU H (u + 1) := fun i h0 h1 h2 => h i h0 (by omega) h2
theorem gU.ex {fs ks : List Nat} {H H1 : jH} {u : Int} (h : gU H u) (hE : jEx fs ks H1 H) (hk : 83 ∉ ks ∧ 80 ∉ ks) : gU H1 u := by
  unfold gU at h ⊢
  rw [hE.r 83 hk.1, hE.r 80 hk.2]
  exact h
theorem gU.wr {H : jH} {u x y : Int} (h : gU H u) (hx : x < u) : gU (H.1, H.2.1, jsetR H.2.2.1 83 0 (jup (H.2.2.1 83 0) x y), H.2.2.2) u := by
  intro i h0 h1 h2
  refine ⟨?_, (h i h0 h1 h2).2⟩
  show jup (H.2.2.1 83 0) x y i = 0
  unfold jup
  rw [if_neg (by omega)]
  exact (h i h0 h1 h2).1
theorem gU.wd {H : jH} {u x y : Int} (h : gU H u) (hx : x < u) : gU (H.1, H.2.1, jsetR H.2.2.1 80 0 (jup (H.2.2.1 80 0) x y), H.2.2.2) u := by
  intro i h0 h1 h2
  refine ⟨(h i h0 h1 h2).1, ?_⟩
  show jup (H.2.2.1 80 0) x y i = 0
  unfold jup
  rw [if_neg (by omega)]
  exact (h i h0 h1 h2).2
end GU
