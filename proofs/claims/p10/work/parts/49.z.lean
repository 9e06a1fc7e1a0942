section ZI
variable {z : zT} {n : Nat}
theorem zInv.st (h : zInv z) (hn : n < 16) {s e : Nat} (hs : s ≤ 2) (he : e ≤ 1) (hr : nr z n ≤ s + 1) : zInv (zst z n s e) := by
  obtain ⟨h1, h2, h3, h4, h5⟩ := h
  have hat := zN_at z n (nh z n, s, e, nr z n, nK z n)
  refine ⟨h1, h2, h3, fun m hm => ?_, fun x a b => ?_⟩
  · by_cases hmn : m = n
    · subst hmn
      have := h4 m hm
      unfold zst nh ns ne nr nK
      rw [hat]
      exact ⟨this.1, hs, he, hr, this.2.2.2.2⟩
    · unfold zst nh ns ne nr nK
      rw [zN_ne z _ hmn]
      exact h4 m hm
  · have := h5 x a b
    by_cases hx : zP x = n
    · unfold zst nh
      rw [hx, hat]
      rw [hx] at this
      exact ⟨this.1, hn⟩
    · unfold zst nh
      rw [zN_ne z _ hx]
      exact this
theorem zInv.know (h : zInv z) (hn : n < 16) {m : Nat} (hm : m < zM z) (hk : m ∉ nK z n) : zInv (zknow z n m) := by
  obtain ⟨h1, h2, h3, h4, h5⟩ := h
  have hat := zN_at z n (nh z n, ns z n, ne z n, nr z n, nK z n ++ [m])
  refine ⟨h1, h2, h3, fun m' hm' => ?_, fun x a b => ?_⟩
  · by_cases hmn : m' = n
    · subst hmn
      have := h4 m' hm'
      unfold zknow nh ns ne nr nK
      rw [hat]
      refine ⟨this.1, this.2.1, this.2.2.1, this.2.2.2.1, fun i hi => ?_, ?_⟩
      · rcases List.mem_append.mp hi with hi | hi
        · exact this.2.2.2.2.1 i hi
        · rw [List.mem_singleton.mp hi]; exact hm
      · exact List.nodup_append.mpr ⟨this.2.2.2.2.2, by simp, fun a ha b hb => by
          rw [List.mem_singleton.mp hb]
          exact fun z => hk (z ▸ ha)⟩
    · unfold zknow nh ns ne nr nK
      rw [zN_ne z _ hmn]
      exact h4 m' hm'
  · have := h5 x a b
    by_cases hx : zP x = n
    · unfold zknow nh
      rw [hx, hat]
      rw [hx] at this
      exact ⟨this.1, hn⟩
    · unfold zknow nh
      rw [zN_ne z _ hx]
      exact this
theorem zInv.send (h : zInv z) (hn : n < 16) {kd : Nat} (hkd : kd ≤ 2) (hB : nh z n < zB z) (hh : nh z n ≤ 120) (hr : nr z n ≤ ns z n) (hp : kd = 0 → n = zP (nh z n) ∧ ∀ i, i < zM z → zk z i = 0 → zh z i ≠ nh z n) : zInv (zsend z n kd) := by
  unfold zsend
  split
  · exact h
  · rename_i hM
    obtain ⟨h1, h2, h3, h4, h5⟩ := h
    have hM' : z.1 ≤ 6000 := h1.1
    have hs : ∀ i, i < z.1 → va_up z.2.1 z.1 (kd, n, nh z n) i = z.2.1 i := fun i hi => if_neg (by omega)
    have he : va_up z.2.1 z.1 (kd, n, nh z n) z.1 = (kd, n, nh z n) := if_pos rfl
    have hat : va_up z.2.2.2 n (nh z n, ns z n, ne z n, nr z n + 1, nK z n ++ [z.1]) n = (nh z n, ns z n, ne z n, nr z n + 1, nK z n ++ [z.1]) := if_pos rfl
    refine ⟨⟨by show z.1 + 1 ≤ 6000; omega, h1.2⟩, fun i hi => ?_, fun i j hi hj => ?_, fun m hm => ?_, fun x a b => ?_⟩
    · have hi' : i < z.1 + 1 := hi
      unfold zk zn zh
      try dsimp only
      by_cases hiM : i = z.1
      · subst hiM
        rw [he]
        have h1n : 1 ≤ nh z n := (h4 n hn).1.1
        exact ⟨hkd, hn, h1n, hB, hh, fun hz => (hp hz).1⟩
      · rw [hs i (by omega)]
        exact h2 i (show i < z.1 by omega)
    · have hi' : i < z.1 + 1 := hi
      have hj' : j < z.1 + 1 := hj
      unfold zk zh
      try dsimp only
      by_cases hiM : i = z.1
      · by_cases hjM : j = z.1
        · intro _ _ _; omega
        · rw [hiM, he, hs j (by omega)]
          intro a b c
          exact absurd c.symm ((hp a).2 j (show j < z.1 by omega) b)
      · by_cases hjM : j = z.1
        · rw [hjM, he, hs i (by omega)]
          intro a b c
          exact absurd c ((hp b).2 i (show i < z.1 by omega) a)
        · rw [hs i (by omega), hs j (by omega)]
          exact h3 i j (show i < z.1 by omega) (show j < z.1 by omega)
    · by_cases hmn : m = n
      · subst hmn
        have := h4 m hm
        unfold nh ns ne nr nK
        try dsimp only
        rw [hat]
        refine ⟨this.1, this.2.1, this.2.2.1, ?_, fun i hi => ?_, ?_⟩
        · show nr z m + 1 ≤ ns z m + 1
          omega
        · rcases List.mem_append.mp hi with hi | hi
          · have := this.2.2.2.2.1 i hi
            show i < z.1 + 1
            have h9 : i < z.1 := this
            omega
          · rw [List.mem_singleton.mp hi]
            show z.1 < z.1 + 1
            omega
        · exact List.nodup_append.mpr ⟨this.2.2.2.2.2, by simp, fun a ha b hb => by
            rw [List.mem_singleton.mp hb]
            have h9 : a < z.1 := this.2.2.2.2.1 a ha
            omega⟩
      · have hne : va_up z.2.2.2 n (nh z n, ns z n, ne z n, nr z n + 1, nK z n ++ [z.1]) m = z.2.2.2 m := if_neg hmn
        have := h4 m hm
        unfold nh ns ne nr nK
        try dsimp only
        rw [hne]
        refine ⟨this.1, this.2.1, this.2.2.1, this.2.2.2.1, fun i hi => ?_, this.2.2.2.2.2⟩
        have h9 : i < z.1 := this.2.2.2.2.1 i hi
        show i < z.1 + 1
        omega
    · have := h5 x a b
      by_cases hx : zP x = n
      · unfold nh
        try dsimp only
        rw [hx, hat]
        rw [hx] at this
        exact ⟨this.1, hn⟩
      · have hne : va_up z.2.2.2 n (nh z n, ns z n, ne z n, nr z n + 1, nK z n ++ [z.1]) (zP x) = z.2.2.2 (zP x) := if_neg hx
        unfold nh
        try dsimp only
        rw [hne]
        exact this
theorem zInv.begin1 (h : zInv z) (hn : n < 16) (hr : nr z n = 0) (c1 : nh z n ≤ 120) (c2 : zP (nh z n) = n) (c4 : z.2.2.1 < 300) (hBh : zB z = nh z n) : zInv (z.1, z.2.1, z.2.2.1 + 1, va_up z.2.2.2 n (nh z n, 0, 0, nr z n, nK z n)) := by
  have hBh' : z.2.2.1 = nh z n := hBh
  obtain ⟨h1, h2, h3, h4, h5⟩ := h
  have hat : va_up z.2.2.2 n (nh z n, 0, 0, nr z n, nK z n) n = (nh z n, 0, 0, nr z n, nK z n) := if_pos rfl
  refine ⟨⟨h1.1, by show 1 ≤ z.2.2.1 + 1; omega, by show z.2.2.1 + 1 ≤ 300; omega⟩, fun i hi => ?_, h3, fun m hm => ?_, fun x a b => ?_⟩
  · have := h2 i hi
    have h9 : zh z i < z.2.2.1 := this.2.2.2.1
    exact ⟨this.1, this.2.1, this.2.2.1, by show zh z i < z.2.2.1 + 1; omega, this.2.2.2.2⟩
  · by_cases hmn : m = n
    · subst hmn
      have := h4 m hm
      unfold nh ns ne nr nK
      try dsimp only
      rw [hat]
      have h9 : nh z m ≤ z.2.2.1 := this.1.2.1
      exact ⟨⟨this.1.1, by show nh z m ≤ z.2.2.1 + 1; omega, this.1.2.2⟩, by show 0 ≤ 2; omega, by show 0 ≤ 1; omega, by show nr z m ≤ 0 + 1; omega, this.2.2.2.2⟩
    · have hne : va_up z.2.2.2 n (nh z n, 0, 0, nr z n, nK z n) m = z.2.2.2 m := if_neg hmn
      have := h4 m hm
      unfold nh ns ne nr nK
      try dsimp only
      rw [hne]
      have h9 : nh z m ≤ z.2.2.1 := this.1.2.1
      exact ⟨⟨this.1.1, by show nh z m ≤ z.2.2.1 + 1; omega, this.1.2.2⟩, this.2⟩
  · have b' : x < z.2.2.1 + 1 := b
    refine ⟨?_, zP_lt x⟩
    by_cases hx : zP x = n
    · unfold nh
      try dsimp only
      rw [hx, hat]
      show x ≤ nh z n
      omega
    · have hne : va_up z.2.2.2 n (nh z n, 0, 0, nr z n, nK z n) (zP x) = z.2.2.2 (zP x) := if_neg hx
      unfold nh
      try dsimp only
      rw [hne]
      have hxne : x ≠ nh z n := fun hz => hx (by rw [hz]; exact c2)
      exact (h5 x a (show x < z.2.2.1 by omega)).1
theorem zInv.begin (h : zInv z) (hn : n < 16) (hr : nr z n = 0) (hb : nh z n ≤ 120 → zP (nh z n) = n → zB z = nh z n) : zInv (zbegin z n) := by
  unfold zbegin
  split
  · rename_i hc
    obtain ⟨c1, c2, c3, c4⟩ := hc
    have hBh := hb c1 c2
    have hBh' : z.2.2.1 = nh z n := hBh
    have hz1 := h.begin1 hn hr c1 c2 c4 hBh
    have hat : va_up z.2.2.2 n (nh z n, 0, 0, nr z n, nK z n) n = (nh z n, 0, 0, nr z n, nK z n) := if_pos rfl
    have e1 : nh (z.1, z.2.1, z.2.2.1 + 1, va_up z.2.2.2 n (nh z n, 0, 0, nr z n, nK z n)) n = nh z n := by
      show (va_up z.2.2.2 n (nh z n, 0, 0, nr z n, nK z n) n).1 = _
      rw [hat]
    have e2 : nr (z.1, z.2.1, z.2.2.1 + 1, va_up z.2.2.2 n (nh z n, 0, 0, nr z n, nK z n)) n = 0 := by
      show (va_up z.2.2.2 n (nh z n, 0, 0, nr z n, nK z n) n).2.2.2.1 = _
      rw [hat]
      exact hr
    refine hz1.send hn (by omega) ?_ ?_ (by rw [e2]; omega) fun _ => ⟨?_, fun i hi hk => ?_⟩
    · rw [e1]
      show nh z n < z.2.2.1 + 1
      omega
    · rw [e1]; exact c1
    · rw [e1]; exact c2.symm
    · rw [e1]
      have := (h.2.1 i hi).2.2.2.1
      have h9 : zh z i < z.2.2.1 := this
      show zh z i ≠ nh z n
      omega
  · exact h.st hn (by omega) (by omega) (by omega)
theorem zInv.decide1 (h : zInv z) (hn : n < 16) (hB : nh z n < zB z) (hh : nh z n ≤ 120) : zInv (zN z n (nh z n + 1, ns z n, ne z n, 0, nK z n)) ∧ (nh (zN z n (nh z n + 1, ns z n, ne z n, 0, nK z n)) n ≤ 120 → zP (nh (zN z n (nh z n + 1, ns z n, ne z n, 0, nK z n)) n) = n → zB (zN z n (nh z n + 1, ns z n, ne z n, 0, nK z n)) = nh (zN z n (nh z n + 1, ns z n, ne z n, 0, nK z n)) n) := by
  have hat := zN_at z n (nh z n + 1, ns z n, ne z n, 0, nK z n)
  have e1 : nh (zN z n (nh z n + 1, ns z n, ne z n, 0, nK z n)) n = nh z n + 1 := by unfold nh; rw [hat]
  obtain ⟨h1, h2, h3, h4, h5⟩ := h
  refine ⟨⟨h1, h2, h3, fun m hm => ?_, fun x a b => ?_⟩, ?_⟩
  · by_cases hmn : m = n
    · subst hmn
      have := h4 m hm
      unfold nh ns ne nr nK
      rw [hat]
      exact ⟨⟨by show 1 ≤ nh z m + 1; omega, by show nh z m + 1 ≤ z.2.2.1; exact hB, by show nh z m + 1 ≤ 121; omega⟩, this.2.1, this.2.2.1, by show 0 ≤ ns z m + 1; omega, this.2.2.2.2⟩
    · unfold nh ns ne nr nK
      rw [zN_ne z _ hmn]
      exact h4 m hm
  · have := h5 x a b
    by_cases hx : zP x = n
    · unfold nh
      rw [hx, hat]
      rw [hx] at this
      have h9 := this.1
      exact ⟨by show x ≤ nh z n + 1; omega, hn⟩
    · unfold nh
      rw [zN_ne z _ hx]
      exact this
  · rw [e1]
    intro _ hp
    show z.2.2.1 = nh z n + 1
    have hB' : nh z n < z.2.2.1 := hB
    refine Nat.le_antisymm (Nat.le_of_not_lt fun hlt => ?_) hB'
    have := (h5 (nh z n + 1) (by omega) hlt).1
    rw [hp] at this
    omega
theorem zInv.decide (h : zInv z) (hn : n < 16) (hB : nh z n < zB z) (hh : nh z n ≤ 120) : zInv (zdecide z n) := by
  have h1 := h.decide1 hn hB hh
  exact h1.1.begin hn (by unfold nr; rw [zN_at]) h1.2
theorem zprop_B (h : zInv z) (hn : n < 16) (hp : zprop z n = true) : nh z n < zB z ∧ nh z n ≤ 120 := by
  unfold zprop at hp
  obtain ⟨i, hi, hc⟩ := List.any_eq_true.mp hp
  simp only [Bool.and_eq_true, beq_iff_eq] at hc
  have := h.2.1 i ((h.2.2.2.1 n hn).2.2.2.2.1 i hi)
  rw [← hc.2]
  exact ⟨this.2.2.2.1, this.2.2.2.2.1⟩
theorem zInv.move (h : zInv z) (hn : n < 16) {z' : zT} (hm : zmove z n = some z') : zInv z' := by
  have h4 := h.2.2.2.1 n hn
  have hsend : ∀ {s e kd : Nat}, zprop z n = true → s ≤ 2 → e ≤ 1 → nr z n ≤ s → kd ≤ 2 → kd ≠ 0 → zInv (zsend (zst z n s e) n kd) := by
    intro s e kd hp hs he hr hk hk0
    have hat := zN_at z n (nh z n, s, e, nr z n, nK z n)
    have hB := zprop_B h hn hp
    have e1 : nh (zst z n s e) n = nh z n := by unfold zst nh; rw [hat]
    have e2 : nr (zst z n s e) n = nr z n := by unfold zst nr; rw [hat]
    have e3 : ns (zst z n s e) n = s := by unfold zst ns; rw [hat]
    exact (h.st hn hs he (by omega)).send hn hk (by rw [e1]; exact hB.1) (by rw [e1]; exact hB.2) (by rw [e2, e3]; exact hr) fun z => absurd z hk0
  unfold zmove at hm
  split at hm
  · rename_i hc; cases hm
    have hB := zprop_B h hn hc.1
    exact h.decide hn hB.1 hB.2
  · split at hm
    · rename_i hc; cases hm
      exact hsend hc.1 (by omega) h4.2.2.1 (by have := h4.2.2.2.1; omega) (by omega) (by omega)
    · split at hm
      · rename_i hc; cases hm
        split
        · rename_i hs
          exact hsend hc.1 (by omega) (by omega) (by have := h4.2.2.2.1; omega) (by omega) (by omega)
        · exact h.st hn h4.2.1 (by omega) h4.2.2.2.1
      · cases hm
/-- a move leads on -/
def zmu (z : zT) (n : Nat) : Nat := 3 * (121 - nh z n) + (if ns z n = 0 then 1 else 0) + (1 - ne z n)
theorem zsend_node (z : zT) (n kd : Nat) : nh (zsend z n kd) n = nh z n ∧ ns (zsend z n kd) n = ns z n ∧ ne (zsend z n kd) n = ne z n := by
  unfold zsend
  split
  · exact ⟨rfl, rfl, rfl⟩
  · have hat : va_up z.2.2.2 n (nh z n, ns z n, ne z n, nr z n + 1, nK z n ++ [z.1]) n = (nh z n, ns z n, ne z n, nr z n + 1, nK z n ++ [z.1]) := if_pos rfl
    unfold nh ns ne
    try dsimp only
    rw [hat]
    exact ⟨rfl, rfl, rfl⟩
theorem zst_node (z : zT) (n s e : Nat) : nh (zst z n s e) n = nh z n ∧ ns (zst z n s e) n = s ∧ ne (zst z n s e) n = e := by
  unfold zst nh ns ne
  rw [zN_at]
  exact ⟨rfl, rfl, rfl⟩
theorem zbegin_node (z : zT) (n : Nat) : nh (zbegin z n) n = nh z n ∧ ns (zbegin z n) n = 0 ∧ ne (zbegin z n) n = 0 := by
  unfold zbegin
  split
  · have h := zsend_node (z.1, z.2.1, z.2.2.1 + 1, va_up z.2.2.2 n (nh z n, 0, 0, nr z n, nK z n)) n 0
    have hat : va_up z.2.2.2 n (nh z n, 0, 0, nr z n, nK z n) n = (nh z n, 0, 0, nr z n, nK z n) := if_pos rfl
    refine ⟨h.1.trans ?_, h.2.1.trans ?_, h.2.2.trans ?_⟩
    · unfold nh; dsimp only; rw [hat]
    · unfold ns; dsimp only; rw [hat]
    · unfold ne; dsimp only; rw [hat]
  · exact zst_node z n 0 0
theorem zmu_move (h : zInv z) (hn : n < 16) {z' : zT} (hm : zmove z n = some z') : zmu z' n < zmu z n := by
  have h4 := h.2.2.2.1 n hn
  unfold zmove at hm
  split at hm
  · rename_i hc; cases hm
    have hB := zprop_B h hn hc.1
    have e := zbegin_node (zN z n (nh z n + 1, ns z n, ne z n, 0, nK z n)) n
    have e1 : nh (zN z n (nh z n + 1, ns z n, ne z n, 0, nK z n)) n = nh z n + 1 := by unfold nh; rw [zN_at]
    unfold zmu zdecide
    rw [e.1, e.2.1, e.2.2, e1]
    split <;> omega
  · split at hm
    · rename_i hc; cases hm
      have e := zsend_node (zst z n 1 (ne z n)) n 1
      have e1 := zst_node z n 1 (ne z n)
      unfold zmu
      rw [e.1, e.2.1, e.2.2, e1.1, e1.2.1, e1.2.2, if_pos hc.2, if_neg (by omega)]
      omega
    · split at hm
      · rename_i hc; cases hm
        split
        · rename_i hs
          have e := zsend_node (zst z n 2 1) n 2
          have e1 := zst_node z n 2 1
          unfold zmu
          rw [e.1, e.2.1, e.2.2, e1.1, e1.2.1, e1.2.2, if_neg (by omega), if_neg (by omega)]
          omega
        · have e1 := zst_node z n (ns z n) 1
          unfold zmu
          rw [e1.1, e1.2.1, e1.2.2]
          omega
      · cases hm
theorem zInv.act (hn : n < 16) : ∀ (f : Nat) (z : zT), zInv z → zInv (zact f z n)
  | 0, z, h => h
  | f + 1, z, h => by
    unfold zact
    split
    · split
      · rename_i z' hz
        exact zInv.act hn f z' (h.move hn hz)
      · exact h
    · exact h
theorem zInv.came (h : zInv z) (hn : n < 16) {m : Nat} (hm : m < zM z) : zInv (zcame z m n) := by
  unfold zcame
  split
  · exact h
  · rename_i hk
    exact zInv.act hn 500 _ (h.know hn hm hk)
end ZI
