/-! ranges of the reference's rows and numbers -/
def gtb : List (Option (Int × Int)) := [
some (0, 4), some (0, 199), some (0, 5999), some (-2147483648, 2147483647), none, some (-1, 299), some (0, 300), some (-1, 15), some (0, 12), some (0, 1499), some (0, 40320000), some (0, 2), none, some (0, 2), some (0, 15), some (0, 301), some (0, 31), some (-1, 299), some (-1, 31), none, some (0, 5999), some (0, 6000), some (0, 299), some (0, 31), some (0, 2), some (-1, 299), some (-1, 31), some (-1, 299), some (-1, 31), some (0, 1), some (0, 1), some (0, 1), some (0, 13), some (0, 96), some (0, 11), some (-1, 5999), some (0, 2), some (0, 31), some (-1, 299), some (-1, 31), some (0, 2), some (-1, 299), some (-1, 31), some (-1, 299), some (-1, 31), none, none, none, none, some (0, 201600), some (0, 201600), some (0, 301), some (0, 199), some (0, 201600), some (0, 304), some (0, 1), none, none, some (0, 299), some (0, 5999), some (0, 40320000), some (0, 645120000), some (0, 5999), some (0, 6000), some (0, 1), some (0, 1)]
def gvt : List (Option (Int × Int)) := [none, none, none, none, some (0, 1500), none, none, none, none, none, none, none, some (1, 300), none, none, none, none, none, none, some (0, 6000), none, none, none, none, none, none, none, none, none, none, none, none, none, none, none, none, none, none, none, none, none, none, none, none, none, some (0, 299), none, some (0, 3), some (-1, 299), none, none, none, none, none, none, none, some (0, 32), some (0, 201600), none, none, none, none, none, none, none, none]
def gbk (k : Nat) : Bool := [55, 67, 72, 77, 88, 93].contains k
def gbf (f : Nat) : Bool := [45, 48].contains f
section GT
def gri (k : Nat) (x : Int) : Prop := match Nat.ble 50 k with
  | false => True
  | true => match gtb[k - 50]? with
    | some (some (lo, hi)) => lo ≤ x ∧ x ≤ hi
    | _ => True
def gvi (f : Nat) (x : Int) : Prop := match gvt[f]? with
  | some (some (lo, hi)) => lo ≤ x ∧ x ≤ hi
  | _ => True
def gT (H : jH) : Prop := (∀ k i, gri k (H.2.2.1 k 0 i)) ∧ (∀ f, gvi f (H.1 11 f 0)) ∧ (∀ k i, gbk k = true → H.2.2.1 k 0 i < H.1 11 12 0) ∧ ∀ f, gbf f = true → H.1 11 f 0 < H.1 11 12 0
theorem gT.upd {H : jH} {k : Nat} {i x : Int} (h : gT H) (hx : gri k x) (hb : gbk k = true → x < H.1 11 12 0) : gT (H.1, H.2.1, jsetR H.2.2.1 k 0 (jup (H.2.2.1 k 0) i x), H.2.2.2) := by
  have key : ∀ (P : Nat → Int → Prop), (∀ k i, P k (H.2.2.1 k 0 i)) → P k x → ∀ k' i', P k' (jsetR H.2.2.1 k 0 (jup (H.2.2.1 k 0) i x) k' 0 i') := by
    intro P h1 h2 k' i'
    by_cases hk : k' = k
    · subst hk
      rw [jsetR_eq]
      unfold jup
      by_cases hi : i' = i
      · rw [if_pos hi]; exact h2
      · rw [if_neg hi]; exact h1 _ _
    · rw [jsetR_ne fun z => hk z.1]
      exact h1 _ _
  exact ⟨key gri h.1 hx, h.2.1, key (fun k x => gbk k = true → x < H.1 11 12 0) h.2.2.1 hb, h.2.2.2⟩
theorem gT.num {H : jH} {f : Nat} {x : Int} (h : gT H) (hx : gvi f x) (h12 : f ≠ 12) (hb : gbf f = true → x < H.1 11 12 0) : gT (jupF H.1 11 f 0 x, H.2) := by
  have key : ∀ (P : Nat → Int → Prop), (∀ f, P f (H.1 11 f 0)) → P f x → ∀ f', P f' (jupF H.1 11 f 0 x 11 f' 0) := by
    intro P h1 h2 f'
    by_cases hk : f' = f
    · subst hk
      rw [jupF_eq]; exact h2
    · rw [jupF_ne fun z => hk z.2.1]
      exact h1 _
  have e : jupF H.1 11 f 0 x 11 12 0 = H.1 11 12 0 := jupF_ne fun z => h12 z.2.1.symm
  refine ⟨h.1, key gvi h.2.1 hx, ?_, ?_⟩
  · show ∀ k i, gbk k = true → H.2.2.1 k 0 i < jupF H.1 11 f 0 x 11 12 0
    rw [e]; exact h.2.2.1
  · show ∀ f', gbf f' = true → jupF H.1 11 f 0 x 11 f' 0 < jupF H.1 11 f 0 x 11 12 0
    rw [e]; exact key (fun f x => gbf f = true → x < H.1 11 12 0) h.2.2.2 hb
theorem jI32 (x : Int32) : -2147483648 ≤ x.toInt ∧ x.toInt ≤ 2147483647 := ⟨x.le_toInt, by have := x.toInt_lt; omega⟩
end GT
-- M: X11_height
section
variable {d : Nat} {w : jW} {H : jH}
-- 
theorem g_height {n : Int} (hT : gT H)  (hp0 : 0 ≤ n ∧ n < 16) : J true d 126 w (0, jargs 0 [jT, .inl n], [], H) (jN fun v w' H' => w' = w ∧ H' = H ∧ ∃ x, v = some (.inl x) ∧ 1 ≤ x ∧ x ≤ 301) := by
  have f1 : 0 ≤ H.2.2.1 72 0 (n) ∧ H.2.2.1 72 0 (n) ≤ 299 := hT.1 72 (n)
  have f2 : 1 ≤ H.1 11 12 0 ∧ H.1 11 12 0 ≤ 300 := hT.2.1 12
  have f1b : H.2.2.1 72 0 (n) < H.1 11 12 0 := hT.2.2.1 72 (n) rfl
  have f3 : 0 ≤ H.2.2.1 56 0 (H.2.2.1 72 0 (n)) ∧ H.2.2.1 56 0 (H.2.2.1 72 0 (n)) ≤ 300 := hT.1 56 (H.2.2.1 72 0 (n))
  refine J.run 9 rfl ⟨(show 0 ≤ n ∧ n < 16 from ⟨by omega, by omega⟩), (show 0 ≤ H.2.2.1 72 0 (n) ∧ H.2.2.1 72 0 (n) < 300 from ⟨by omega, by omega⟩)⟩ ?_
  try dsimp only
  exact J.reti rfl rfl rfl ⟨_, rfl, rfl, rfl, _, rfl, (show 1 ≤ ((H.2.2.1 56 0 (H.2.2.1 72 0 (n))) + (1 : Int)) ∧ ((H.2.2.1 56 0 (H.2.2.1 72 0 (n))) + (1 : Int)) ≤ 301 from ⟨by omega, by omega⟩)⟩
end
-- M: X11_in
section
variable {d : Nat} {w : jW} {H : jH}
-- 
theorem g_in {u a b : Int} (hT : gT H)  (hp0 : -2147483648 ≤ u ∧ u ≤ 2147483647) (hp1 : -2147483648 ≤ a ∧ a ≤ 2147483647) (hp2 : -2147483648 ≤ b ∧ b ≤ 2147483647) : J true d 144 w (0, jargs 0 [.inl u, .inl a, .inl b], [], H) (jN fun v w' H' => w' = w ∧ H' = H ∧ ∃ x, v = some (.inl x) ∧ (x = 0 ∨ x = 1) ∧ (x = 1 → u ≥ a ∧ u ≤ b) ∧ (x = 0 → u < a ∨ b < u)) := by
  refine J.run0 2 rfl ?_
  try dsimp only
  refine J.icmp rfl rfl rfl ⟨(show -2147483648 ≤ u ∧ u ≤ 2147483647 from ⟨by omega, by omega⟩), (show -2147483648 ≤ a ∧ a ≤ 2147483647 from ⟨by omega, by omega⟩)⟩ (fun hc => ?_) (fun hc => ?_)
  · have c1 : u < a := hc
    clear hc
    refine J.run0 1 rfl ?_
    try dsimp only
    exact J.retb rfl rfl rfl (show (0 : Int) = 0 ∨ (0 : Int) = 1 by omega) ⟨_, rfl, rfl, rfl, _, rfl, (show (((0 : Int)) = 0 ∨ ((0 : Int)) = 1) ∧ (((0 : Int)) = 1 → u ≥ a ∧ u ≤ b) ∧ (((0 : Int)) = 0 → u < a ∨ b < u) from ⟨by omega, by omega, by omega⟩)⟩
  · have c2 : ¬ (u < a) := hc
    clear hc
    refine J.run0 2 rfl ?_
    try dsimp only
    refine J.icmp rfl rfl rfl ⟨(show -2147483648 ≤ u ∧ u ≤ 2147483647 from ⟨by omega, by omega⟩), (show -2147483648 ≤ b ∧ b ≤ 2147483647 from ⟨by omega, by omega⟩)⟩ (fun hc => ?_) (fun hc => ?_)
    · have c3 : b < u := hc
      clear hc
      refine J.run0 1 rfl ?_
      try dsimp only
      exact J.retb rfl rfl rfl (show (0 : Int) = 0 ∨ (0 : Int) = 1 by omega) ⟨_, rfl, rfl, rfl, _, rfl, (show (((0 : Int)) = 0 ∨ ((0 : Int)) = 1) ∧ (((0 : Int)) = 1 → u ≥ a ∧ u ≤ b) ∧ (((0 : Int)) = 0 → u < a ∨ b < u) from ⟨by omega, by omega, by omega⟩)⟩
    · have c4 : ¬ (b < u) := hc
      clear hc
      refine J.run0 2 rfl ?_
      try dsimp only
      exact J.retb rfl rfl rfl (show (1 : Int) = 0 ∨ (1 : Int) = 1 by omega) ⟨_, rfl, rfl, rfl, _, rfl, (show (((1 : Int)) = 0 ∨ ((1 : Int)) = 1) ∧ (((1 : Int)) = 1 → u ≥ a ∧ u ≤ b) ∧ (((1 : Int)) = 0 → u < a ∨ b < u) from ⟨by omega, by omega, by omega⟩)⟩
end
-- M: X11_isDouble
section
variable {d : Nat} {w : jW} {H : jH}
-- 
theorem g_isDouble {m o : Int} (hT : gT H)  (hp0 : 0 ≤ m ∧ m < 6000) (hp1 : 0 ≤ o ∧ o < 6000) : J true d 121 w (0, jargs 0 [jT, .inl m, .inl o], [], H) (jN fun v w' H' => w' = w ∧ H' = H ∧ ∃ x, v = some (.inl x) ∧ 0 ≤ x ∧ x ≤ 1) := by
  have f1 : 0 ≤ H.2.2.1 63 0 (m) ∧ H.2.2.1 63 0 (m) ≤ 2 := hT.1 63 (m)
  refine J.run 4 rfl (show 0 ≤ m ∧ m < 6000 from ⟨by omega, by omega⟩) ?_
  try dsimp only
  refine J.ifc rfl rfl rfl (show -2147483648 ≤ H.2.2.1 63 0 (m) ∧ H.2.2.1 63 0 (m) ≤ 2147483647 from ⟨by omega, by omega⟩) (fun hc => ?_) (fun hc => ?_)
  · have c2 : H.2.2.1 63 0 (m) ≤ (0 : Int) := hc
    clear hc
    refine J.run0 1 rfl ?_
    try dsimp only
    exact J.retb rfl rfl rfl (show (0 : Int) = 0 ∨ (0 : Int) = 1 by omega) ⟨_, rfl, rfl, rfl, _, rfl, (show 0 ≤ ((0 : Int)) ∧ ((0 : Int)) ≤ 1 from ⟨by omega, by omega⟩)⟩
  · have c3 : ¬ (H.2.2.1 63 0 (m) ≤ (0 : Int)) := hc
    clear hc
    have g4 : o = m → H.2.2.1 63 0 (o) = H.2.2.1 63 0 (m) := fun z => by rw [z]
    have f5 : 0 ≤ H.2.2.1 63 0 (o) ∧ H.2.2.1 63 0 (o) ≤ 2 := hT.1 63 (o)
    refine J.run 8 rfl ⟨(show 0 ≤ m ∧ m < 6000 from ⟨by omega, by omega⟩), (show 0 ≤ o ∧ o < 6000 from ⟨by omega, by omega⟩)⟩ ?_
    try dsimp only
    refine J.icmp rfl rfl rfl ⟨(show -2147483648 ≤ H.2.2.1 63 0 (m) ∧ H.2.2.1 63 0 (m) ≤ 2147483647 from ⟨by omega, by omega⟩), (show -2147483648 ≤ H.2.2.1 63 0 (o) ∧ H.2.2.1 63 0 (o) ≤ 2147483647 from ⟨by omega, by omega⟩)⟩ (fun hc => ?_) (fun hc => ?_)
    · have c6 : ¬ (H.2.2.1 63 0 (m) = H.2.2.1 63 0 (o)) := hc
      clear hc
      refine J.run0 1 rfl ?_
      try dsimp only
      exact J.retb rfl rfl rfl (show (0 : Int) = 0 ∨ (0 : Int) = 1 by omega) ⟨_, rfl, rfl, rfl, _, rfl, (show 0 ≤ ((0 : Int)) ∧ ((0 : Int)) ≤ 1 from ⟨by omega, by omega⟩)⟩
    · have c7 : ¬ (¬ (H.2.2.1 63 0 (m) = H.2.2.1 63 0 (o))) := hc
      clear hc
      have f8 : 0 ≤ H.2.2.1 64 0 (m) ∧ H.2.2.1 64 0 (m) ≤ 15 := hT.1 64 (m)
      have g9 : o = m → H.2.2.1 64 0 (o) = H.2.2.1 64 0 (m) := fun z => by rw [z]
      have f10 : 0 ≤ H.2.2.1 64 0 (o) ∧ H.2.2.1 64 0 (o) ≤ 15 := hT.1 64 (o)
      refine J.run 8 rfl ⟨(show 0 ≤ m ∧ m < 6000 from ⟨by omega, by omega⟩), (show 0 ≤ o ∧ o < 6000 from ⟨by omega, by omega⟩)⟩ ?_
      try dsimp only
      refine J.icmp rfl rfl rfl ⟨(show -2147483648 ≤ H.2.2.1 64 0 (m) ∧ H.2.2.1 64 0 (m) ≤ 2147483647 from ⟨by omega, by omega⟩), (show -2147483648 ≤ H.2.2.1 64 0 (o) ∧ H.2.2.1 64 0 (o) ≤ 2147483647 from ⟨by omega, by omega⟩)⟩ (fun hc => ?_) (fun hc => ?_)
      · have c11 : ¬ (H.2.2.1 64 0 (m) = H.2.2.1 64 0 (o)) := hc
        clear hc
        refine J.run0 1 rfl ?_
        try dsimp only
        exact J.retb rfl rfl rfl (show (0 : Int) = 0 ∨ (0 : Int) = 1 by omega) ⟨_, rfl, rfl, rfl, _, rfl, (show 0 ≤ ((0 : Int)) ∧ ((0 : Int)) ≤ 1 from ⟨by omega, by omega⟩)⟩
      · have c12 : ¬ (¬ (H.2.2.1 64 0 (m) = H.2.2.1 64 0 (o))) := hc
        clear hc
        have f13 : 0 ≤ H.2.2.1 65 0 (m) ∧ H.2.2.1 65 0 (m) ≤ 301 := hT.1 65 (m)
        have g14 : o = m → H.2.2.1 65 0 (o) = H.2.2.1 65 0 (m) := fun z => by rw [z]
        have f15 : 0 ≤ H.2.2.1 65 0 (o) ∧ H.2.2.1 65 0 (o) ≤ 301 := hT.1 65 (o)
        refine J.run 8 rfl ⟨(show 0 ≤ m ∧ m < 6000 from ⟨by omega, by omega⟩), (show 0 ≤ o ∧ o < 6000 from ⟨by omega, by omega⟩)⟩ ?_
        try dsimp only
        refine J.icmp rfl rfl rfl ⟨(show -2147483648 ≤ H.2.2.1 65 0 (m) ∧ H.2.2.1 65 0 (m) ≤ 2147483647 from ⟨by omega, by omega⟩), (show -2147483648 ≤ H.2.2.1 65 0 (o) ∧ H.2.2.1 65 0 (o) ≤ 2147483647 from ⟨by omega, by omega⟩)⟩ (fun hc => ?_) (fun hc => ?_)
        · have c16 : ¬ (H.2.2.1 65 0 (m) = H.2.2.1 65 0 (o)) := hc
          clear hc
          refine J.run0 1 rfl ?_
          try dsimp only
          exact J.retb rfl rfl rfl (show (0 : Int) = 0 ∨ (0 : Int) = 1 by omega) ⟨_, rfl, rfl, rfl, _, rfl, (show 0 ≤ ((0 : Int)) ∧ ((0 : Int)) ≤ 1 from ⟨by omega, by omega⟩)⟩
        · have c17 : ¬ (¬ (H.2.2.1 65 0 (m) = H.2.2.1 65 0 (o))) := hc
          clear hc
          have f18 : 0 ≤ H.2.2.1 66 0 (m) ∧ H.2.2.1 66 0 (m) ≤ 31 := hT.1 66 (m)
          have g19 : o = m → H.2.2.1 66 0 (o) = H.2.2.1 66 0 (m) := fun z => by rw [z]
          have f20 : 0 ≤ H.2.2.1 66 0 (o) ∧ H.2.2.1 66 0 (o) ≤ 31 := hT.1 66 (o)
          refine J.run 8 rfl ⟨(show 0 ≤ m ∧ m < 6000 from ⟨by omega, by omega⟩), (show 0 ≤ o ∧ o < 6000 from ⟨by omega, by omega⟩)⟩ ?_
          try dsimp only
          refine J.icmp rfl rfl rfl ⟨(show -2147483648 ≤ H.2.2.1 66 0 (m) ∧ H.2.2.1 66 0 (m) ≤ 2147483647 from ⟨by omega, by omega⟩), (show -2147483648 ≤ H.2.2.1 66 0 (o) ∧ H.2.2.1 66 0 (o) ≤ 2147483647 from ⟨by omega, by omega⟩)⟩ (fun hc => ?_) (fun hc => ?_)
          · have c21 : ¬ (H.2.2.1 66 0 (m) = H.2.2.1 66 0 (o)) := hc
            clear hc
            refine J.run0 1 rfl ?_
            try dsimp only
            exact J.retb rfl rfl rfl (show (0 : Int) = 0 ∨ (0 : Int) = 1 by omega) ⟨_, rfl, rfl, rfl, _, rfl, (show 0 ≤ ((0 : Int)) ∧ ((0 : Int)) ≤ 1 from ⟨by omega, by omega⟩)⟩
          · have c22 : ¬ (¬ (H.2.2.1 66 0 (m) = H.2.2.1 66 0 (o))) := hc
            clear hc
            have f23 : -1 ≤ H.2.2.1 67 0 (m) ∧ H.2.2.1 67 0 (m) ≤ 299 := hT.1 67 (m)
            have f24 : 1 ≤ H.1 11 12 0 ∧ H.1 11 12 0 ≤ 300 := hT.2.1 12
            have f23b : H.2.2.1 67 0 (m) < H.1 11 12 0 := hT.2.2.1 67 (m) rfl
            have g25 : o = m → H.2.2.1 67 0 (o) = H.2.2.1 67 0 (m) := fun z => by rw [z]
            have f26 : -1 ≤ H.2.2.1 67 0 (o) ∧ H.2.2.1 67 0 (o) ≤ 299 := hT.1 67 (o)
            have f26b : H.2.2.1 67 0 (o) < H.1 11 12 0 := hT.2.2.1 67 (o) rfl
            refine J.run 8 rfl ⟨(show 0 ≤ m ∧ m < 6000 from ⟨by omega, by omega⟩), (show 0 ≤ o ∧ o < 6000 from ⟨by omega, by omega⟩)⟩ ?_
            try dsimp only
            refine J.icmp rfl rfl rfl ⟨(show -2147483648 ≤ H.2.2.1 67 0 (m) ∧ H.2.2.1 67 0 (m) ≤ 2147483647 from ⟨by omega, by omega⟩), (show -2147483648 ≤ H.2.2.1 67 0 (o) ∧ H.2.2.1 67 0 (o) ≤ 2147483647 from ⟨by omega, by omega⟩)⟩ (fun hc => ?_) (fun hc => ?_)
            · have c27 : H.2.2.1 67 0 (m) = H.2.2.1 67 0 (o) := hc
              clear hc
              refine J.run0 1 rfl ?_
              try dsimp only
              exact J.retb rfl rfl rfl (show (0 : Int) = 0 ∨ (0 : Int) = 1 by omega) ⟨_, rfl, rfl, rfl, _, rfl, (show 0 ≤ ((0 : Int)) ∧ ((0 : Int)) ≤ 1 from ⟨by omega, by omega⟩)⟩
            · have c28 : ¬ (H.2.2.1 67 0 (m) = H.2.2.1 67 0 (o)) := hc
              clear hc
              refine J.run0 2 rfl ?_
              try dsimp only
              exact J.retb rfl rfl rfl (show (1 : Int) = 0 ∨ (1 : Int) = 1 by omega) ⟨_, rfl, rfl, rfl, _, rfl, (show 0 ≤ ((1 : Int)) ∧ ((1 : Int)) ≤ 1 from ⟨by omega, by omega⟩)⟩
end
-- M: X11_clear
section
variable {d : Nat} {w : jW} 
-- 
theorem g_clear_l0 {H0 : jH}  : ∀ (m : Nat), (∀ (i : Int) (H : jH) (lv : jL), 16 - i < (m : Int) → (0 ≤ i ∧ i ≤ 16) → gT H → jEx [] [81] H H0 → (lv = [(1, .inl i), (0, jT)]) → J true d 131 w (2, lv, [], H) (jN fun v w' H' => w' = w ∧ gT H' ∧ jEx [] [81] H' H0 ∧ v = none)) := by
  intro m
  induction m with
  | zero =>
    skip
    · intro i H lv hm hi0 hT hE hlv
      exfalso
      omega
  | succ m ih =>
    skip
    · intro i H lv hm hi0 hT hE hlv
      rcases hlv with rfl
      refine J.run0 2 rfl ?_
      try dsimp only
      refine J.icmp rfl rfl rfl ⟨(show -2147483648 ≤ i ∧ i ≤ 2147483647 from ⟨by omega, by omega⟩), (show -2147483648 ≤ (16 : Int) ∧ (16 : Int) ≤ 2147483647 from ⟨by omega, by omega⟩)⟩ (fun hc => ?_) (fun hc => ?_)
      · have c1 : (16 : Int) ≤ i := hc
        clear hc
        exact J.retv rfl rfl rfl ⟨_, rfl, rfl, hT, hE, rfl⟩
      · have c2 : ¬ ((16 : Int) ≤ i) := hc
        clear hc
        refine J.run 5 rfl (show ((0 : Int) = 0 ∨ (0 : Int) = 1) ∧ 0 ≤ i ∧ i < 16 from ⟨by omega, by omega, by omega⟩) ?_
        try dsimp only
        refine J.gn fun H3 hH3 => ?_
        have hT4 : gT H3 := by rw [hH3]; exact gT.upd hT (show 0 ≤ (0 : Int) ∧ (0 : Int) ≤ 1 from ⟨by omega, by omega⟩) (fun z => absurd z (by decide))
        have hE5 : jEx [] [81] H3 H0 := by rw [hH3]; exact jEx.row hE (by decide)
        have g6 : H3.2.2.1 81 0 (i) = (0 : Int) := by subst hH3; exact if_pos rfl
        have g7 : H3.1 11 12 0 = H.1 11 12 0 := by subst hH3; rfl
        clear hH3
        refine J.run0 2 rfl ?_
        try dsimp only
        exact ih (i + 1) H3 _ (show 16 - (i + 1) < _ by omega) (show 0 ≤ (i + 1) ∧ (i + 1) ≤ 16 from ⟨by omega, by omega⟩) hT4 hE5  rfl
-- 
theorem g_clear {H : jH} (hT : gT H)   : J true d 131 w (0, jargs 0 [jT], [], H) (jN fun v w' H' => w' = w ∧ gT H' ∧ jEx [] [81] H' H ∧ v = none) := by
  have hE : jEx [] [81] H H := jEx.refl _ _ _
  refine J.run0 2 rfl ?_
  try dsimp only
  exact (g_clear_l0 (H0 := H)    ((16 - ((0 : Int)) : Int).toNat + 1)) ((0 : Int)) H _ (show 16 - ((0 : Int)) < _ by omega) (show 0 ≤ ((0 : Int)) ∧ ((0 : Int)) ≤ 16 from ⟨by omega, by omega⟩) hT hE  rfl
end
-- M: X11_share
section
variable {d : Nat} {w : jW} {H : jH}
-- 
theorem g_share_l0 {n : Int} (hT : gT H)  (hp0 : 0 ≤ n ∧ n < 16) : ∀ (m : Nat), (∀ (i s t : Int) (lv : jL), 16 - i < (m : Int) → (0 ≤ i ∧ i ≤ 16) → (0 ≤ s ∧ s ≤ 40320000 * i) → (0 ≤ t ∧ t ≤ 645120000) → (lv = [(4, .inl i), (3, .inl s), (2, .inl t), (0, jT), (1, .inl n)]) → J true d 132 w (12, lv, [], H) (jN fun v w' H' => w' = w ∧ H' = H ∧ ∃ x, v = some (.inl x) ∧ 0 ≤ x ∧ x ≤ 2)) := by
  intro m
  induction m with
  | zero =>
    skip
    · intro i s t lv hm hi0 hi1 hi2 hlv
      exfalso
      omega
  | succ m ih =>
    skip
    · intro i s t lv hm hi0 hi1 hi2 hlv
      rcases hlv with rfl
      refine J.run0 2 rfl ?_
      try dsimp only
      refine J.icmp rfl rfl rfl ⟨(show -2147483648 ≤ i ∧ i ≤ 2147483647 from ⟨by omega, by omega⟩), (show -2147483648 ≤ (16 : Int) ∧ (16 : Int) ≤ 2147483647 from ⟨by omega, by omega⟩)⟩ (fun hc => ?_) (fun hc => ?_)
      · have c1 : (16 : Int) ≤ i := hc
        clear hc
        refine J.run0 6 rfl ?_
        try dsimp only
        refine J.icmp rfl rfl rfl ⟨(show -2147483648 ≤ (3 : Int) * s ∧ (3 : Int) * s ≤ 2147483647 from ⟨by omega, by omega⟩), (show -2147483648 ≤ (2 : Int) * t ∧ (2 : Int) * t ≤ 2147483647 from ⟨by omega, by omega⟩)⟩ (fun hc => ?_) (fun hc => ?_)
        · have c2 : (3 : Int) * s ≤ (2 : Int) * t := hc
          clear hc
          refine J.run0 4 rfl ?_
          try dsimp only
          refine J.icmp rfl rfl rfl ⟨(show -2147483648 ≤ (3 : Int) * s ∧ (3 : Int) * s ≤ 2147483647 from ⟨by omega, by omega⟩), (show -2147483648 ≤ t ∧ t ≤ 2147483647 from ⟨by omega, by omega⟩)⟩ (fun hc => ?_) (fun hc => ?_)
          · have c3 : (3 : Int) * s ≤ t := hc
            clear hc
            refine J.run0 1 rfl ?_
            try dsimp only
            exact J.reti rfl rfl rfl ⟨_, rfl, rfl, rfl, _, rfl, (show 0 ≤ ((0 : Int)) ∧ ((0 : Int)) ≤ 2 from ⟨by omega, by omega⟩)⟩
          · have c4 : ¬ ((3 : Int) * s ≤ t) := hc
            clear hc
            refine J.run0 2 rfl ?_
            try dsimp only
            exact J.reti rfl rfl rfl ⟨_, rfl, rfl, rfl, _, rfl, (show 0 ≤ ((1 : Int)) ∧ ((1 : Int)) ≤ 2 from ⟨by omega, by omega⟩)⟩
        · have c5 : ¬ ((3 : Int) * s ≤ (2 : Int) * t) := hc
          clear hc
          refine J.run0 2 rfl ?_
          try dsimp only
          exact J.reti rfl rfl rfl ⟨_, rfl, rfl, rfl, _, rfl, (show 0 ≤ ((2 : Int)) ∧ ((2 : Int)) ≤ 2 from ⟨by omega, by omega⟩)⟩
      · have c6 : ¬ ((16 : Int) ≤ i) := hc
        clear hc
        have f7 : 0 ≤ H.2.2.1 81 0 (i) ∧ H.2.2.1 81 0 (i) ≤ 1 := hT.1 81 (i)
        refine J.run 4 rfl (show 0 ≤ i ∧ i < 16 from ⟨by omega, by omega⟩) ?_
        try dsimp only
        refine J.ifc rfl rfl rfl (show -2147483648 ≤ H.2.2.1 81 0 (i) ∧ H.2.2.1 81 0 (i) ≤ 2147483647 from ⟨by omega, by omega⟩) (fun hc => ?_) (fun hc => ?_)
        · have c8 : H.2.2.1 81 0 (i) = (0 : Int) := hc
          clear hc
          refine J.run0 2 rfl ?_
          try dsimp only
          exact ih (i + 1) (s) (t) _ (show 16 - (i + 1) < _ by omega) (show 0 ≤ (i + 1) ∧ (i + 1) ≤ 16 from ⟨by omega, by omega⟩) (show 0 ≤ (s) ∧ (s) ≤ 40320000 * (i + 1) from ⟨by omega, by omega⟩) (show 0 ≤ (t) ∧ (t) ≤ 645120000 from ⟨by omega, by omega⟩) rfl
        · have c9 : ¬ (H.2.2.1 81 0 (i) = (0 : Int)) := hc
          clear hc
          have f10 : 0 ≤ H.2.2.1 110 0 (((16 : Int) * n) + i) ∧ H.2.2.1 110 0 (((16 : Int) * n) + i) ≤ 40320000 := hT.1 110 (((16 : Int) * n) + i)
          refine J.run 13 rfl (show 0 ≤ ((16 : Int) * n) + i ∧ ((16 : Int) * n) + i < 256 from ⟨by omega, by omega⟩) ?_
          try dsimp only
          exact ih (i + 1) (s + (H.2.2.1 110 0 (((16 : Int) * n) + i))) (t) _ (show 16 - (i + 1) < _ by omega) (show 0 ≤ (i + 1) ∧ (i + 1) ≤ 16 from ⟨by omega, by omega⟩) (show 0 ≤ (s + (H.2.2.1 110 0 (((16 : Int) * n) + i))) ∧ (s + (H.2.2.1 110 0 (((16 : Int) * n) + i))) ≤ 40320000 * (i + 1) from ⟨by omega, by omega⟩) (show 0 ≤ (t) ∧ (t) ≤ 645120000 from ⟨by omega, by omega⟩) rfl
-- 
theorem g_share {n : Int} (hT : gT H)  (hp0 : 0 ≤ n ∧ n < 16) : J true d 132 w (0, jargs 0 [jT, .inl n], [], H) (jN fun v w' H' => w' = w ∧ H' = H ∧ ∃ x, v = some (.inl x) ∧ 0 ≤ x ∧ x ≤ 2) := by
  have f11 : 0 ≤ H.2.2.1 111 0 (n) ∧ H.2.2.1 111 0 (n) ≤ 645120000 := hT.1 111 (n)
  refine J.run 9 rfl (show 0 ≤ n ∧ n < 16 from ⟨by omega, by omega⟩) ?_
  try dsimp only
  exact (g_share_l0 (H := H) (n := n) hT  hp0 ((16 - ((0 : Int)) : Int).toNat + 1)) ((0 : Int)) ((0 : Int)) (H.2.2.1 111 0 (n)) _ (show 16 - ((0 : Int)) < _ by omega) (show 0 ≤ ((0 : Int)) ∧ ((0 : Int)) ≤ 16 from ⟨by omega, by omega⟩) (show 0 ≤ ((0 : Int)) ∧ ((0 : Int)) ≤ 40320000 * ((0 : Int)) from ⟨by omega, by omega⟩) (show 0 ≤ (H.2.2.1 111 0 (n)) ∧ (H.2.2.1 111 0 (n)) ≤ 645120000 from ⟨by omega, by omega⟩) rfl
end
-- M: X11_isMost
section
variable {d : Nat} {w : jW} 
-- 
theorem g_isMost_l0 {n kind r b : Int} {H0 : jH} (hp0 : 0 ≤ n ∧ n < 16) (hp1 : -2147483648 ≤ kind ∧ kind ≤ 2147483647) (hp2 : -2147483648 ≤ r ∧ r ≤ 2147483647) (hp3 : -2147483648 ≤ b ∧ b ≤ 2147483647) : ∀ (m : Nat), (∀ (i : Int) (H : jH) (lv : jL), 6000 - i < (m : Int) → (0 ≤ i ∧ i ≤ 6000) → gT H → jEx [] [81] H H0 → (lv = [(5, .inl i), (0, jT), (1, .inl n), (2, .inl kind), (3, .inl r), (4, .inl b)] ∨ (∃ j6 : Int, lv = [(5, .inl i), (6, .inl j6), (0, jT), (1, .inl n), (2, .inl kind), (3, .inl r), (4, .inl b)])) → J true (d + 1) 133 w (7, lv, [], H) (jN fun v w' H' => w' = w ∧ gT H' ∧ jEx [] [81] H' H0 ∧ ∃ x, v = some (.inl x) ∧ 0 ≤ x ∧ x ≤ 1)) := by
  intro m
  induction m with
  | zero =>
    skip
    · intro i H lv hm hi0 hT hE hlv
      exfalso
      omega
  | succ m ih =>
    skip
    · intro i H lv hm hi0 hT hE hlv
      rcases hlv with rfl | ⟨j6, rfl⟩
      · skip
        have f1 : 0 ≤ H.2.2.1 113 0 (n) ∧ H.2.2.1 113 0 (n) ≤ 6000 := hT.1 113 (n)
        refine J.run 5 rfl (show 0 ≤ n ∧ n < 16 from ⟨by omega, by omega⟩) ?_
        try dsimp only
        refine J.icmp rfl rfl rfl ⟨(show -2147483648 ≤ i ∧ i ≤ 2147483647 from ⟨by omega, by omega⟩), (show -2147483648 ≤ H.2.2.1 113 0 (n) ∧ H.2.2.1 113 0 (n) ≤ 2147483647 from ⟨by omega, by omega⟩)⟩ (fun hc => ?_) (fun hc => ?_)
        · have c2 : H.2.2.1 113 0 (n) ≤ i := hc
          clear hc
          refine J.run0 2 rfl ?_
          try dsimp only
          refine J.inv rfl rfl rfl rfl rfl rfl jDr rfl rfl rfl rfl rfl (g_share (n := n) hT  (show 0 ≤ (n) ∧ (n) < 16 from ⟨by omega, by omega⟩)) ?_
          rintro v w H ⟨rfl, rfl, x3, rfl, r4⟩
          have r4' : 0 ≤ x3 ∧ x3 ≤ 2 := r4
          try dsimp only [Option.toList, List.append, List.cons_append, List.nil_append]
          refine J.run0 1 rfl ?_
          try dsimp only
          refine J.icmp rfl rfl rfl ⟨(show -2147483648 ≤ x3 ∧ x3 ≤ 2147483647 from ⟨by omega, by omega⟩), (show -2147483648 ≤ (2 : Int) ∧ (2 : Int) ≤ 2147483647 from ⟨by omega, by omega⟩)⟩ (fun hc => ?_) (fun hc => ?_)
          · have c5 : ¬ (x3 = (2 : Int)) := hc
            clear hc
            refine J.run0 1 rfl ?_
            try dsimp only
            exact J.retb rfl rfl rfl (show (0 : Int) = 0 ∨ (0 : Int) = 1 by omega) ⟨_, rfl, rfl, hT, hE, _, rfl, (show 0 ≤ ((0 : Int)) ∧ ((0 : Int)) ≤ 1 from ⟨by omega, by omega⟩)⟩
          · have c6 : ¬ (¬ (x3 = (2 : Int))) := hc
            clear hc
            refine J.run0 2 rfl ?_
            try dsimp only
            exact J.retb rfl rfl rfl (show (1 : Int) = 0 ∨ (1 : Int) = 1 by omega) ⟨_, rfl, rfl, hT, hE, _, rfl, (show 0 ≤ ((1 : Int)) ∧ ((1 : Int)) ≤ 1 from ⟨by omega, by omega⟩)⟩
        · have c7 : ¬ (H.2.2.1 113 0 (n) ≤ i) := hc
          clear hc
          have f8 : 0 ≤ H.2.2.1 112 0 (((6000 : Int) * n) + i) ∧ H.2.2.1 112 0 (((6000 : Int) * n) + i) ≤ 5999 := hT.1 112 (((6000 : Int) * n) + i)
          have f9 : 0 ≤ H.2.2.1 63 0 (H.2.2.1 112 0 (((6000 : Int) * n) + i)) ∧ H.2.2.1 63 0 (H.2.2.1 112 0 (((6000 : Int) * n) + i)) ≤ 2 := hT.1 63 (H.2.2.1 112 0 (((6000 : Int) * n) + i))
          refine J.run 14 rfl ⟨(show 0 ≤ ((6000 : Int) * n) + i ∧ ((6000 : Int) * n) + i < 96000 from ⟨by omega, by omega⟩), (show 0 ≤ H.2.2.1 112 0 (((6000 : Int) * n) + i) ∧ H.2.2.1 112 0 (((6000 : Int) * n) + i) < 6000 from ⟨by omega, by omega⟩)⟩ ?_
          try dsimp only
          refine J.icmp rfl rfl rfl ⟨(show -2147483648 ≤ H.2.2.1 63 0 (H.2.2.1 112 0 (((6000 : Int) * n) + i)) ∧ H.2.2.1 63 0 (H.2.2.1 112 0 (((6000 : Int) * n) + i)) ≤ 2147483647 from ⟨by omega, by omega⟩), (show -2147483648 ≤ kind ∧ kind ≤ 2147483647 from ⟨by omega, by omega⟩)⟩ (fun hc => ?_) (fun hc => ?_)
          · have c10 : ¬ (H.2.2.1 63 0 (H.2.2.1 112 0 (((6000 : Int) * n) + i)) = kind) := hc
            clear hc
            refine J.run0 2 rfl ?_
            try dsimp only
            exact ih (i + 1) H _ (show 6000 - (i + 1) < _ by omega) (show 0 ≤ (i + 1) ∧ (i + 1) ≤ 6000 from ⟨by omega, by omega⟩) hT hE  (Or.inr (⟨_, rfl⟩))
          · have c11 : ¬ (¬ (H.2.2.1 63 0 (H.2.2.1 112 0 (((6000 : Int) * n) + i)) = kind)) := hc
            clear hc
            have f12 : 0 ≤ H.2.2.1 66 0 (H.2.2.1 112 0 (((6000 : Int) * n) + i)) ∧ H.2.2.1 66 0 (H.2.2.1 112 0 (((6000 : Int) * n) + i)) ≤ 31 := hT.1 66 (H.2.2.1 112 0 (((6000 : Int) * n) + i))
            refine J.run 5 rfl (show 0 ≤ H.2.2.1 112 0 (((6000 : Int) * n) + i) ∧ H.2.2.1 112 0 (((6000 : Int) * n) + i) < 6000 from ⟨by omega, by omega⟩) ?_
            try dsimp only
            refine J.icmp rfl rfl rfl ⟨(show -2147483648 ≤ H.2.2.1 66 0 (H.2.2.1 112 0 (((6000 : Int) * n) + i)) ∧ H.2.2.1 66 0 (H.2.2.1 112 0 (((6000 : Int) * n) + i)) ≤ 2147483647 from ⟨by omega, by omega⟩), (show -2147483648 ≤ r ∧ r ≤ 2147483647 from ⟨by omega, by omega⟩)⟩ (fun hc => ?_) (fun hc => ?_)
            · have c13 : ¬ (H.2.2.1 66 0 (H.2.2.1 112 0 (((6000 : Int) * n) + i)) = r) := hc
              clear hc
              refine J.run0 2 rfl ?_
              try dsimp only
              exact ih (i + 1) H _ (show 6000 - (i + 1) < _ by omega) (show 0 ≤ (i + 1) ∧ (i + 1) ≤ 6000 from ⟨by omega, by omega⟩) hT hE  (Or.inr (⟨_, rfl⟩))
            · have c14 : ¬ (¬ (H.2.2.1 66 0 (H.2.2.1 112 0 (((6000 : Int) * n) + i)) = r)) := hc
              clear hc
              refine J.run0 2 rfl ?_
              try dsimp only
              refine J.icmp rfl rfl rfl ⟨(show -2147483648 ≤ b ∧ b ≤ 2147483647 from ⟨by omega, by omega⟩), (show -2147483648 ≤ (-2 : Int) ∧ (-2 : Int) ≤ 2147483647 from ⟨by omega, by omega⟩)⟩ (fun hc => ?_) (fun hc => ?_)
              · have c15 : b = (-2 : Int) := hc
                clear hc
                have f16 : 0 ≤ H.2.2.1 64 0 (H.2.2.1 112 0 (((6000 : Int) * n) + i)) ∧ H.2.2.1 64 0 (H.2.2.1 112 0 (((6000 : Int) * n) + i)) ≤ 15 := hT.1 64 (H.2.2.1 112 0 (((6000 : Int) * n) + i))
                refine J.run 8 rfl ⟨(show 0 ≤ H.2.2.1 112 0 (((6000 : Int) * n) + i) ∧ H.2.2.1 112 0 (((6000 : Int) * n) + i) < 6000 from ⟨by omega, by omega⟩), (show ((1 : Int) = 0 ∨ (1 : Int) = 1) ∧ 0 ≤ H.2.2.1 64 0 (H.2.2.1 112 0 (((6000 : Int) * n) + i)) ∧ H.2.2.1 64 0 (H.2.2.1 112 0 (((6000 : Int) * n) + i)) < 16 from ⟨by omega, by omega, by omega⟩)⟩ ?_
                try dsimp only
                refine J.gn fun H17 hH17 => ?_
                have hT18 : gT H17 := by rw [hH17]; exact gT.upd hT (show 0 ≤ (1 : Int) ∧ (1 : Int) ≤ 1 from ⟨by omega, by omega⟩) (fun z => absurd z (by decide))
                have hE19 : jEx [] [81] H17 H0 := by rw [hH17]; exact jEx.row hE (by decide)
                have g20 : H17.2.2.1 81 0 (H.2.2.1 64 0 (H.2.2.1 112 0 (((6000 : Int) * n) + i))) = (1 : Int) := by subst hH17; exact if_pos rfl
                have g21 : H17.1 11 12 0 = H.1 11 12 0 := by subst hH17; rfl
                have g22 : H17.2.2.1 113 0 (n) = H.2.2.1 113 0 (n) := by subst hH17; rfl
                have g23 : H17.2.2.1 112 0 (((6000 : Int) * n) + i) = H.2.2.1 112 0 (((6000 : Int) * n) + i) := by subst hH17; rfl
                have g24 : H17.2.2.1 63 0 (H.2.2.1 112 0 (((6000 : Int) * n) + i)) = H.2.2.1 63 0 (H.2.2.1 112 0 (((6000 : Int) * n) + i)) := by subst hH17; rfl
                have g25 : H17.2.2.1 66 0 (H.2.2.1 112 0 (((6000 : Int) * n) + i)) = H.2.2.1 66 0 (H.2.2.1 112 0 (((6000 : Int) * n) + i)) := by subst hH17; rfl
                have g26 : H17.2.2.1 64 0 (H.2.2.1 112 0 (((6000 : Int) * n) + i)) = H.2.2.1 64 0 (H.2.2.1 112 0 (((6000 : Int) * n) + i)) := by subst hH17; rfl
                clear hH17
                refine J.run0 2 rfl ?_
                try dsimp only
                exact ih (i + 1) H17 _ (show 6000 - (i + 1) < _ by omega) (show 0 ≤ (i + 1) ∧ (i + 1) ≤ 6000 from ⟨by omega, by omega⟩) hT18 hE19  (Or.inr (⟨_, rfl⟩))
              · have c27 : ¬ (b = (-2 : Int)) := hc
                clear hc
                have f28 : -1 ≤ H.2.2.1 67 0 (H.2.2.1 112 0 (((6000 : Int) * n) + i)) ∧ H.2.2.1 67 0 (H.2.2.1 112 0 (((6000 : Int) * n) + i)) ≤ 299 := hT.1 67 (H.2.2.1 112 0 (((6000 : Int) * n) + i))
                have f29 : 1 ≤ H.1 11 12 0 ∧ H.1 11 12 0 ≤ 300 := hT.2.1 12
                have f28b : H.2.2.1 67 0 (H.2.2.1 112 0 (((6000 : Int) * n) + i)) < H.1 11 12 0 := hT.2.2.1 67 (H.2.2.1 112 0 (((6000 : Int) * n) + i)) rfl
                refine J.run 5 rfl (show 0 ≤ H.2.2.1 112 0 (((6000 : Int) * n) + i) ∧ H.2.2.1 112 0 (((6000 : Int) * n) + i) < 6000 from ⟨by omega, by omega⟩) ?_
                try dsimp only
                refine J.icmp rfl rfl rfl ⟨(show -2147483648 ≤ H.2.2.1 67 0 (H.2.2.1 112 0 (((6000 : Int) * n) + i)) ∧ H.2.2.1 67 0 (H.2.2.1 112 0 (((6000 : Int) * n) + i)) ≤ 2147483647 from ⟨by omega, by omega⟩), (show -2147483648 ≤ b ∧ b ≤ 2147483647 from ⟨by omega, by omega⟩)⟩ (fun hc => ?_) (fun hc => ?_)
                · have c30 : ¬ (H.2.2.1 67 0 (H.2.2.1 112 0 (((6000 : Int) * n) + i)) = b) := hc
                  clear hc
                  refine J.run0 2 rfl ?_
                  try dsimp only
                  exact ih (i + 1) H _ (show 6000 - (i + 1) < _ by omega) (show 0 ≤ (i + 1) ∧ (i + 1) ≤ 6000 from ⟨by omega, by omega⟩) hT hE  (Or.inr (⟨_, rfl⟩))
                · have c31 : ¬ (¬ (H.2.2.1 67 0 (H.2.2.1 112 0 (((6000 : Int) * n) + i)) = b)) := hc
                  clear hc
                  have f32 : 0 ≤ H.2.2.1 64 0 (H.2.2.1 112 0 (((6000 : Int) * n) + i)) ∧ H.2.2.1 64 0 (H.2.2.1 112 0 (((6000 : Int) * n) + i)) ≤ 15 := hT.1 64 (H.2.2.1 112 0 (((6000 : Int) * n) + i))
                  refine J.run 8 rfl ⟨(show 0 ≤ H.2.2.1 112 0 (((6000 : Int) * n) + i) ∧ H.2.2.1 112 0 (((6000 : Int) * n) + i) < 6000 from ⟨by omega, by omega⟩), (show ((1 : Int) = 0 ∨ (1 : Int) = 1) ∧ 0 ≤ H.2.2.1 64 0 (H.2.2.1 112 0 (((6000 : Int) * n) + i)) ∧ H.2.2.1 64 0 (H.2.2.1 112 0 (((6000 : Int) * n) + i)) < 16 from ⟨by omega, by omega, by omega⟩)⟩ ?_
                  try dsimp only
                  refine J.gn fun H33 hH33 => ?_
                  have hT34 : gT H33 := by rw [hH33]; exact gT.upd hT (show 0 ≤ (1 : Int) ∧ (1 : Int) ≤ 1 from ⟨by omega, by omega⟩) (fun z => absurd z (by decide))
                  have hE35 : jEx [] [81] H33 H0 := by rw [hH33]; exact jEx.row hE (by decide)
                  have g36 : H33.2.2.1 81 0 (H.2.2.1 64 0 (H.2.2.1 112 0 (((6000 : Int) * n) + i))) = (1 : Int) := by subst hH33; exact if_pos rfl
                  have g37 : H33.1 11 12 0 = H.1 11 12 0 := by subst hH33; rfl
                  have g38 : H33.2.2.1 113 0 (n) = H.2.2.1 113 0 (n) := by subst hH33; rfl
                  have g39 : H33.2.2.1 112 0 (((6000 : Int) * n) + i) = H.2.2.1 112 0 (((6000 : Int) * n) + i) := by subst hH33; rfl
                  have g40 : H33.2.2.1 63 0 (H.2.2.1 112 0 (((6000 : Int) * n) + i)) = H.2.2.1 63 0 (H.2.2.1 112 0 (((6000 : Int) * n) + i)) := by subst hH33; rfl
                  have g41 : H33.2.2.1 66 0 (H.2.2.1 112 0 (((6000 : Int) * n) + i)) = H.2.2.1 66 0 (H.2.2.1 112 0 (((6000 : Int) * n) + i)) := by subst hH33; rfl
                  have g42 : H33.2.2.1 67 0 (H.2.2.1 112 0 (((6000 : Int) * n) + i)) = H.2.2.1 67 0 (H.2.2.1 112 0 (((6000 : Int) * n) + i)) := by subst hH33; rfl
                  have g43 : H33.2.2.1 64 0 (H.2.2.1 112 0 (((6000 : Int) * n) + i)) = H.2.2.1 64 0 (H.2.2.1 112 0 (((6000 : Int) * n) + i)) := by subst hH33; rfl
                  clear hH33
                  refine J.run0 2 rfl ?_
                  try dsimp only
                  exact ih (i + 1) H33 _ (show 6000 - (i + 1) < _ by omega) (show 0 ≤ (i + 1) ∧ (i + 1) ≤ 6000 from ⟨by omega, by omega⟩) hT34 hE35  (Or.inr (⟨_, rfl⟩))
      · skip
        have f44 : 0 ≤ H.2.2.1 113 0 (n) ∧ H.2.2.1 113 0 (n) ≤ 6000 := hT.1 113 (n)
        refine J.run 5 rfl (show 0 ≤ n ∧ n < 16 from ⟨by omega, by omega⟩) ?_
        try dsimp only
        refine J.icmp rfl rfl rfl ⟨(show -2147483648 ≤ i ∧ i ≤ 2147483647 from ⟨by omega, by omega⟩), (show -2147483648 ≤ H.2.2.1 113 0 (n) ∧ H.2.2.1 113 0 (n) ≤ 2147483647 from ⟨by omega, by omega⟩)⟩ (fun hc => ?_) (fun hc => ?_)
        · have c45 : H.2.2.1 113 0 (n) ≤ i := hc
          clear hc
          refine J.run0 2 rfl ?_
          try dsimp only
          refine J.inv rfl rfl rfl rfl rfl rfl jDr rfl rfl rfl rfl rfl (g_share (n := n) hT  (show 0 ≤ (n) ∧ (n) < 16 from ⟨by omega, by omega⟩)) ?_
          rintro v w H ⟨rfl, rfl, x46, rfl, r47⟩
          have r47' : 0 ≤ x46 ∧ x46 ≤ 2 := r47
          try dsimp only [Option.toList, List.append, List.cons_append, List.nil_append]
          refine J.run0 1 rfl ?_
          try dsimp only
          refine J.icmp rfl rfl rfl ⟨(show -2147483648 ≤ x46 ∧ x46 ≤ 2147483647 from ⟨by omega, by omega⟩), (show -2147483648 ≤ (2 : Int) ∧ (2 : Int) ≤ 2147483647 from ⟨by omega, by omega⟩)⟩ (fun hc => ?_) (fun hc => ?_)
          · have c48 : ¬ (x46 = (2 : Int)) := hc
            clear hc
            refine J.run0 1 rfl ?_
            try dsimp only
            exact J.retb rfl rfl rfl (show (0 : Int) = 0 ∨ (0 : Int) = 1 by omega) ⟨_, rfl, rfl, hT, hE, _, rfl, (show 0 ≤ ((0 : Int)) ∧ ((0 : Int)) ≤ 1 from ⟨by omega, by omega⟩)⟩
          · have c49 : ¬ (¬ (x46 = (2 : Int))) := hc
            clear hc
            refine J.run0 2 rfl ?_
            try dsimp only
            exact J.retb rfl rfl rfl (show (1 : Int) = 0 ∨ (1 : Int) = 1 by omega) ⟨_, rfl, rfl, hT, hE, _, rfl, (show 0 ≤ ((1 : Int)) ∧ ((1 : Int)) ≤ 1 from ⟨by omega, by omega⟩)⟩
        · have c50 : ¬ (H.2.2.1 113 0 (n) ≤ i) := hc
          clear hc
          have f51 : 0 ≤ H.2.2.1 112 0 (((6000 : Int) * n) + i) ∧ H.2.2.1 112 0 (((6000 : Int) * n) + i) ≤ 5999 := hT.1 112 (((6000 : Int) * n) + i)
          have f52 : 0 ≤ H.2.2.1 63 0 (H.2.2.1 112 0 (((6000 : Int) * n) + i)) ∧ H.2.2.1 63 0 (H.2.2.1 112 0 (((6000 : Int) * n) + i)) ≤ 2 := hT.1 63 (H.2.2.1 112 0 (((6000 : Int) * n) + i))
          refine J.run 14 rfl ⟨(show 0 ≤ ((6000 : Int) * n) + i ∧ ((6000 : Int) * n) + i < 96000 from ⟨by omega, by omega⟩), (show 0 ≤ H.2.2.1 112 0 (((6000 : Int) * n) + i) ∧ H.2.2.1 112 0 (((6000 : Int) * n) + i) < 6000 from ⟨by omega, by omega⟩)⟩ ?_
          try dsimp only
          refine J.icmp rfl rfl rfl ⟨(show -2147483648 ≤ H.2.2.1 63 0 (H.2.2.1 112 0 (((6000 : Int) * n) + i)) ∧ H.2.2.1 63 0 (H.2.2.1 112 0 (((6000 : Int) * n) + i)) ≤ 2147483647 from ⟨by omega, by omega⟩), (show -2147483648 ≤ kind ∧ kind ≤ 2147483647 from ⟨by omega, by omega⟩)⟩ (fun hc => ?_) (fun hc => ?_)
          · have c53 : ¬ (H.2.2.1 63 0 (H.2.2.1 112 0 (((6000 : Int) * n) + i)) = kind) := hc
            clear hc
            refine J.run0 2 rfl ?_
            try dsimp only
            exact ih (i + 1) H _ (show 6000 - (i + 1) < _ by omega) (show 0 ≤ (i + 1) ∧ (i + 1) ≤ 6000 from ⟨by omega, by omega⟩) hT hE  (Or.inr (⟨_, rfl⟩))
          · have c54 : ¬ (¬ (H.2.2.1 63 0 (H.2.2.1 112 0 (((6000 : Int) * n) + i)) = kind)) := hc
            clear hc
            have f55 : 0 ≤ H.2.2.1 66 0 (H.2.2.1 112 0 (((6000 : Int) * n) + i)) ∧ H.2.2.1 66 0 (H.2.2.1 112 0 (((6000 : Int) * n) + i)) ≤ 31 := hT.1 66 (H.2.2.1 112 0 (((6000 : Int) * n) + i))
            refine J.run 5 rfl (show 0 ≤ H.2.2.1 112 0 (((6000 : Int) * n) + i) ∧ H.2.2.1 112 0 (((6000 : Int) * n) + i) < 6000 from ⟨by omega, by omega⟩) ?_
            try dsimp only
            refine J.icmp rfl rfl rfl ⟨(show -2147483648 ≤ H.2.2.1 66 0 (H.2.2.1 112 0 (((6000 : Int) * n) + i)) ∧ H.2.2.1 66 0 (H.2.2.1 112 0 (((6000 : Int) * n) + i)) ≤ 2147483647 from ⟨by omega, by omega⟩), (show -2147483648 ≤ r ∧ r ≤ 2147483647 from ⟨by omega, by omega⟩)⟩ (fun hc => ?_) (fun hc => ?_)
            · have c56 : ¬ (H.2.2.1 66 0 (H.2.2.1 112 0 (((6000 : Int) * n) + i)) = r) := hc
              clear hc
              refine J.run0 2 rfl ?_
              try dsimp only
              exact ih (i + 1) H _ (show 6000 - (i + 1) < _ by omega) (show 0 ≤ (i + 1) ∧ (i + 1) ≤ 6000 from ⟨by omega, by omega⟩) hT hE  (Or.inr (⟨_, rfl⟩))
            · have c57 : ¬ (¬ (H.2.2.1 66 0 (H.2.2.1 112 0 (((6000 : Int) * n) + i)) = r)) := hc
              clear hc
              refine J.run0 2 rfl ?_
              try dsimp only
              refine J.icmp rfl rfl rfl ⟨(show -2147483648 ≤ b ∧ b ≤ 2147483647 from ⟨by omega, by omega⟩), (show -2147483648 ≤ (-2 : Int) ∧ (-2 : Int) ≤ 2147483647 from ⟨by omega, by omega⟩)⟩ (fun hc => ?_) (fun hc => ?_)
              · have c58 : b = (-2 : Int) := hc
                clear hc
                have f59 : 0 ≤ H.2.2.1 64 0 (H.2.2.1 112 0 (((6000 : Int) * n) + i)) ∧ H.2.2.1 64 0 (H.2.2.1 112 0 (((6000 : Int) * n) + i)) ≤ 15 := hT.1 64 (H.2.2.1 112 0 (((6000 : Int) * n) + i))
                refine J.run 8 rfl ⟨(show 0 ≤ H.2.2.1 112 0 (((6000 : Int) * n) + i) ∧ H.2.2.1 112 0 (((6000 : Int) * n) + i) < 6000 from ⟨by omega, by omega⟩), (show ((1 : Int) = 0 ∨ (1 : Int) = 1) ∧ 0 ≤ H.2.2.1 64 0 (H.2.2.1 112 0 (((6000 : Int) * n) + i)) ∧ H.2.2.1 64 0 (H.2.2.1 112 0 (((6000 : Int) * n) + i)) < 16 from ⟨by omega, by omega, by omega⟩)⟩ ?_
                try dsimp only
                refine J.gn fun H60 hH60 => ?_
                have hT61 : gT H60 := by rw [hH60]; exact gT.upd hT (show 0 ≤ (1 : Int) ∧ (1 : Int) ≤ 1 from ⟨by omega, by omega⟩) (fun z => absurd z (by decide))
                have hE62 : jEx [] [81] H60 H0 := by rw [hH60]; exact jEx.row hE (by decide)
                have g63 : H60.2.2.1 81 0 (H.2.2.1 64 0 (H.2.2.1 112 0 (((6000 : Int) * n) + i))) = (1 : Int) := by subst hH60; exact if_pos rfl
                have g64 : H60.1 11 12 0 = H.1 11 12 0 := by subst hH60; rfl
                have g65 : H60.2.2.1 113 0 (n) = H.2.2.1 113 0 (n) := by subst hH60; rfl
                have g66 : H60.2.2.1 112 0 (((6000 : Int) * n) + i) = H.2.2.1 112 0 (((6000 : Int) * n) + i) := by subst hH60; rfl
                have g67 : H60.2.2.1 63 0 (H.2.2.1 112 0 (((6000 : Int) * n) + i)) = H.2.2.1 63 0 (H.2.2.1 112 0 (((6000 : Int) * n) + i)) := by subst hH60; rfl
                have g68 : H60.2.2.1 66 0 (H.2.2.1 112 0 (((6000 : Int) * n) + i)) = H.2.2.1 66 0 (H.2.2.1 112 0 (((6000 : Int) * n) + i)) := by subst hH60; rfl
                have g69 : H60.2.2.1 64 0 (H.2.2.1 112 0 (((6000 : Int) * n) + i)) = H.2.2.1 64 0 (H.2.2.1 112 0 (((6000 : Int) * n) + i)) := by subst hH60; rfl
                clear hH60
                refine J.run0 2 rfl ?_
                try dsimp only
                exact ih (i + 1) H60 _ (show 6000 - (i + 1) < _ by omega) (show 0 ≤ (i + 1) ∧ (i + 1) ≤ 6000 from ⟨by omega, by omega⟩) hT61 hE62  (Or.inr (⟨_, rfl⟩))
              · have c70 : ¬ (b = (-2 : Int)) := hc
                clear hc
                have f71 : -1 ≤ H.2.2.1 67 0 (H.2.2.1 112 0 (((6000 : Int) * n) + i)) ∧ H.2.2.1 67 0 (H.2.2.1 112 0 (((6000 : Int) * n) + i)) ≤ 299 := hT.1 67 (H.2.2.1 112 0 (((6000 : Int) * n) + i))
                have f72 : 1 ≤ H.1 11 12 0 ∧ H.1 11 12 0 ≤ 300 := hT.2.1 12
                have f71b : H.2.2.1 67 0 (H.2.2.1 112 0 (((6000 : Int) * n) + i)) < H.1 11 12 0 := hT.2.2.1 67 (H.2.2.1 112 0 (((6000 : Int) * n) + i)) rfl
                refine J.run 5 rfl (show 0 ≤ H.2.2.1 112 0 (((6000 : Int) * n) + i) ∧ H.2.2.1 112 0 (((6000 : Int) * n) + i) < 6000 from ⟨by omega, by omega⟩) ?_
                try dsimp only
                refine J.icmp rfl rfl rfl ⟨(show -2147483648 ≤ H.2.2.1 67 0 (H.2.2.1 112 0 (((6000 : Int) * n) + i)) ∧ H.2.2.1 67 0 (H.2.2.1 112 0 (((6000 : Int) * n) + i)) ≤ 2147483647 from ⟨by omega, by omega⟩), (show -2147483648 ≤ b ∧ b ≤ 2147483647 from ⟨by omega, by omega⟩)⟩ (fun hc => ?_) (fun hc => ?_)
                · have c73 : ¬ (H.2.2.1 67 0 (H.2.2.1 112 0 (((6000 : Int) * n) + i)) = b) := hc
                  clear hc
                  refine J.run0 2 rfl ?_
                  try dsimp only
                  exact ih (i + 1) H _ (show 6000 - (i + 1) < _ by omega) (show 0 ≤ (i + 1) ∧ (i + 1) ≤ 6000 from ⟨by omega, by omega⟩) hT hE  (Or.inr (⟨_, rfl⟩))
                · have c74 : ¬ (¬ (H.2.2.1 67 0 (H.2.2.1 112 0 (((6000 : Int) * n) + i)) = b)) := hc
                  clear hc
                  have f75 : 0 ≤ H.2.2.1 64 0 (H.2.2.1 112 0 (((6000 : Int) * n) + i)) ∧ H.2.2.1 64 0 (H.2.2.1 112 0 (((6000 : Int) * n) + i)) ≤ 15 := hT.1 64 (H.2.2.1 112 0 (((6000 : Int) * n) + i))
                  refine J.run 8 rfl ⟨(show 0 ≤ H.2.2.1 112 0 (((6000 : Int) * n) + i) ∧ H.2.2.1 112 0 (((6000 : Int) * n) + i) < 6000 from ⟨by omega, by omega⟩), (show ((1 : Int) = 0 ∨ (1 : Int) = 1) ∧ 0 ≤ H.2.2.1 64 0 (H.2.2.1 112 0 (((6000 : Int) * n) + i)) ∧ H.2.2.1 64 0 (H.2.2.1 112 0 (((6000 : Int) * n) + i)) < 16 from ⟨by omega, by omega, by omega⟩)⟩ ?_
                  try dsimp only
                  refine J.gn fun H76 hH76 => ?_
                  have hT77 : gT H76 := by rw [hH76]; exact gT.upd hT (show 0 ≤ (1 : Int) ∧ (1 : Int) ≤ 1 from ⟨by omega, by omega⟩) (fun z => absurd z (by decide))
                  have hE78 : jEx [] [81] H76 H0 := by rw [hH76]; exact jEx.row hE (by decide)
                  have g79 : H76.2.2.1 81 0 (H.2.2.1 64 0 (H.2.2.1 112 0 (((6000 : Int) * n) + i))) = (1 : Int) := by subst hH76; exact if_pos rfl
                  have g80 : H76.1 11 12 0 = H.1 11 12 0 := by subst hH76; rfl
                  have g81 : H76.2.2.1 113 0 (n) = H.2.2.1 113 0 (n) := by subst hH76; rfl
                  have g82 : H76.2.2.1 112 0 (((6000 : Int) * n) + i) = H.2.2.1 112 0 (((6000 : Int) * n) + i) := by subst hH76; rfl
                  have g83 : H76.2.2.1 63 0 (H.2.2.1 112 0 (((6000 : Int) * n) + i)) = H.2.2.1 63 0 (H.2.2.1 112 0 (((6000 : Int) * n) + i)) := by subst hH76; rfl
                  have g84 : H76.2.2.1 66 0 (H.2.2.1 112 0 (((6000 : Int) * n) + i)) = H.2.2.1 66 0 (H.2.2.1 112 0 (((6000 : Int) * n) + i)) := by subst hH76; rfl
                  have g85 : H76.2.2.1 67 0 (H.2.2.1 112 0 (((6000 : Int) * n) + i)) = H.2.2.1 67 0 (H.2.2.1 112 0 (((6000 : Int) * n) + i)) := by subst hH76; rfl
                  have g86 : H76.2.2.1 64 0 (H.2.2.1 112 0 (((6000 : Int) * n) + i)) = H.2.2.1 64 0 (H.2.2.1 112 0 (((6000 : Int) * n) + i)) := by subst hH76; rfl
                  clear hH76
                  refine J.run0 2 rfl ?_
                  try dsimp only
                  exact ih (i + 1) H76 _ (show 6000 - (i + 1) < _ by omega) (show 0 ≤ (i + 1) ∧ (i + 1) ≤ 6000 from ⟨by omega, by omega⟩) hT77 hE78  (Or.inr (⟨_, rfl⟩))
-- 
theorem g_isMost {n kind r b : Int} {H : jH} (hT : gT H)  (hp0 : 0 ≤ n ∧ n < 16) (hp1 : -2147483648 ≤ kind ∧ kind ≤ 2147483647) (hp2 : -2147483648 ≤ r ∧ r ≤ 2147483647) (hp3 : -2147483648 ≤ b ∧ b ≤ 2147483647) : J true (d + 1) 133 w (0, jargs 0 [jT, .inl n, .inl kind, .inl r, .inl b], [], H) (jN fun v w' H' => w' = w ∧ gT H' ∧ jEx [] [81] H' H ∧ ∃ x, v = some (.inl x) ∧ 0 ≤ x ∧ x ≤ 1) := by
  have hE : jEx [] [81] H H := jEx.refl _ _ _
  refine J.run0 1 rfl ?_
  try dsimp only
  refine J.inv rfl rfl rfl rfl rfl rfl jDr rfl rfl rfl rfl rfl (g_clear  hT  ) ?_
  rintro v w H89 ⟨rfl, hT90, ehE91, rfl⟩
  have hE91 := jEx.trans ehE91 hE (by decide) (by decide)
  have g92 : H89.1 11 12 0 = H.1 11 12 0 := ehE91.v 12 (by decide)
  try dsimp only [Option.toList, List.append, List.cons_append, List.nil_append]
  refine J.run0 2 rfl ?_
  try dsimp only
  exact (g_isMost_l0 (H0 := H) (n := n) (kind := kind) (r := r) (b := b)  hp0 hp1 hp2 hp3 ((6000 - ((0 : Int)) : Int).toNat + 1)) ((0 : Int)) H89 _ (show 6000 - ((0 : Int)) < _ by omega) (show 0 ≤ ((0 : Int)) ∧ ((0 : Int)) ≤ 6000 from ⟨by omega, by omega⟩) hT90 hE91  (Or.inl rfl)
end
-- M: X11_bonds
section
variable {d : Nat} {w : jW} {H : jH}
-- 
theorem g_bonds_l0 (hT : gT H)   : ∀ (m : Nat), (∀ (i s : Int) (lv : jL), 3200 - i < (m : Int) → (0 ≤ i ∧ i ≤ 3200) → (0 ≤ s ∧ s ≤ i) → (lv = [(2, .inl i), (1, .inl s), (0, jT)]) → J true d 120 w (4, lv, [], H) (jN fun v w' H' => w' = w ∧ H' = H ∧ ∃ x, v = some (.inl x) ∧ 0 ≤ x ∧ x ≤ 3200)) := by
  intro m
  induction m with
  | zero =>
    skip
    · intro i s lv hm hi0 hi1 hlv
      exfalso
      omega
  | succ m ih =>
    skip
    · intro i s lv hm hi0 hi1 hlv
      rcases hlv with rfl
      refine J.run0 2 rfl ?_
      try dsimp only
      refine J.icmp rfl rfl rfl ⟨(show -2147483648 ≤ i ∧ i ≤ 2147483647 from ⟨by omega, by omega⟩), (show -2147483648 ≤ (3200 : Int) ∧ (3200 : Int) ≤ 2147483647 from ⟨by omega, by omega⟩)⟩ (fun hc => ?_) (fun hc => ?_)
      · have c1 : (3200 : Int) ≤ i := hc
        clear hc
        refine J.run0 1 rfl ?_
        try dsimp only
        exact J.reti rfl rfl rfl ⟨_, rfl, rfl, rfl, _, rfl, (show 0 ≤ (s) ∧ (s) ≤ 3200 from ⟨by omega, by omega⟩)⟩
      · have c2 : ¬ ((3200 : Int) ≤ i) := hc
        clear hc
        have f3 : 0 ≤ H.2.2.1 100 0 (i) ∧ H.2.2.1 100 0 (i) ≤ 201600 := hT.1 100 (i)
        refine J.run 4 rfl (show 0 ≤ i ∧ i < 3200 from ⟨by omega, by omega⟩) ?_
        try dsimp only
        refine J.ifc rfl rfl rfl (show -2147483648 ≤ H.2.2.1 100 0 (i) ∧ H.2.2.1 100 0 (i) ≤ 2147483647 from ⟨by omega, by omega⟩) (fun hc => ?_) (fun hc => ?_)
        · have c4 : H.2.2.1 100 0 (i) ≤ (0 : Int) := hc
          clear hc
          refine J.run0 2 rfl ?_
          try dsimp only
          exact ih (i + 1) (s) _ (show 3200 - (i + 1) < _ by omega) (show 0 ≤ (i + 1) ∧ (i + 1) ≤ 3200 from ⟨by omega, by omega⟩) (show 0 ≤ (s) ∧ (s) ≤ (i + 1) from ⟨by omega, by omega⟩) rfl
        · have c5 : ¬ (H.2.2.1 100 0 (i) ≤ (0 : Int)) := hc
          clear hc
          refine J.run0 3 rfl ?_
          try dsimp only
          exact ih (i + 1) (s + 1) _ (show 3200 - (i + 1) < _ by omega) (show 0 ≤ (i + 1) ∧ (i + 1) ≤ 3200 from ⟨by omega, by omega⟩) (show 0 ≤ (s + 1) ∧ (s + 1) ≤ (i + 1) from ⟨by omega, by omega⟩) rfl
-- 
theorem g_bonds (hT : gT H)   : J true d 120 w (0, jargs 0 [jT], [], H) (jN fun v w' H' => w' = w ∧ H' = H ∧ ∃ x, v = some (.inl x) ∧ 0 ≤ x ∧ x ≤ 3200) := by
  refine J.run0 4 rfl ?_
  try dsimp only
  exact (g_bonds_l0 (H := H)  hT   ((3200 - ((0 : Int)) : Int).toNat + 1)) ((0 : Int)) ((0 : Int)) _ (show 3200 - ((0 : Int)) < _ by omega) (show 0 ≤ ((0 : Int)) ∧ ((0 : Int)) ≤ 3200 from ⟨by omega, by omega⟩) (show 0 ≤ ((0 : Int)) ∧ ((0 : Int)) ≤ ((0 : Int)) from ⟨by omega, by omega⟩) rfl
end
-- M: X11_thrown
section
variable {d : Nat} {w : jW} {H : jH}
-- 
theorem g_thrown (hT : gT H)   : J true d 114 w (0, jargs 0 [jT], [], H) (jN fun v w' H' => w' = w ∧ H' = H ∧ ∃ x, v = some (.inl x) ∧ 0 ≤ x ∧ x ≤ 3) := by
  have f1 : 0 ≤ H.1 11 47 0 ∧ H.1 11 47 0 ≤ 3 := hT.2.1 47
  refine J.run0 2 rfl ?_
  try dsimp only
  exact J.reti rfl rfl rfl ⟨_, rfl, rfl, rfl, _, rfl, (show 0 ≤ (H.1 11 47 0) ∧ (H.1 11 47 0) ≤ 3 from ⟨by omega, by omega⟩)⟩
end
-- M: X11_power
section
variable {d : Nat} {w : jW} 
-- 
theorem g_power {n b : Int} {H : jH} (hT : gT H)  (hp0 : -2147483648 ≤ n ∧ n ≤ 2147483647) (hp1 : -2147483648 ≤ b ∧ b ≤ 2147483647) : J true (d + 1) 156 w (0, jargs 0 [jT, .inl n, .inl b], [], H) (jN fun v w' H' => w' = w ∧ gT H' ∧ jEx [47] [82] H' H ∧ v = none) := by
  have hE : jEx [47] [82] H H := jEx.refl _ _ _
  refine J.run0 4 rfl ?_
  try dsimp only
  refine J.ins rfl rfl rfl rfl rfl rfl rfl rfl rfl (g_in (u := n) (a := (0 : Int)) (b := (15 : Int)) hT  (show -2147483648 ≤ (n) ∧ (n) ≤ 2147483647 from ⟨by omega, by omega⟩) (show -2147483648 ≤ ((0 : Int)) ∧ ((0 : Int)) ≤ 2147483647 from ⟨by omega, by omega⟩) (show -2147483648 ≤ ((15 : Int)) ∧ ((15 : Int)) ≤ 2147483647 from ⟨by omega, by omega⟩)) ?_
  rintro v w H ⟨rfl, rfl, x1, rfl, r2⟩
  have r2' : (x1 = 0 ∨ x1 = 1) ∧ (x1 = 1 → (n) ≥ ((0 : Int)) ∧ (n) ≤ ((15 : Int))) ∧ (x1 = 0 → (n) < ((0 : Int)) ∨ ((15 : Int)) < (n)) := r2
  try dsimp only [Option.toList, List.append, List.cons_append, List.nil_append]
  refine J.ifc rfl rfl rfl (show -2147483648 ≤ x1 ∧ x1 ≤ 2147483647 from ⟨by omega, by omega⟩) (fun hc => ?_) (fun hc => ?_)
  · have c3 : ¬ (x1 = (0 : Int)) := hc
    clear hc
    refine J.run0 3 rfl ?_
    try dsimp only
    refine J.ins rfl rfl rfl rfl rfl rfl rfl rfl rfl (g_in (u := b) (a := (0 : Int)) (b := (13 : Int)) hT  (show -2147483648 ≤ (b) ∧ (b) ≤ 2147483647 from ⟨by omega, by omega⟩) (show -2147483648 ≤ ((0 : Int)) ∧ ((0 : Int)) ≤ 2147483647 from ⟨by omega, by omega⟩) (show -2147483648 ≤ ((13 : Int)) ∧ ((13 : Int)) ≤ 2147483647 from ⟨by omega, by omega⟩)) ?_
    rintro v w H ⟨rfl, rfl, x4, rfl, r5⟩
    have r5' : (x4 = 0 ∨ x4 = 1) ∧ (x4 = 1 → (b) ≥ ((0 : Int)) ∧ (b) ≤ ((13 : Int))) ∧ (x4 = 0 → (b) < ((0 : Int)) ∨ ((13 : Int)) < (b)) := r5
    try dsimp only [Option.toList, List.append, List.cons_append, List.nil_append]
    refine J.ifc rfl rfl rfl (show -2147483648 ≤ x4 ∧ x4 ≤ 2147483647 from ⟨by omega, by omega⟩) (fun hc => ?_) (fun hc => ?_)
    · have c6 : ¬ (x4 = (0 : Int)) := hc
      clear hc
      refine J.run0 2 rfl ?_
      try dsimp only
      refine J.gn fun H7 hH7 => ?_
      have hT8 : gT H7 := by rw [hH7]; exact gT.num (f := 47) hT (show 0 ≤ (0 : Int) ∧ (0 : Int) ≤ 3 from ⟨by omega, by omega⟩) (by decide) (fun z => absurd z (by decide))
      have hE9 : jEx [47] [82] H7 H := by rw [hH7]; exact jEx.num hE (by decide)
      have g10 : H7.1 11 47 0 = (0 : Int) := by subst hH7; rfl
      have g11 : H7.1 11 12 0 = H.1 11 12 0 := by subst hH7; rfl
      clear hH7
      have f12 : 0 ≤ H7.1 11 47 0 ∧ H7.1 11 47 0 ≤ 3 := hT8.2.1 47
      refine J.run0 2 rfl ?_
      try dsimp only
      refine J.ifc rfl rfl rfl (show -2147483648 ≤ H7.1 11 47 0 ∧ H7.1 11 47 0 ≤ 2147483647 from ⟨by omega, by omega⟩) (fun hc => ?_) (fun hc => ?_)
      · have c13 : ¬ (H7.1 11 47 0 = (0 : Int)) := hc
        clear hc
        exact J.retv rfl rfl rfl ⟨_, rfl, rfl, hT8, hE9, rfl⟩
      · have c14 : ¬ (¬ (H7.1 11 47 0 = (0 : Int))) := hc
        clear hc
        refine J.run 5 rfl (show 0 ≤ n ∧ n < 16 from ⟨by omega, by omega⟩) ?_
        try dsimp only
        refine J.gn fun H15 hH15 => ?_
        have hT16 : gT H15 := by rw [hH15]; exact gT.upd hT8 (show 0 ≤ b ∧ b ≤ 13 from ⟨by omega, by omega⟩) (fun z => absurd z (by decide))
        have hE17 : jEx [47] [82] H15 H := by rw [hH15]; exact jEx.row hE9 (by decide)
        have g18 : H15.2.2.1 82 0 (n) = b := by subst hH15; exact if_pos rfl
        have g19 : H15.1 11 12 0 = H7.1 11 12 0 := by subst hH15; rfl
        clear hH15
        exact J.retv rfl rfl rfl ⟨_, rfl, rfl, hT16, hE17, rfl⟩
    · have c20 : ¬ (¬ (x4 = (0 : Int))) := hc
      clear hc
      refine J.run0 3 rfl ?_
      try dsimp only
      refine J.gn fun H21 hH21 => ?_
      have hT22 : gT H21 := by rw [hH21]; exact gT.num (f := 47) hT (show 0 ≤ (2 : Int) ∧ (2 : Int) ≤ 3 from ⟨by omega, by omega⟩) (by decide) (fun z => absurd z (by decide))
      have hE23 : jEx [47] [82] H21 H := by rw [hH21]; exact jEx.num hE (by decide)
      have g24 : H21.1 11 47 0 = (2 : Int) := by subst hH21; rfl
      have g25 : H21.1 11 12 0 = H.1 11 12 0 := by subst hH21; rfl
      clear hH21
      have f26 : 0 ≤ H21.1 11 47 0 ∧ H21.1 11 47 0 ≤ 3 := hT22.2.1 47
      refine J.run0 2 rfl ?_
      try dsimp only
      refine J.ifc rfl rfl rfl (show -2147483648 ≤ H21.1 11 47 0 ∧ H21.1 11 47 0 ≤ 2147483647 from ⟨by omega, by omega⟩) (fun hc => ?_) (fun hc => ?_)
      · have c27 : ¬ (H21.1 11 47 0 = (0 : Int)) := hc
        clear hc
        exact J.retv rfl rfl rfl ⟨_, rfl, rfl, hT22, hE23, rfl⟩
      · have c28 : ¬ (¬ (H21.1 11 47 0 = (0 : Int))) := hc
        clear hc
        refine J.run 5 rfl (show 0 ≤ n ∧ n < 16 from ⟨by omega, by omega⟩) ?_
        try dsimp only
        refine J.gn fun H29 hH29 => ?_
        have hT30 : gT H29 := by rw [hH29]; exact gT.upd hT22 (show 0 ≤ b ∧ b ≤ 13 from ⟨by omega, by omega⟩) (fun z => absurd z (by decide))
        have hE31 : jEx [47] [82] H29 H := by rw [hH29]; exact jEx.row hE23 (by decide)
        have g32 : H29.2.2.1 82 0 (n) = b := by subst hH29; exact if_pos rfl
        have g33 : H29.1 11 12 0 = H21.1 11 12 0 := by subst hH29; rfl
        clear hH29
        exact J.retv rfl rfl rfl ⟨_, rfl, rfl, hT30, hE31, rfl⟩
  · have c34 : ¬ (¬ (x1 = (0 : Int))) := hc
    clear hc
    refine J.run0 3 rfl ?_
    try dsimp only
    refine J.gn fun H35 hH35 => ?_
    have hT36 : gT H35 := by rw [hH35]; exact gT.num (f := 47) hT (show 0 ≤ (1 : Int) ∧ (1 : Int) ≤ 3 from ⟨by omega, by omega⟩) (by decide) (fun z => absurd z (by decide))
    have hE37 : jEx [47] [82] H35 H := by rw [hH35]; exact jEx.num hE (by decide)
    have g38 : H35.1 11 47 0 = (1 : Int) := by subst hH35; rfl
    have g39 : H35.1 11 12 0 = H.1 11 12 0 := by subst hH35; rfl
    clear hH35
    have f40 : 0 ≤ H35.1 11 47 0 ∧ H35.1 11 47 0 ≤ 3 := hT36.2.1 47
    refine J.run0 2 rfl ?_
    try dsimp only
    refine J.ifc rfl rfl rfl (show -2147483648 ≤ H35.1 11 47 0 ∧ H35.1 11 47 0 ≤ 2147483647 from ⟨by omega, by omega⟩) (fun hc => ?_) (fun hc => ?_)
    · have c41 : ¬ (H35.1 11 47 0 = (0 : Int)) := hc
      clear hc
      exact J.retv rfl rfl rfl ⟨_, rfl, rfl, hT36, hE37, rfl⟩
    · have c42 : ¬ (¬ (H35.1 11 47 0 = (0 : Int))) := hc
      clear hc
      refine J.run 5 rfl (show 0 ≤ n ∧ n < 16 from ⟨by omega, by omega⟩) ?_
      try dsimp only
      refine J.gn fun H43 hH43 => ?_
      have hT44 : gT H43 := by rw [hH43]; exact gT.upd hT36 (show 0 ≤ b ∧ b ≤ 13 from ⟨by omega, by omega⟩) (fun z => absurd z (by decide))
      have hE45 : jEx [47] [82] H43 H := by rw [hH43]; exact jEx.row hE37 (by decide)
      have g46 : H43.2.2.1 82 0 (n) = b := by subst hH43; exact if_pos rfl
      have g47 : H43.1 11 12 0 = H35.1 11 12 0 := by subst hH43; rfl
      clear hH43
      exact J.retv rfl rfl rfl ⟨_, rfl, rfl, hT44, hE45, rfl⟩
end
-- M: X11_isCertain
section
variable {d : Nat} {w : jW} 
-- 
theorem g_isCertain_l0 {n b : Int} {H0 : jH} (hp0 : 0 ≤ n ∧ n < 16) (hp1 : 0 ≤ b ∧ b < 300) : ∀ (m : Nat), (∀ (r : Int) (H : jH) (lv : jL), 10000 * (32 - r) < (m : Int) → (0 ≤ r ∧ r ≤ 32) → gT H → jEx [] [81] H H0 → (lv = [(3, .inl r), (0, jT), (1, .inl n), (2, .inl b)] ∨ (∃ j4 : Int, lv = [(3, .inl r), (4, .inl j4), (0, jT), (1, .inl n), (2, .inl b)])) → J true (d + 1) 155 w (2, lv, [], H) (jN fun v w' H' => w' = w ∧ gT H' ∧ jEx [] [81] H' H0 ∧ ∃ x, v = some (.inl x) ∧ 0 ≤ x ∧ x ≤ 1)) ∧ (∀ (r i : Int) (H : jH) (lv : jL), 10000 * (32 - r) - 1 - i < (m : Int) → (0 ≤ r ∧ r < 32) → (0 ≤ i ∧ i ≤ 6000) → gT H → jEx [] [81] H H0 → (lv = [(4, .inl i), (3, .inl r), (0, jT), (1, .inl n), (2, .inl b)]) → J true (d + 1) 155 w (15, lv, [], H) (jN fun v w' H' => w' = w ∧ gT H' ∧ jEx [] [81] H' H0 ∧ ∃ x, v = some (.inl x) ∧ 0 ≤ x ∧ x ≤ 1)) := by
  intro m
  induction m with
  | zero =>
    refine ⟨?_, ?_⟩
    · intro r H lv hm hi0 hT hE hlv
      exfalso
      omega
    · intro r i H lv hm hi0 hi1 hT hE hlv
      exfalso
      omega
  | succ m ih =>
    refine ⟨?_, ?_⟩
    · intro r H lv hm hi0 hT hE hlv
      rcases hlv with rfl | ⟨j4, rfl⟩
      · skip
        refine J.run0 2 rfl ?_
        try dsimp only
        refine J.icmp rfl rfl rfl ⟨(show -2147483648 ≤ r ∧ r ≤ 2147483647 from ⟨by omega, by omega⟩), (show -2147483648 ≤ (32 : Int) ∧ (32 : Int) ≤ 2147483647 from ⟨by omega, by omega⟩)⟩ (fun hc => ?_) (fun hc => ?_)
        · have c1 : (32 : Int) ≤ r := hc
          clear hc
          refine J.run0 1 rfl ?_
          try dsimp only
          exact J.retb rfl rfl rfl (show (0 : Int) = 0 ∨ (0 : Int) = 1 by omega) ⟨_, rfl, rfl, hT, hE, _, rfl, (show 0 ≤ ((0 : Int)) ∧ ((0 : Int)) ≤ 1 from ⟨by omega, by omega⟩)⟩
        · have c2 : ¬ ((32 : Int) ≤ r) := hc
          clear hc
          refine J.run0 1 rfl ?_
          try dsimp only
          refine J.inv rfl rfl rfl rfl rfl rfl jDr rfl rfl rfl rfl rfl (g_clear  hT  ) ?_
          rintro v w H5 ⟨rfl, hT6, ehE7, rfl⟩
          have hE7 := jEx.trans ehE7 hE (by decide) (by decide)
          have g8 : H5.1 11 12 0 = H.1 11 12 0 := ehE7.v 12 (by decide)
          try dsimp only [Option.toList, List.append, List.cons_append, List.nil_append]
          refine J.run0 2 rfl ?_
          try dsimp only
          exact ih.2 (r) ((0 : Int)) H5 _ (show 10000 * (32 - (r)) - 1 - ((0 : Int)) < _ by omega) (show 0 ≤ (r) ∧ (r) < 32 from ⟨by omega, by omega⟩) (show 0 ≤ ((0 : Int)) ∧ ((0 : Int)) ≤ 6000 from ⟨by omega, by omega⟩) hT6 hE7  rfl
      · skip
        refine J.run0 2 rfl ?_
        try dsimp only
        refine J.icmp rfl rfl rfl ⟨(show -2147483648 ≤ r ∧ r ≤ 2147483647 from ⟨by omega, by omega⟩), (show -2147483648 ≤ (32 : Int) ∧ (32 : Int) ≤ 2147483647 from ⟨by omega, by omega⟩)⟩ (fun hc => ?_) (fun hc => ?_)
        · have c9 : (32 : Int) ≤ r := hc
          clear hc
          refine J.run0 1 rfl ?_
          try dsimp only
          exact J.retb rfl rfl rfl (show (0 : Int) = 0 ∨ (0 : Int) = 1 by omega) ⟨_, rfl, rfl, hT, hE, _, rfl, (show 0 ≤ ((0 : Int)) ∧ ((0 : Int)) ≤ 1 from ⟨by omega, by omega⟩)⟩
        · have c10 : ¬ ((32 : Int) ≤ r) := hc
          clear hc
          refine J.run0 1 rfl ?_
          try dsimp only
          refine J.inv rfl rfl rfl rfl rfl rfl jDr rfl rfl rfl rfl rfl (g_clear  hT  ) ?_
          rintro v w H13 ⟨rfl, hT14, ehE15, rfl⟩
          have hE15 := jEx.trans ehE15 hE (by decide) (by decide)
          have g16 : H13.1 11 12 0 = H.1 11 12 0 := ehE15.v 12 (by decide)
          try dsimp only [Option.toList, List.append, List.cons_append, List.nil_append]
          refine J.run0 2 rfl ?_
          try dsimp only
          exact ih.2 (r) ((0 : Int)) H13 _ (show 10000 * (32 - (r)) - 1 - ((0 : Int)) < _ by omega) (show 0 ≤ (r) ∧ (r) < 32 from ⟨by omega, by omega⟩) (show 0 ≤ ((0 : Int)) ∧ ((0 : Int)) ≤ 6000 from ⟨by omega, by omega⟩) hT14 hE15  rfl
    · intro r i H lv hm hi0 hi1 hT hE hlv
      rcases hlv with rfl
      have f17 : 0 ≤ H.1 11 19 0 ∧ H.1 11 19 0 ≤ 6000 := hT.2.1 19
      refine J.run0 3 rfl ?_
      try dsimp only
      refine J.icmp rfl rfl rfl ⟨(show -2147483648 ≤ i ∧ i ≤ 2147483647 from ⟨by omega, by omega⟩), (show -2147483648 ≤ H.1 11 19 0 ∧ H.1 11 19 0 ≤ 2147483647 from ⟨by omega, by omega⟩)⟩ (fun hc => ?_) (fun hc => ?_)
      · have c18 : H.1 11 19 0 ≤ i := hc
        clear hc
        refine J.run0 2 rfl ?_
        try dsimp only
        refine J.inv rfl rfl rfl rfl rfl rfl jDr rfl rfl rfl rfl rfl (g_share (n := n) hT  (show 0 ≤ (n) ∧ (n) < 16 from ⟨by omega, by omega⟩)) ?_
        rintro v w H ⟨rfl, rfl, x19, rfl, r20⟩
        have r20' : 0 ≤ x19 ∧ x19 ≤ 2 := r20
        try dsimp only [Option.toList, List.append, List.cons_append, List.nil_append]
        refine J.run0 1 rfl ?_
        try dsimp only
        refine J.icmp rfl rfl rfl ⟨(show -2147483648 ≤ x19 ∧ x19 ≤ 2147483647 from ⟨by omega, by omega⟩), (show -2147483648 ≤ (2 : Int) ∧ (2 : Int) ≤ 2147483647 from ⟨by omega, by omega⟩)⟩ (fun hc => ?_) (fun hc => ?_)
        · have c21 : ¬ (x19 = (2 : Int)) := hc
          clear hc
          refine J.run0 2 rfl ?_
          try dsimp only
          exact ih.1 (r + 1) H _ (show 10000 * (32 - (r + 1)) < _ by omega) (show 0 ≤ (r + 1) ∧ (r + 1) ≤ 32 from ⟨by omega, by omega⟩) hT hE  (Or.inr (⟨_, rfl⟩))
        · have c22 : ¬ (¬ (x19 = (2 : Int))) := hc
          clear hc
          refine J.run0 1 rfl ?_
          try dsimp only
          exact J.retb rfl rfl rfl (show (1 : Int) = 0 ∨ (1 : Int) = 1 by omega) ⟨_, rfl, rfl, hT, hE, _, rfl, (show 0 ≤ ((1 : Int)) ∧ ((1 : Int)) ≤ 1 from ⟨by omega, by omega⟩)⟩
      · have c23 : ¬ (H.1 11 19 0 ≤ i) := hc
        clear hc
        have f24 : 0 ≤ H.2.2.1 63 0 (i) ∧ H.2.2.1 63 0 (i) ≤ 2 := hT.1 63 (i)
        refine J.run 5 rfl (show 0 ≤ i ∧ i < 6000 from ⟨by omega, by omega⟩) ?_
        try dsimp only
        refine J.icmp rfl rfl rfl ⟨(show -2147483648 ≤ H.2.2.1 63 0 (i) ∧ H.2.2.1 63 0 (i) ≤ 2147483647 from ⟨by omega, by omega⟩), (show -2147483648 ≤ (2 : Int) ∧ (2 : Int) ≤ 2147483647 from ⟨by omega, by omega⟩)⟩ (fun hc => ?_) (fun hc => ?_)
        · have c25 : ¬ (H.2.2.1 63 0 (i) = (2 : Int)) := hc
          clear hc
          refine J.run0 2 rfl ?_
          try dsimp only
          exact ih.2 (r) (i + 1) H _ (show 10000 * (32 - (r)) - 1 - (i + 1) < _ by omega) (show 0 ≤ (r) ∧ (r) < 32 from ⟨by omega, by omega⟩) (show 0 ≤ (i + 1) ∧ (i + 1) ≤ 6000 from ⟨by omega, by omega⟩) hT hE  rfl
        · have c26 : ¬ (¬ (H.2.2.1 63 0 (i) = (2 : Int))) := hc
          clear hc
          have f27 : -1 ≤ H.2.2.1 67 0 (i) ∧ H.2.2.1 67 0 (i) ≤ 299 := hT.1 67 (i)
          have f28 : 1 ≤ H.1 11 12 0 ∧ H.1 11 12 0 ≤ 300 := hT.2.1 12
          have f27b : H.2.2.1 67 0 (i) < H.1 11 12 0 := hT.2.2.1 67 (i) rfl
          refine J.run 5 rfl (show 0 ≤ i ∧ i < 6000 from ⟨by omega, by omega⟩) ?_
          try dsimp only
          refine J.icmp rfl rfl rfl ⟨(show -2147483648 ≤ H.2.2.1 67 0 (i) ∧ H.2.2.1 67 0 (i) ≤ 2147483647 from ⟨by omega, by omega⟩), (show -2147483648 ≤ b ∧ b ≤ 2147483647 from ⟨by omega, by omega⟩)⟩ (fun hc => ?_) (fun hc => ?_)
          · have c29 : ¬ (H.2.2.1 67 0 (i) = b) := hc
            clear hc
            refine J.run0 2 rfl ?_
            try dsimp only
            exact ih.2 (r) (i + 1) H _ (show 10000 * (32 - (r)) - 1 - (i + 1) < _ by omega) (show 0 ≤ (r) ∧ (r) < 32 from ⟨by omega, by omega⟩) (show 0 ≤ (i + 1) ∧ (i + 1) ≤ 6000 from ⟨by omega, by omega⟩) hT hE  rfl
          · have c30 : ¬ (¬ (H.2.2.1 67 0 (i) = b)) := hc
            clear hc
            have f31 : 0 ≤ H.2.2.1 65 0 (i) ∧ H.2.2.1 65 0 (i) ≤ 301 := hT.1 65 (i)
            have f32 : 0 ≤ H.2.2.1 56 0 (b) ∧ H.2.2.1 56 0 (b) ≤ 300 := hT.1 56 (b)
            refine J.run 8 rfl ⟨(show 0 ≤ i ∧ i < 6000 from ⟨by omega, by omega⟩), (show 0 ≤ b ∧ b < 300 from ⟨by omega, by omega⟩)⟩ ?_
            try dsimp only
            refine J.icmp rfl rfl rfl ⟨(show -2147483648 ≤ H.2.2.1 65 0 (i) ∧ H.2.2.1 65 0 (i) ≤ 2147483647 from ⟨by omega, by omega⟩), (show -2147483648 ≤ H.2.2.1 56 0 (b) ∧ H.2.2.1 56 0 (b) ≤ 2147483647 from ⟨by omega, by omega⟩)⟩ (fun hc => ?_) (fun hc => ?_)
            · have c33 : ¬ (H.2.2.1 65 0 (i) = H.2.2.1 56 0 (b)) := hc
              clear hc
              refine J.run0 2 rfl ?_
              try dsimp only
              exact ih.2 (r) (i + 1) H _ (show 10000 * (32 - (r)) - 1 - (i + 1) < _ by omega) (show 0 ≤ (r) ∧ (r) < 32 from ⟨by omega, by omega⟩) (show 0 ≤ (i + 1) ∧ (i + 1) ≤ 6000 from ⟨by omega, by omega⟩) hT hE  rfl
            · have c34 : ¬ (¬ (H.2.2.1 65 0 (i) = H.2.2.1 56 0 (b))) := hc
              clear hc
              have f35 : 0 ≤ H.2.2.1 66 0 (i) ∧ H.2.2.1 66 0 (i) ≤ 31 := hT.1 66 (i)
              refine J.run 5 rfl (show 0 ≤ i ∧ i < 6000 from ⟨by omega, by omega⟩) ?_
              try dsimp only
              refine J.icmp rfl rfl rfl ⟨(show -2147483648 ≤ H.2.2.1 66 0 (i) ∧ H.2.2.1 66 0 (i) ≤ 2147483647 from ⟨by omega, by omega⟩), (show -2147483648 ≤ r ∧ r ≤ 2147483647 from ⟨by omega, by omega⟩)⟩ (fun hc => ?_) (fun hc => ?_)
              · have c36 : ¬ (H.2.2.1 66 0 (i) = r) := hc
                clear hc
                refine J.run0 2 rfl ?_
                try dsimp only
                exact ih.2 (r) (i + 1) H _ (show 10000 * (32 - (r)) - 1 - (i + 1) < _ by omega) (show 0 ≤ (r) ∧ (r) < 32 from ⟨by omega, by omega⟩) (show 0 ≤ (i + 1) ∧ (i + 1) ≤ 6000 from ⟨by omega, by omega⟩) hT hE  rfl
              · have c37 : ¬ (¬ (H.2.2.1 66 0 (i) = r)) := hc
                clear hc
                have f38 : 0 ≤ H.2.2.1 64 0 (i) ∧ H.2.2.1 64 0 (i) ≤ 15 := hT.1 64 (i)
                refine J.run 8 rfl ⟨(show 0 ≤ i ∧ i < 6000 from ⟨by omega, by omega⟩), (show ((1 : Int) = 0 ∨ (1 : Int) = 1) ∧ 0 ≤ H.2.2.1 64 0 (i) ∧ H.2.2.1 64 0 (i) < 16 from ⟨by omega, by omega, by omega⟩)⟩ ?_
                try dsimp only
                refine J.gn fun H39 hH39 => ?_
                have hT40 : gT H39 := by rw [hH39]; exact gT.upd hT (show 0 ≤ (1 : Int) ∧ (1 : Int) ≤ 1 from ⟨by omega, by omega⟩) (fun z => absurd z (by decide))
                have hE41 : jEx [] [81] H39 H0 := by rw [hH39]; exact jEx.row hE (by decide)
                have g42 : H39.2.2.1 81 0 (H.2.2.1 64 0 (i)) = (1 : Int) := by subst hH39; exact if_pos rfl
                have g43 : H39.1 11 12 0 = H.1 11 12 0 := by subst hH39; rfl
                have g44 : H39.2.2.1 63 0 (i) = H.2.2.1 63 0 (i) := by subst hH39; rfl
                have g45 : H39.2.2.1 67 0 (i) = H.2.2.1 67 0 (i) := by subst hH39; rfl
                have g46 : H39.2.2.1 65 0 (i) = H.2.2.1 65 0 (i) := by subst hH39; rfl
                have g47 : H39.2.2.1 56 0 (b) = H.2.2.1 56 0 (b) := by subst hH39; rfl
                have g48 : H39.2.2.1 66 0 (i) = H.2.2.1 66 0 (i) := by subst hH39; rfl
                have g49 : H39.2.2.1 64 0 (i) = H.2.2.1 64 0 (i) := by subst hH39; rfl
                clear hH39
                refine J.run0 2 rfl ?_
                try dsimp only
                exact ih.2 (r) (i + 1) H39 _ (show 10000 * (32 - (r)) - 1 - (i + 1) < _ by omega) (show 0 ≤ (r) ∧ (r) < 32 from ⟨by omega, by omega⟩) (show 0 ≤ (i + 1) ∧ (i + 1) ≤ 6000 from ⟨by omega, by omega⟩) hT40 hE41  rfl
-- 
theorem g_isCertain {n b : Int} {H : jH} (hT : gT H)  (hp0 : 0 ≤ n ∧ n < 16) (hp1 : 0 ≤ b ∧ b < 300) : J true (d + 1) 155 w (0, jargs 0 [jT, .inl n, .inl b], [], H) (jN fun v w' H' => w' = w ∧ gT H' ∧ jEx [] [81] H' H ∧ ∃ x, v = some (.inl x) ∧ 0 ≤ x ∧ x ≤ 1) := by
  have hE : jEx [] [81] H H := jEx.refl _ _ _
  refine J.run0 2 rfl ?_
  try dsimp only
  exact (g_isCertain_l0 (H0 := H) (n := n) (b := b)  hp0 hp1 ((10000 * (32 - ((0 : Int))) : Int).toNat + 1)).1 ((0 : Int)) H _ (show 10000 * (32 - ((0 : Int))) < _ by omega) (show 0 ≤ ((0 : Int)) ∧ ((0 : Int)) ≤ 32 from ⟨by omega, by omega⟩) hT hE  (Or.inl rfl)
end
-- M: X11_message
section
variable {d : Nat} {w : jW} 
-- 
theorem g_message {m what : Int} {H : jH} (hT : gT H)  (hp0 : -2147483648 ≤ m ∧ m ≤ 2147483647) (hp1 : -2147483648 ≤ what ∧ what ≤ 2147483647) : J true (d + 1) 160 w (0, jargs 0 [jT, .inl m, .inl what], [], H) (jN fun v w' H' => w' = w ∧ gT H' ∧ jEx [47] [] H' H ∧ ∃ x, v = some (.inl x) ∧ -2147483648 ≤ x ∧ x ≤ 2147483647) := by
  have hE : jEx [47] [] H H := jEx.refl _ _ _
  have f1 : 0 ≤ H.1 11 19 0 ∧ H.1 11 19 0 ≤ 6000 := hT.2.1 19
  refine J.run0 7 rfl ?_
  try dsimp only
  refine J.ins rfl rfl rfl rfl rfl rfl rfl rfl rfl (g_in (u := m) (a := (0 : Int)) (b := (H.1 11 19 0) - (1 : Int)) hT  (show -2147483648 ≤ (m) ∧ (m) ≤ 2147483647 from ⟨by omega, by omega⟩) (show -2147483648 ≤ ((0 : Int)) ∧ ((0 : Int)) ≤ 2147483647 from ⟨by omega, by omega⟩) (show -2147483648 ≤ ((H.1 11 19 0) - (1 : Int)) ∧ ((H.1 11 19 0) - (1 : Int)) ≤ 2147483647 from ⟨by omega, by omega⟩)) ?_
  rintro v w H ⟨rfl, rfl, x2, rfl, r3⟩
  have r3' : (x2 = 0 ∨ x2 = 1) ∧ (x2 = 1 → (m) ≥ ((0 : Int)) ∧ (m) ≤ ((H.1 11 19 0) - (1 : Int))) ∧ (x2 = 0 → (m) < ((0 : Int)) ∨ ((H.1 11 19 0) - (1 : Int)) < (m)) := r3
  try dsimp only [Option.toList, List.append, List.cons_append, List.nil_append]
  refine J.ifc rfl rfl rfl (show -2147483648 ≤ x2 ∧ x2 ≤ 2147483647 from ⟨by omega, by omega⟩) (fun hc => ?_) (fun hc => ?_)
  · have c4 : ¬ (x2 = (0 : Int)) := hc
    clear hc
    refine J.run0 3 rfl ?_
    try dsimp only
    refine J.ins rfl rfl rfl rfl rfl rfl rfl rfl rfl (g_in (u := what) (a := (0 : Int)) (b := (5 : Int)) hT  (show -2147483648 ≤ (what) ∧ (what) ≤ 2147483647 from ⟨by omega, by omega⟩) (show -2147483648 ≤ ((0 : Int)) ∧ ((0 : Int)) ≤ 2147483647 from ⟨by omega, by omega⟩) (show -2147483648 ≤ ((5 : Int)) ∧ ((5 : Int)) ≤ 2147483647 from ⟨by omega, by omega⟩)) ?_
    rintro v w H ⟨rfl, rfl, x5, rfl, r6⟩
    have r6' : (x5 = 0 ∨ x5 = 1) ∧ (x5 = 1 → (what) ≥ ((0 : Int)) ∧ (what) ≤ ((5 : Int))) ∧ (x5 = 0 → (what) < ((0 : Int)) ∨ ((5 : Int)) < (what)) := r6
    try dsimp only [Option.toList, List.append, List.cons_append, List.nil_append]
    refine J.ifc rfl rfl rfl (show -2147483648 ≤ x5 ∧ x5 ≤ 2147483647 from ⟨by omega, by omega⟩) (fun hc => ?_) (fun hc => ?_)
    · have c7 : ¬ (x5 = (0 : Int)) := hc
      clear hc
      refine J.run0 2 rfl ?_
      try dsimp only
      refine J.gn fun H8 hH8 => ?_
      have hT9 : gT H8 := by rw [hH8]; exact gT.num (f := 47) hT (show 0 ≤ (0 : Int) ∧ (0 : Int) ≤ 3 from ⟨by omega, by omega⟩) (by decide) (fun z => absurd z (by decide))
      have hE10 : jEx [47] [] H8 H := by rw [hH8]; exact jEx.num hE (by decide)
      have g11 : H8.1 11 47 0 = (0 : Int) := by subst hH8; rfl
      have g12 : H8.1 11 12 0 = H.1 11 12 0 := by subst hH8; rfl
      clear hH8
      have f13 : 0 ≤ H8.1 11 47 0 ∧ H8.1 11 47 0 ≤ 3 := hT9.2.1 47
      refine J.run0 2 rfl ?_
      try dsimp only
      refine J.ifc rfl rfl rfl (show -2147483648 ≤ H8.1 11 47 0 ∧ H8.1 11 47 0 ≤ 2147483647 from ⟨by omega, by omega⟩) (fun hc => ?_) (fun hc => ?_)
      · have c14 : H8.1 11 47 0 ≤ (0 : Int) := hc
        clear hc
        refine J.run0 1 rfl ?_
        try dsimp only
        refine J.ifc rfl rfl rfl (show -2147483648 ≤ what ∧ what ≤ 2147483647 from ⟨by omega, by omega⟩) (fun hc => ?_) (fun hc => ?_)
        · have c15 : ¬ (what = (0 : Int)) := hc
          clear hc
          refine J.run0 2 rfl ?_
          try dsimp only
          refine J.icmp rfl rfl rfl ⟨(show -2147483648 ≤ what ∧ what ≤ 2147483647 from ⟨by omega, by omega⟩), (show -2147483648 ≤ (1 : Int) ∧ (1 : Int) ≤ 2147483647 from ⟨by omega, by omega⟩)⟩ (fun hc => ?_) (fun hc => ?_)
          · have c16 : ¬ (what = (1 : Int)) := hc
            clear hc
            refine J.run0 2 rfl ?_
            try dsimp only
            refine J.icmp rfl rfl rfl ⟨(show -2147483648 ≤ what ∧ what ≤ 2147483647 from ⟨by omega, by omega⟩), (show -2147483648 ≤ (2 : Int) ∧ (2 : Int) ≤ 2147483647 from ⟨by omega, by omega⟩)⟩ (fun hc => ?_) (fun hc => ?_)
            · have c17 : ¬ (what = (2 : Int)) := hc
              clear hc
              refine J.run0 2 rfl ?_
              try dsimp only
              refine J.icmp rfl rfl rfl ⟨(show -2147483648 ≤ what ∧ what ≤ 2147483647 from ⟨by omega, by omega⟩), (show -2147483648 ≤ (3 : Int) ∧ (3 : Int) ≤ 2147483647 from ⟨by omega, by omega⟩)⟩ (fun hc => ?_) (fun hc => ?_)
              · have c18 : ¬ (what = (3 : Int)) := hc
                clear hc
                refine J.run0 2 rfl ?_
                try dsimp only
                refine J.icmp rfl rfl rfl ⟨(show -2147483648 ≤ what ∧ what ≤ 2147483647 from ⟨by omega, by omega⟩), (show -2147483648 ≤ (4 : Int) ∧ (4 : Int) ≤ 2147483647 from ⟨by omega, by omega⟩)⟩ (fun hc => ?_) (fun hc => ?_)
                · have c19 : ¬ (what = (4 : Int)) := hc
                  clear hc
                  have f20 : -1 ≤ H8.2.2.1 68 0 (m) ∧ H8.2.2.1 68 0 (m) ≤ 31 := hT9.1 68 (m)
                  refine J.run 4 rfl (show 0 ≤ m ∧ m < 6000 from ⟨by omega, by omega⟩) ?_
                  try dsimp only
                  exact J.reti rfl rfl rfl ⟨_, rfl, rfl, hT9, hE10, _, rfl, (show -2147483648 ≤ (H8.2.2.1 68 0 (m)) ∧ (H8.2.2.1 68 0 (m)) ≤ 2147483647 from ⟨by omega, by omega⟩)⟩
                · have c21 : ¬ (¬ (what = (4 : Int))) := hc
                  clear hc
                  have f22 : -1 ≤ H8.2.2.1 67 0 (m) ∧ H8.2.2.1 67 0 (m) ≤ 299 := hT9.1 67 (m)
                  have f23 : 1 ≤ H8.1 11 12 0 ∧ H8.1 11 12 0 ≤ 300 := hT9.2.1 12
                  have f22b : H8.2.2.1 67 0 (m) < H8.1 11 12 0 := hT9.2.2.1 67 (m) rfl
                  refine J.run 5 rfl (show 0 ≤ m ∧ m < 6000 from ⟨by omega, by omega⟩) ?_
                  try dsimp only
                  exact J.reti rfl rfl rfl ⟨_, rfl, rfl, hT9, hE10, _, rfl, (show -2147483648 ≤ (H8.2.2.1 67 0 (m)) ∧ (H8.2.2.1 67 0 (m)) ≤ 2147483647 from ⟨by omega, by omega⟩)⟩
              · have c24 : ¬ (¬ (what = (3 : Int))) := hc
                clear hc
                have f25 : 0 ≤ H8.2.2.1 66 0 (m) ∧ H8.2.2.1 66 0 (m) ≤ 31 := hT9.1 66 (m)
                refine J.run 5 rfl (show 0 ≤ m ∧ m < 6000 from ⟨by omega, by omega⟩) ?_
                try dsimp only
                exact J.reti rfl rfl rfl ⟨_, rfl, rfl, hT9, hE10, _, rfl, (show -2147483648 ≤ (H8.2.2.1 66 0 (m)) ∧ (H8.2.2.1 66 0 (m)) ≤ 2147483647 from ⟨by omega, by omega⟩)⟩
            · have c26 : ¬ (¬ (what = (2 : Int))) := hc
              clear hc
              have f27 : 0 ≤ H8.2.2.1 65 0 (m) ∧ H8.2.2.1 65 0 (m) ≤ 301 := hT9.1 65 (m)
              refine J.run 5 rfl (show 0 ≤ m ∧ m < 6000 from ⟨by omega, by omega⟩) ?_
              try dsimp only
              exact J.reti rfl rfl rfl ⟨_, rfl, rfl, hT9, hE10, _, rfl, (show -2147483648 ≤ (H8.2.2.1 65 0 (m)) ∧ (H8.2.2.1 65 0 (m)) ≤ 2147483647 from ⟨by omega, by omega⟩)⟩
          · have c28 : ¬ (¬ (what = (1 : Int))) := hc
            clear hc
            have f29 : 0 ≤ H8.2.2.1 64 0 (m) ∧ H8.2.2.1 64 0 (m) ≤ 15 := hT9.1 64 (m)
            refine J.run 5 rfl (show 0 ≤ m ∧ m < 6000 from ⟨by omega, by omega⟩) ?_
            try dsimp only
            exact J.reti rfl rfl rfl ⟨_, rfl, rfl, hT9, hE10, _, rfl, (show -2147483648 ≤ (H8.2.2.1 64 0 (m)) ∧ (H8.2.2.1 64 0 (m)) ≤ 2147483647 from ⟨by omega, by omega⟩)⟩
        · have c30 : ¬ (¬ (what = (0 : Int))) := hc
          clear hc
          have f31 : 0 ≤ H8.2.2.1 63 0 (m) ∧ H8.2.2.1 63 0 (m) ≤ 2 := hT9.1 63 (m)
          refine J.run 5 rfl (show 0 ≤ m ∧ m < 6000 from ⟨by omega, by omega⟩) ?_
          try dsimp only
          exact J.reti rfl rfl rfl ⟨_, rfl, rfl, hT9, hE10, _, rfl, (show -2147483648 ≤ (H8.2.2.1 63 0 (m)) ∧ (H8.2.2.1 63 0 (m)) ≤ 2147483647 from ⟨by omega, by omega⟩)⟩
      · have c32 : ¬ (H8.1 11 47 0 ≤ (0 : Int)) := hc
        clear hc
        refine J.run0 1 rfl ?_
        try dsimp only
        exact J.reti rfl rfl rfl ⟨_, rfl, rfl, hT9, hE10, _, rfl, (show -2147483648 ≤ ((0 : Int)) ∧ ((0 : Int)) ≤ 2147483647 from ⟨by omega, by omega⟩)⟩
    · have c33 : ¬ (¬ (x5 = (0 : Int))) := hc
      clear hc
      refine J.run0 3 rfl ?_
      try dsimp only
      refine J.gn fun H34 hH34 => ?_
      have hT35 : gT H34 := by rw [hH34]; exact gT.num (f := 47) hT (show 0 ≤ (2 : Int) ∧ (2 : Int) ≤ 3 from ⟨by omega, by omega⟩) (by decide) (fun z => absurd z (by decide))
      have hE36 : jEx [47] [] H34 H := by rw [hH34]; exact jEx.num hE (by decide)
      have g37 : H34.1 11 47 0 = (2 : Int) := by subst hH34; rfl
      have g38 : H34.1 11 12 0 = H.1 11 12 0 := by subst hH34; rfl
      clear hH34
      have f39 : 0 ≤ H34.1 11 47 0 ∧ H34.1 11 47 0 ≤ 3 := hT35.2.1 47
      refine J.run0 2 rfl ?_
      try dsimp only
      refine J.ifc rfl rfl rfl (show -2147483648 ≤ H34.1 11 47 0 ∧ H34.1 11 47 0 ≤ 2147483647 from ⟨by omega, by omega⟩) (fun hc => ?_) (fun hc => ?_)
      · have c40 : H34.1 11 47 0 ≤ (0 : Int) := hc
        clear hc
        refine J.run0 1 rfl ?_
        try dsimp only
        refine J.ifc rfl rfl rfl (show -2147483648 ≤ what ∧ what ≤ 2147483647 from ⟨by omega, by omega⟩) (fun hc => ?_) (fun hc => ?_)
        · have c41 : ¬ (what = (0 : Int)) := hc
          clear hc
          refine J.run0 2 rfl ?_
          try dsimp only
          refine J.icmp rfl rfl rfl ⟨(show -2147483648 ≤ what ∧ what ≤ 2147483647 from ⟨by omega, by omega⟩), (show -2147483648 ≤ (1 : Int) ∧ (1 : Int) ≤ 2147483647 from ⟨by omega, by omega⟩)⟩ (fun hc => ?_) (fun hc => ?_)
          · have c42 : ¬ (what = (1 : Int)) := hc
            clear hc
            refine J.run0 2 rfl ?_
            try dsimp only
            refine J.icmp rfl rfl rfl ⟨(show -2147483648 ≤ what ∧ what ≤ 2147483647 from ⟨by omega, by omega⟩), (show -2147483648 ≤ (2 : Int) ∧ (2 : Int) ≤ 2147483647 from ⟨by omega, by omega⟩)⟩ (fun hc => ?_) (fun hc => ?_)
            · have c43 : ¬ (what = (2 : Int)) := hc
              clear hc
              refine J.run0 2 rfl ?_
              try dsimp only
              refine J.icmp rfl rfl rfl ⟨(show -2147483648 ≤ what ∧ what ≤ 2147483647 from ⟨by omega, by omega⟩), (show -2147483648 ≤ (3 : Int) ∧ (3 : Int) ≤ 2147483647 from ⟨by omega, by omega⟩)⟩ (fun hc => ?_) (fun hc => ?_)
              · have c44 : ¬ (what = (3 : Int)) := hc
                clear hc
                refine J.run0 2 rfl ?_
                try dsimp only
                refine J.icmp rfl rfl rfl ⟨(show -2147483648 ≤ what ∧ what ≤ 2147483647 from ⟨by omega, by omega⟩), (show -2147483648 ≤ (4 : Int) ∧ (4 : Int) ≤ 2147483647 from ⟨by omega, by omega⟩)⟩ (fun hc => ?_) (fun hc => ?_)
                · have c45 : ¬ (what = (4 : Int)) := hc
                  clear hc
                  have f46 : -1 ≤ H34.2.2.1 68 0 (m) ∧ H34.2.2.1 68 0 (m) ≤ 31 := hT35.1 68 (m)
                  refine J.run 4 rfl (show 0 ≤ m ∧ m < 6000 from ⟨by omega, by omega⟩) ?_
                  try dsimp only
                  exact J.reti rfl rfl rfl ⟨_, rfl, rfl, hT35, hE36, _, rfl, (show -2147483648 ≤ (H34.2.2.1 68 0 (m)) ∧ (H34.2.2.1 68 0 (m)) ≤ 2147483647 from ⟨by omega, by omega⟩)⟩
                · have c47 : ¬ (¬ (what = (4 : Int))) := hc
                  clear hc
                  have f48 : -1 ≤ H34.2.2.1 67 0 (m) ∧ H34.2.2.1 67 0 (m) ≤ 299 := hT35.1 67 (m)
                  have f49 : 1 ≤ H34.1 11 12 0 ∧ H34.1 11 12 0 ≤ 300 := hT35.2.1 12
                  have f48b : H34.2.2.1 67 0 (m) < H34.1 11 12 0 := hT35.2.2.1 67 (m) rfl
                  refine J.run 5 rfl (show 0 ≤ m ∧ m < 6000 from ⟨by omega, by omega⟩) ?_
                  try dsimp only
                  exact J.reti rfl rfl rfl ⟨_, rfl, rfl, hT35, hE36, _, rfl, (show -2147483648 ≤ (H34.2.2.1 67 0 (m)) ∧ (H34.2.2.1 67 0 (m)) ≤ 2147483647 from ⟨by omega, by omega⟩)⟩
              · have c50 : ¬ (¬ (what = (3 : Int))) := hc
                clear hc
                have f51 : 0 ≤ H34.2.2.1 66 0 (m) ∧ H34.2.2.1 66 0 (m) ≤ 31 := hT35.1 66 (m)
                refine J.run 5 rfl (show 0 ≤ m ∧ m < 6000 from ⟨by omega, by omega⟩) ?_
                try dsimp only
                exact J.reti rfl rfl rfl ⟨_, rfl, rfl, hT35, hE36, _, rfl, (show -2147483648 ≤ (H34.2.2.1 66 0 (m)) ∧ (H34.2.2.1 66 0 (m)) ≤ 2147483647 from ⟨by omega, by omega⟩)⟩
            · have c52 : ¬ (¬ (what = (2 : Int))) := hc
              clear hc
              have f53 : 0 ≤ H34.2.2.1 65 0 (m) ∧ H34.2.2.1 65 0 (m) ≤ 301 := hT35.1 65 (m)
              refine J.run 5 rfl (show 0 ≤ m ∧ m < 6000 from ⟨by omega, by omega⟩) ?_
              try dsimp only
              exact J.reti rfl rfl rfl ⟨_, rfl, rfl, hT35, hE36, _, rfl, (show -2147483648 ≤ (H34.2.2.1 65 0 (m)) ∧ (H34.2.2.1 65 0 (m)) ≤ 2147483647 from ⟨by omega, by omega⟩)⟩
          · have c54 : ¬ (¬ (what = (1 : Int))) := hc
            clear hc
            have f55 : 0 ≤ H34.2.2.1 64 0 (m) ∧ H34.2.2.1 64 0 (m) ≤ 15 := hT35.1 64 (m)
            refine J.run 5 rfl (show 0 ≤ m ∧ m < 6000 from ⟨by omega, by omega⟩) ?_
            try dsimp only
            exact J.reti rfl rfl rfl ⟨_, rfl, rfl, hT35, hE36, _, rfl, (show -2147483648 ≤ (H34.2.2.1 64 0 (m)) ∧ (H34.2.2.1 64 0 (m)) ≤ 2147483647 from ⟨by omega, by omega⟩)⟩
        · have c56 : ¬ (¬ (what = (0 : Int))) := hc
          clear hc
          have f57 : 0 ≤ H34.2.2.1 63 0 (m) ∧ H34.2.2.1 63 0 (m) ≤ 2 := hT35.1 63 (m)
          refine J.run 5 rfl (show 0 ≤ m ∧ m < 6000 from ⟨by omega, by omega⟩) ?_
          try dsimp only
          exact J.reti rfl rfl rfl ⟨_, rfl, rfl, hT35, hE36, _, rfl, (show -2147483648 ≤ (H34.2.2.1 63 0 (m)) ∧ (H34.2.2.1 63 0 (m)) ≤ 2147483647 from ⟨by omega, by omega⟩)⟩
      · have c58 : ¬ (H34.1 11 47 0 ≤ (0 : Int)) := hc
        clear hc
        refine J.run0 1 rfl ?_
        try dsimp only
        exact J.reti rfl rfl rfl ⟨_, rfl, rfl, hT35, hE36, _, rfl, (show -2147483648 ≤ ((0 : Int)) ∧ ((0 : Int)) ≤ 2147483647 from ⟨by omega, by omega⟩)⟩
  · have c59 : ¬ (¬ (x2 = (0 : Int))) := hc
    clear hc
    refine J.run0 3 rfl ?_
    try dsimp only
    refine J.gn fun H60 hH60 => ?_
    have hT61 : gT H60 := by rw [hH60]; exact gT.num (f := 47) hT (show 0 ≤ (1 : Int) ∧ (1 : Int) ≤ 3 from ⟨by omega, by omega⟩) (by decide) (fun z => absurd z (by decide))
    have hE62 : jEx [47] [] H60 H := by rw [hH60]; exact jEx.num hE (by decide)
    have g63 : H60.1 11 47 0 = (1 : Int) := by subst hH60; rfl
    have g64 : H60.1 11 12 0 = H.1 11 12 0 := by subst hH60; rfl
    clear hH60
    have f65 : 0 ≤ H60.1 11 47 0 ∧ H60.1 11 47 0 ≤ 3 := hT61.2.1 47
    refine J.run0 2 rfl ?_
    try dsimp only
    refine J.ifc rfl rfl rfl (show -2147483648 ≤ H60.1 11 47 0 ∧ H60.1 11 47 0 ≤ 2147483647 from ⟨by omega, by omega⟩) (fun hc => ?_) (fun hc => ?_)
    · have c66 : H60.1 11 47 0 ≤ (0 : Int) := hc
      clear hc
      refine J.run0 1 rfl ?_
      try dsimp only
      refine J.ifc rfl rfl rfl (show -2147483648 ≤ what ∧ what ≤ 2147483647 from ⟨by omega, by omega⟩) (fun hc => ?_) (fun hc => ?_)
      · have c67 : ¬ (what = (0 : Int)) := hc
        clear hc
        refine J.run0 2 rfl ?_
        try dsimp only
        refine J.icmp rfl rfl rfl ⟨(show -2147483648 ≤ what ∧ what ≤ 2147483647 from ⟨by omega, by omega⟩), (show -2147483648 ≤ (1 : Int) ∧ (1 : Int) ≤ 2147483647 from ⟨by omega, by omega⟩)⟩ (fun hc => ?_) (fun hc => ?_)
        · have c68 : ¬ (what = (1 : Int)) := hc
          clear hc
          refine J.run0 2 rfl ?_
          try dsimp only
          refine J.icmp rfl rfl rfl ⟨(show -2147483648 ≤ what ∧ what ≤ 2147483647 from ⟨by omega, by omega⟩), (show -2147483648 ≤ (2 : Int) ∧ (2 : Int) ≤ 2147483647 from ⟨by omega, by omega⟩)⟩ (fun hc => ?_) (fun hc => ?_)
          · have c69 : ¬ (what = (2 : Int)) := hc
            clear hc
            refine J.run0 2 rfl ?_
            try dsimp only
            refine J.icmp rfl rfl rfl ⟨(show -2147483648 ≤ what ∧ what ≤ 2147483647 from ⟨by omega, by omega⟩), (show -2147483648 ≤ (3 : Int) ∧ (3 : Int) ≤ 2147483647 from ⟨by omega, by omega⟩)⟩ (fun hc => ?_) (fun hc => ?_)
            · have c70 : ¬ (what = (3 : Int)) := hc
              clear hc
              refine J.run0 2 rfl ?_
              try dsimp only
              refine J.icmp rfl rfl rfl ⟨(show -2147483648 ≤ what ∧ what ≤ 2147483647 from ⟨by omega, by omega⟩), (show -2147483648 ≤ (4 : Int) ∧ (4 : Int) ≤ 2147483647 from ⟨by omega, by omega⟩)⟩ (fun hc => ?_) (fun hc => ?_)
              · have c71 : ¬ (what = (4 : Int)) := hc
                clear hc
                have f72 : -1 ≤ H60.2.2.1 68 0 (m) ∧ H60.2.2.1 68 0 (m) ≤ 31 := hT61.1 68 (m)
                refine J.run 4 rfl (show 0 ≤ m ∧ m < 6000 from ⟨by omega, by omega⟩) ?_
                try dsimp only
                exact J.reti rfl rfl rfl ⟨_, rfl, rfl, hT61, hE62, _, rfl, (show -2147483648 ≤ (H60.2.2.1 68 0 (m)) ∧ (H60.2.2.1 68 0 (m)) ≤ 2147483647 from ⟨by omega, by omega⟩)⟩
              · have c73 : ¬ (¬ (what = (4 : Int))) := hc
                clear hc
                have f74 : -1 ≤ H60.2.2.1 67 0 (m) ∧ H60.2.2.1 67 0 (m) ≤ 299 := hT61.1 67 (m)
                have f75 : 1 ≤ H60.1 11 12 0 ∧ H60.1 11 12 0 ≤ 300 := hT61.2.1 12
                have f74b : H60.2.2.1 67 0 (m) < H60.1 11 12 0 := hT61.2.2.1 67 (m) rfl
                refine J.run 5 rfl (show 0 ≤ m ∧ m < 6000 from ⟨by omega, by omega⟩) ?_
                try dsimp only
                exact J.reti rfl rfl rfl ⟨_, rfl, rfl, hT61, hE62, _, rfl, (show -2147483648 ≤ (H60.2.2.1 67 0 (m)) ∧ (H60.2.2.1 67 0 (m)) ≤ 2147483647 from ⟨by omega, by omega⟩)⟩
            · have c76 : ¬ (¬ (what = (3 : Int))) := hc
              clear hc
              have f77 : 0 ≤ H60.2.2.1 66 0 (m) ∧ H60.2.2.1 66 0 (m) ≤ 31 := hT61.1 66 (m)
              refine J.run 5 rfl (show 0 ≤ m ∧ m < 6000 from ⟨by omega, by omega⟩) ?_
              try dsimp only
              exact J.reti rfl rfl rfl ⟨_, rfl, rfl, hT61, hE62, _, rfl, (show -2147483648 ≤ (H60.2.2.1 66 0 (m)) ∧ (H60.2.2.1 66 0 (m)) ≤ 2147483647 from ⟨by omega, by omega⟩)⟩
          · have c78 : ¬ (¬ (what = (2 : Int))) := hc
            clear hc
            have f79 : 0 ≤ H60.2.2.1 65 0 (m) ∧ H60.2.2.1 65 0 (m) ≤ 301 := hT61.1 65 (m)
            refine J.run 5 rfl (show 0 ≤ m ∧ m < 6000 from ⟨by omega, by omega⟩) ?_
            try dsimp only
            exact J.reti rfl rfl rfl ⟨_, rfl, rfl, hT61, hE62, _, rfl, (show -2147483648 ≤ (H60.2.2.1 65 0 (m)) ∧ (H60.2.2.1 65 0 (m)) ≤ 2147483647 from ⟨by omega, by omega⟩)⟩
        · have c80 : ¬ (¬ (what = (1 : Int))) := hc
          clear hc
          have f81 : 0 ≤ H60.2.2.1 64 0 (m) ∧ H60.2.2.1 64 0 (m) ≤ 15 := hT61.1 64 (m)
          refine J.run 5 rfl (show 0 ≤ m ∧ m < 6000 from ⟨by omega, by omega⟩) ?_
          try dsimp only
          exact J.reti rfl rfl rfl ⟨_, rfl, rfl, hT61, hE62, _, rfl, (show -2147483648 ≤ (H60.2.2.1 64 0 (m)) ∧ (H60.2.2.1 64 0 (m)) ≤ 2147483647 from ⟨by omega, by omega⟩)⟩
      · have c82 : ¬ (¬ (what = (0 : Int))) := hc
        clear hc
        have f83 : 0 ≤ H60.2.2.1 63 0 (m) ∧ H60.2.2.1 63 0 (m) ≤ 2 := hT61.1 63 (m)
        refine J.run 5 rfl (show 0 ≤ m ∧ m < 6000 from ⟨by omega, by omega⟩) ?_
        try dsimp only
        exact J.reti rfl rfl rfl ⟨_, rfl, rfl, hT61, hE62, _, rfl, (show -2147483648 ≤ (H60.2.2.1 63 0 (m)) ∧ (H60.2.2.1 63 0 (m)) ≤ 2147483647 from ⟨by omega, by omega⟩)⟩
    · have c84 : ¬ (H60.1 11 47 0 ≤ (0 : Int)) := hc
      clear hc
      refine J.run0 1 rfl ?_
      try dsimp only
      exact J.reti rfl rfl rfl ⟨_, rfl, rfl, hT61, hE62, _, rfl, (show -2147483648 ≤ ((0 : Int)) ∧ ((0 : Int)) ≤ 2147483647 from ⟨by omega, by omega⟩)⟩
end
