section JMA
variable {d : Nat} {w : jW} {H : jH}
abbrev kS : List Nat := [108, 99, 100, 101, 105, 111, 110, 113, 112]
/-- what set(n) leaves behind -/
def rSet (v : zV) (ht : Nat → Nat) (n : Nat) (H' H : jH) : Prop := jEx sF kS H' H ∧ rLed H' ∧ (-1 ≤ H'.1 11 48 0 ∧ H'.1 11 48 0 < 300) ∧ mPow H' n ∧ H'.2.2.1 113 0 n = (vNow v ht).length ∧ (∀ (j x : Nat), (vNow v ht)[j]? = some x → H'.2.2.1 112 0 (6000 * (n : Int) + j) = x) ∧ ∀ n', n' ≠ n → n' < 16 → rOth H' H n'
theorem take_filter {K : List Nat} {p : Nat → Bool} {i x : Nat} (h : K[i]? = some x) : (K.take (i + 1)).filter p = (K.take i).filter p ++ (if p x = true then [x] else []) := by
  rw [List.take_add_one, h, List.filter_append]
  congr 1
  by_cases hp : p x = true
  · rw [if_pos hp]; simp [hp]
  · rw [if_neg hp]; simp [hp]
theorem j_set_l2 {v : zV} {ht : Nat → Nat} {n : Nat} (hn : n < 16) (H0 : jH) (hc1 : H0.2.2.1 71 0 n = v.2.2.2.2.length) (hlen : v.2.2.2.2.length ≤ 6000) (hc2 : ∀ (j x : Nat), v.2.2.2.2[j]? = some x → H0.2.2.1 70 0 (6000 * (n : Int) + j) = x) (hK : ∀ x ∈ v.2.2.2.2, x < 6000 ∧ H0.2.2.1 65 0 x = ht x ∧ ht x ≤ 1000) (hl : 0 ≤ H0.2.2.1 72 0 n ∧ H0.2.2.1 72 0 n < 300) (hbh : H0.2.2.1 56 0 (H0.2.2.1 72 0 n) + 1 = v.1) (hv : v.1 ≤ 300) :
    ∀ (m i : Nat) (H : jH), i + m = v.2.2.2.2.length → jEx sF kS H H0 → rLed H → (-1 ≤ H.1 11 48 0 ∧ H.1 11 48 0 < 300) → mPow H n → H.2.2.1 113 0 n = ((v.2.2.2.2.take i).filter fun x => ht x == v.1).length → (∀ (j x : Nat), ((v.2.2.2.2.take i).filter fun x => ht x == v.1)[j]? = some x → H.2.2.1 112 0 (6000 * (n : Int) + j) = x) → (∀ n', n' ≠ n → n' < 16 → rOth H H0 n') →
    J true (d + 1) 127 w (70, [(2, .inl (i : Int)), (0, jT), (1, .inl (n : Int))], [], H) (jN fun r w' H' => r = none ∧ w' = w ∧ rSet v ht n H' H0) := by
  intro m
  have hn' : (0 : Int) ≤ n ∧ (n : Int) < 16 := by omega
  induction m with
  | zero =>
    intro i H hi hE hL hd hP h1 h2 hO
    obtain rfl : i = v.2.2.2.2.length := by omega
    have ek : H.2.2.1 71 0 n = v.2.2.2.2.length := by rw [hE.r 71 (by decide)]; exact hc1
    refine J.run 5 rfl hn' ?_
    try dsimp only
    refine J.icmp rfl rfl rfl ⟨⟨by omega, by omega⟩, show -2147483648 ≤ H.2.2.1 71 0 n by omega, show H.2.2.1 71 0 n ≤ 2147483647 by omega⟩ (fun _ => ?_) (fun hc => absurd (show H.2.2.1 71 0 n ≤ (v.2.2.2.2.length : Int) by omega) hc)
    rw [List.take_length] at h1 h2
    exact J.retv rfl rfl rfl ⟨_, rfl, rfl, rfl, hE, hL, hd, hP, h1, h2, hO⟩
  | succ m ih =>
    intro i H hi hE hL hd hP h1 h2 hO
    have hlt : i < v.2.2.2.2.length := by omega
    obtain ⟨x, hx⟩ : ∃ x, v.2.2.2.2[i]? = some x := ⟨_, List.getElem?_eq_getElem hlt⟩
    have ek : H.2.2.1 71 0 n = v.2.2.2.2.length := by rw [hE.r 71 (by decide)]; exact hc1
    have es : H.2.2.1 70 0 (6000 * (n : Int) + i) = x := by rw [hE.r 70 (by decide)]; exact hc2 i x hx
    have hxK := hK x (List.mem_of_getElem? hx)
    have em : H.2.2.1 65 0 x = ht x := by rw [hE.r 65 (by decide)]; exact hxK.2.1
    have el : H.2.2.1 72 0 = H0.2.2.1 72 0 := hE.r 72 (by decide)
    have eb : H.2.2.1 56 0 = H0.2.2.1 56 0 := hE.r 56 (by decide)
    have hl' : 0 ≤ H.2.2.1 72 0 n ∧ H.2.2.1 72 0 n < 300 := by rw [el]; exact hl
    have hbh' : H.2.2.1 56 0 (H.2.2.1 72 0 n) + 1 = v.1 := by rw [el, eb]; exact hbh
    have i1 : 0 ≤ 6000 * (n : Int) + (i : Int) ∧ 6000 * (n : Int) + (i : Int) < 96000 := by omega
    have i2 : 0 ≤ H.2.2.1 70 0 (6000 * (n : Int) + i) ∧ H.2.2.1 70 0 (6000 * (n : Int) + i) < 6000 := by omega
    refine J.run 5 rfl hn' ?_
    try dsimp only
    refine J.icmp rfl rfl rfl ⟨⟨by omega, by omega⟩, show -2147483648 ≤ H.2.2.1 71 0 n by omega, show H.2.2.1 71 0 n ≤ 2147483647 by omega⟩ (fun hc => absurd (show H.2.2.1 71 0 n ≤ (i : Int) from hc) (by omega)) (fun _ => ?_)
    refine J.run 13 rfl ⟨i1, i2⟩ ?_
    try dsimp only
    refine J.inv rfl rfl rfl rfl rfl rfl jDr rfl rfl rfl rfl rfl (j_height hn' hl') ?_
    rintro r w H ⟨rfl, rfl, rfl⟩
    have em2 : H.2.2.1 65 0 (H.2.2.1 70 0 (6000 * (n : Int) + i)) = ht x := by rw [es, em]
    refine J.icmp rfl rfl rfl ⟨⟨show -2147483648 ≤ H.2.2.1 65 0 (H.2.2.1 70 0 (6000 * (n : Int) + i)) by omega, show H.2.2.1 65 0 (H.2.2.1 70 0 (6000 * (n : Int) + i)) ≤ 2147483647 by omega⟩, show -2147483648 ≤ H.2.2.1 56 0 (H.2.2.1 72 0 n) + 1 by omega, show H.2.2.1 56 0 (H.2.2.1 72 0 n) + 1 ≤ 2147483647 by omega⟩ (fun hc => ?_) (fun hc => ?_)
    · have hc' : ¬ ht x = v.1 := fun z => absurd (show H.2.2.1 65 0 (H.2.2.1 70 0 (6000 * (n : Int) + i)) = H.2.2.1 56 0 (H.2.2.1 72 0 n) + 1 by omega) hc
      refine J.run0 2 rfl ?_
      try dsimp only
      have e9 : (v.2.2.2.2.take (i + 1)).filter (fun x => ht x == v.1) = (v.2.2.2.2.take i).filter fun x => ht x == v.1 := by
        rw [take_filter hx, if_neg (by simpa using hc'), List.append_nil]
      refine ih (i + 1) H (by omega) hE hL hd hP ?_ ?_ hO
      · rw [e9]; exact h1
      · rw [e9]; exact h2
    · have hc' : ht x = v.1 := by
        have : H.2.2.1 65 0 (H.2.2.1 70 0 (6000 * (n : Int) + i)) = H.2.2.1 56 0 (H.2.2.1 72 0 n) + 1 := Classical.not_not.mp hc
        omega
      have hfl : ((v.2.2.2.2.take i).filter fun x => ht x == v.1).length ≤ i := Nat.le_trans (List.length_filter_le _ _) (by rw [List.length_take]; omega)
      have i3 : 0 ≤ 6000 * (n : Int) + H.2.2.1 113 0 n ∧ 6000 * (n : Int) + H.2.2.1 113 0 n < 96000 := by omega
      refine J.run 24 rfl ⟨hn', hn', i1, i3⟩ ?_
      try dsimp only
      refine J.run0 2 rfl ?_
      try dsimp only
      have e9 : (v.2.2.2.2.take (i + 1)).filter (fun x => ht x == v.1) = ((v.2.2.2.2.take i).filter fun x => ht x == v.1) ++ [x] := by
        rw [take_filter hx, if_pos (by simpa using hc')]
      refine J.gen fun H1 hH1 => ?_
      have hE1 : jEx sF kS H1 H0 := by
        rw [hH1]
        iterate 2 refine jEx.row ?_ (by decide)
        exact hE
      have hO1 : ∀ n', n' ≠ n → n' < 16 → rOth H1 H0 n' := by
        intro n' a b
        rw [hH1]
        refine rOth.up ?_ (Or.inr (by decide)) (Or.inl ?_) (Or.inr (by decide))
        · exact rOth.up (hO n' a b) (Or.inl (by omega)) (Or.inr (by decide)) (Or.inr (by decide))
        · omega
      have q1 : H1.2.2.1 113 0 n = H.2.2.1 113 0 n + 1 := by
        rw [hH1]
        show jup (H.2.2.1 113 0) n (H.2.2.1 113 0 n + 1) n = _
        exact if_pos rfl
      have q2 : ∀ j, H1.2.2.1 112 0 j = jup (H.2.2.1 112 0) (6000 * (n : Int) + H.2.2.1 113 0 n) x j := by
        intro j
        rw [hH1]
        show jup (H.2.2.1 112 0) (6000 * (n : Int) + H.2.2.1 113 0 n) (H.2.2.1 70 0 (6000 * (n : Int) + i)) j = _
        rw [es]
      have q3 : rLed H1 ∧ (-1 ≤ H1.1 11 48 0 ∧ H1.1 11 48 0 < 300) ∧ mPow H1 n := by
        rw [hH1]
        exact ⟨hL, hd, hP⟩
      clear hH1
      refine ih (i + 1) H1 (by omega) hE1 q3.1 q3.2.1 q3.2.2 ?_ ?_ hO1
      · rw [e9, q1, h1, List.length_append, List.length_singleton]
        omega
      · rw [e9]
        intro j y hy
        rw [q2]
        unfold jup
        rcases get_app hy with ⟨p1, p2⟩ | ⟨p1, p2⟩
        · rw [if_neg (by omega)]
          exact h2 j y p2
        · rw [if_pos (by omega), p2]
theorem j_set_l1 {n : Nat} (hn : n < 16) (H0 : jH) (Post : jO → jW → jH → Prop) (hnext : ∀ H, jEx sF kS H H0 → rLed H → (-1 ≤ H.1 11 48 0 ∧ H.1 11 48 0 < 300) → mPow H n → (∀ n', n' ≠ n → n' < 16 → rOth H H0 n') → J true (d + 1) 127 w (61, [(2, .inl 16), (0, jT), (1, .inl (n : Int))], [], H) Post) :
    ∀ (m i : Nat) (H : jH), i + m = 16 → jEx sF kS H H0 → rLed H → (-1 ≤ H.1 11 48 0 ∧ H.1 11 48 0 < 300) → H.2.2.1 111 0 n = 100 * (i : Int) → (∀ j, 0 ≤ j → j < (i : Int) → H.2.2.1 110 0 (16 * (n : Int) + j) = 100) → (∀ n', n' ≠ n → n' < 16 → rOth H H0 n') →
    J true (d + 1) 127 w (19, [(2, .inl (i : Int)), (0, jT), (1, .inl (n : Int))], [], H) Post := by
  intro m
  have hn' : (0 : Int) ≤ n ∧ (n : Int) < 16 := by omega
  induction m with
  | zero =>
    intro i H hi hE hL hd ht hp hO
    obtain rfl : i = 16 := by omega
    refine J.run0 2 rfl ?_
    try dsimp only
    refine J.icmp rfl rfl rfl ⟨⟨by omega, by omega⟩, by decide, by decide⟩ (fun _ => ?_) (fun hc => absurd (show (16 : Int) ≤ (16 : Nat) by omega) hc)
    exact hnext H hE hL hd ⟨by rw [ht]; rfl, fun j a b => hp j a b⟩ hO
  | succ m ih =>
    intro i H hi hE hL hd ht hp hO
    have hi' : (0 : Int) ≤ i ∧ (i : Int) < 16 := by omega
    have i1 : 0 ≤ 16 * (n : Int) + (i : Int) ∧ 16 * (n : Int) + (i : Int) < 256 := by omega
    refine J.run0 2 rfl ?_
    try dsimp only
    refine J.icmp rfl rfl rfl ⟨⟨by omega, by omega⟩, by decide, by decide⟩ (fun hc => absurd (show (16 : Int) ≤ (i : Int) from hc) (by omega)) (fun _ => ?_)
    refine J.run0 9 rfl ?_
    try dsimp only
    refine J.inv rfl rfl rfl rfl rfl rfl jDr rfl rfl rfl rfl rfl (j_power hL hi') ?_
    rintro r w H ⟨rfl, rfl, rfl⟩
    refine J.run 8 rfl ⟨i1, hn'⟩ ?_
    try dsimp only
    refine J.inv rfl rfl rfl rfl rfl rfl jDr rfl rfl rfl rfl rfl (j_power (H := (H.1, H.2.1, jsetR H.2.2.1 110 0 (jup (H.2.2.1 110 0) (16 * (n : Int) + i) 100), H.2.2.2)) hL hi') ?_
    rintro r w H ⟨rfl, rfl, rfl⟩
    refine J.run 4 rfl hn' ?_
    try dsimp only
    refine J.gen fun H1 hH1 => ?_
    have hE1 : jEx sF kS H1 H0 := by
      rw [hH1]
      iterate 2 refine jEx.row ?_ (by decide)
      exact hE
    have hO1 : ∀ n', n' ≠ n → n' < 16 → rOth H1 H0 n' := by
      intro n' a b
      rw [hH1]
      refine rOth.up ?_ (Or.inl (by omega)) (Or.inr (by decide)) (Or.inr (by decide))
      exact rOth.up (hO n' a b) (Or.inr (by decide)) (Or.inr (by decide)) (Or.inl (by omega))
    have q1 : H1.2.2.1 111 0 n = H.2.2.1 111 0 n + 100 := by
      rw [hH1]
      show jup (H.2.2.1 111 0) n (H.2.2.1 111 0 n + 100) n = _
      exact if_pos rfl
    have q2 : ∀ j, H1.2.2.1 110 0 j = jup (H.2.2.1 110 0) (16 * (n : Int) + i) 100 j := by
      intro j
      rw [hH1]
      rfl
    have q3 : rLed H1 ∧ (-1 ≤ H1.1 11 48 0 ∧ H1.1 11 48 0 < 300) := by
      rw [hH1]
      exact ⟨hL, hd⟩
    clear hH1
    refine ih (i + 1) H1 (by omega) hE1 q3.1 q3.2 (by rw [q1, ht]; omega) (fun j a b => ?_) hO1
    rw [q2]
    unfold jup
    by_cases hj : j = i
    · rw [if_pos (by omega)]
    · rw [if_neg (by omega)]
      exact hp j a (by omega)
theorem j_set {v : zV} {ht : Nat → Nat} {n : Nat} {B : Int} (hn : n < 16) (hL : rLed H) (hB : rB H B) (hd : -1 ≤ H.1 11 48 0 ∧ H.1 11 48 0 < 300) (hc1 : H.2.2.1 71 0 n = v.2.2.2.2.length) (hlen : v.2.2.2.2.length ≤ 6000) (hc2 : ∀ (j x : Nat), v.2.2.2.2[j]? = some x → H.2.2.1 70 0 (6000 * (n : Int) + j) = x) (hK : ∀ x ∈ v.2.2.2.2, x < 6000 ∧ H.2.2.1 65 0 x = ht x ∧ ht x ≤ 1000) (hl : H.2.2.1 72 0 n = (v.1 : Int) - 1) (hv : 1 ≤ v.1 ∧ (v.1 : Int) ≤ B) :
    J true (d + 2) 127 w (0, jargs 0 [jT, .inl n], [], H) (jN fun r w' H' => r = none ∧ w' = w ∧ rSet v ht n H' H) := by
  have hn' : (0 : Int) ≤ n ∧ (n : Int) < 16 := by omega
  have hB1 := hB.1
  have hbh := (hB.2 (H.2.2.1 72 0 n) (by omega) (by omega)).1
  refine J.run 5 rfl hn' ?_
  try dsimp only
  refine J.inv rfl rfl rfl rfl rfl rfl jDr rfl rfl rfl rfl rfl (j_state hL hB (by omega) hd) ?_
  rintro r w' H1 ⟨rfl, rfl, hL1, hE1, hd1⟩
  have hE1' : jEx sF kS H1 H := hE1.mono (by decide) (by decide)
  have hd1' : -1 ≤ H1.1 11 48 0 ∧ H1.1 11 48 0 < 300 := by omega
  refine J.run 7 rfl hn' ?_
  try dsimp only
  refine J.gen fun H2 hH2 => ?_
  have hE2 : jEx sF kS H2 H := by
    rw [hH2]
    refine jEx.row ?_ (by decide)
    exact hE1'
  have hO2 : ∀ n', n' ≠ n → n' < 16 → rOth H2 H n' := by
    intro n' a b
    rw [hH2]
    exact rOth.up (rOth.ex hE1 (by decide)) (Or.inl (by omega)) (Or.inr (by decide)) (Or.inr (by decide))
  have q1 : H2.2.2.1 111 0 n = 100 * ((0 : Nat) : Int) := by
    rw [hH2]
    show jup (H1.2.2.1 111 0) n 0 n = _
    exact if_pos rfl
  have q3 : rLed H2 ∧ (-1 ≤ H2.1 11 48 0 ∧ H2.1 11 48 0 < 300) := by
    rw [hH2]
    exact ⟨hL1, hd1'⟩
  clear hH2
  refine j_set_l1 hn H _ (fun H3 hE3 hL3 hd3 hP3 hO3 => ?_) 16 0 H2 rfl hE2 q3.1 q3.2 q1 (fun j a b => by omega) hO2
  refine J.run 7 rfl hn' ?_
  try dsimp only
  refine J.gen fun H4 hH4 => ?_
  have hE4 : jEx sF kS H4 H := by
    rw [hH4]
    refine jEx.row ?_ (by decide)
    exact hE3
  have hO4 : ∀ n', n' ≠ n → n' < 16 → rOth H4 H n' := by
    intro n' a b
    rw [hH4]
    exact rOth.up (hO3 n' a b) (Or.inl (by omega)) (Or.inr (by decide)) (Or.inr (by decide))
  have q4 : H4.2.2.1 113 0 n = 0 := by
    rw [hH4]
    show jup (H3.2.2.1 113 0) n 0 n = _
    exact if_pos rfl
  have q5 : rLed H4 ∧ (-1 ≤ H4.1 11 48 0 ∧ H4.1 11 48 0 < 300) ∧ mPow H4 n := by
    rw [hH4]
    exact ⟨hL3, hd3, hP3⟩
  clear hH4
  exact j_set_l2 (v := v) (ht := ht) hn H hc1 hlen hc2 hK (by omega) (by omega) (by omega) v.2.2.2.2.length 0 H4 (by omega) hE4 q5.1 q5.2.1 q5.2.2 (by rw [q4]; rfl) (fun j x hx => by simp at hx) hO4
end JMA
