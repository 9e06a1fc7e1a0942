/-! the class: methods that only look -/
section CL
variable {b : Bool} {d : Nat} {w : jW} {H : jH}
theorem c_height {P q : Nat} (h1 : w.1 6 P) (hl : H.2.2.2.2 6 1 P = q) (h0 : 0 < q) (hb : w.1 0 q) : J b d 31 w (0, jargs 0 [.inr (some (6, P))], [], H) (jN fun r w' H' => r = some (.inl (H.1 0 1 q + 1)) ∧ w' = w ∧ H' = H) := by
  subst hl
  refine J.run 5 rfl ⟨⟨h1, h0⟩, hb⟩ ?_
  try dsimp only
  exact J.reti rfl rfl rfl ⟨_, rfl, rfl, rfl, rfl⟩
theorem c_acts {P q : Nat} {hh : Int} (h1 : w.1 6 P) (hl : H.2.2.2.2 6 1 P = q) (h0 : 0 < q) (hb : w.1 0 q) (hf : H.1 6 10 P = 0) (hd : H.1 6 11 P = 0) (hht : H.1 0 1 q = hh) (hr : 0 ≤ hh ∧ hh ≤ 1000) : J b d 32 w (0, jargs 0 [.inr (some (6, P))], [], H) (jN fun r w' H' => r = some (.inl (if hh < 120 then 1 else 0)) ∧ w' = w ∧ H' = H) := by
  subst hl
  refine J.run 2 rfl h1 ?_
  try dsimp only
  refine J.ifc rfl rfl rfl ⟨show -2147483648 ≤ H.1 6 10 P by omega, show H.1 6 10 P ≤ 2147483647 by omega⟩ (fun hc => absurd hf hc) (fun _ => ?_)
  refine J.run 2 rfl h1 ?_
  try dsimp only
  refine J.ifc rfl rfl rfl ⟨show -2147483648 ≤ H.1 6 11 P by omega, show H.1 6 11 P ≤ 2147483647 by omega⟩ (fun hc => absurd hd hc) (fun _ => ?_)
  refine J.run 4 rfl ⟨⟨h1, h0⟩, hb⟩ ?_
  try dsimp only
  refine J.icmp rfl rfl rfl ⟨⟨show -2147483648 ≤ H.1 0 1 (H.2.2.2.2 6 1 P) by omega, show H.1 0 1 (H.2.2.2.2 6 1 P) ≤ 2147483647 by omega⟩, by decide, by decide⟩ (fun hc => ?_) (fun hc => ?_)
  · have hc' : 120 ≤ H.1 0 1 (H.2.2.2.2 6 1 P) := hc
    refine J.run0 1 rfl ?_
    try dsimp only
    refine J.retb rfl rfl rfl (by decide) ⟨_, rfl, ?_, rfl, rfl⟩
    rw [if_neg (by omega)]
  · have hc' : ¬ 120 ≤ H.1 0 1 (H.2.2.2.2 6 1 P) := hc
    refine J.run0 2 rfl ?_
    try dsimp only
    refine J.retb rfl rfl rfl (by decide) ⟨_, rfl, ?_, rfl, rfl⟩
    rw [if_pos (by omega)]
/-- how many of the first n bits are 1 -/
def mcnt (x : Int) (n : Nat) : Nat := (List.range n).countP fun k => mb x k
theorem mcnt_succ (x : Int) (n : Nat) : mcnt x (n + 1) = mcnt x n + if mb x n = true then 1 else 0 := by
  unfold mcnt
  rw [List.range_succ, List.countP_append]
  congr 1
  by_cases h : mb x n = true
  · simp [List.countP_cons, h]
  · simp [List.countP_cons, h]
theorem mcnt_le (x : Int) (n : Nat) : mcnt x n ≤ n := by
  have := List.countP_le_length (p := fun k => mb x k) (l := List.range n)
  rw [List.length_range] at this
  exact this
theorem c_weigh_l {pw : Nat} {bits : Int} (h1 : w.1 43 pw) (hp : ∀ n, 0 ≤ n → n < 16 → H.2.2.1 43 pw n = 100) : ∀ (m i : Nat), i + m = 16 →
    J b d 111 w (4, [(3, .inl (i : Int)), (2, .inl (100 * (mcnt bits i : Int))), (0, .inr (some (43, pw))), (1, .inl bits)], [], H) (jN fun r w' H' => r = some (.inl (100 * (mcnt bits 16 : Int))) ∧ w' = w ∧ H' = H) := by
  intro m
  induction m with
  | zero =>
    intro i hi
    obtain rfl : i = 16 := by omega
    refine J.run0 2 rfl ?_
    try dsimp only
    refine J.icmp rfl rfl rfl ⟨⟨by omega, by omega⟩, by decide, by decide⟩ (fun _ => ?_) (fun hc => absurd (show (16 : Int) ≤ (16 : Nat) by omega) hc)
    refine J.run0 1 rfl ?_
    try dsimp only
    exact J.reti rfl rfl rfl ⟨_, rfl, rfl, rfl, rfl⟩
  | succ m ih =>
    intro i hi
    have h16 : (i : Int) < 16 := by omega
    refine J.run0 2 rfl ?_
    try dsimp only
    refine J.icmp rfl rfl rfl ⟨⟨by omega, by omega⟩, by decide, by decide⟩ (fun hc => absurd (show (16 : Int) ≤ i from hc) (by omega)) (fun _ => ?_)
    refine J.run0 6 rfl ?_
    try dsimp only
    try dsimp only
    rw [mb_ushr bits (show i < 32 by omega)]
    have h9 := ih (i + 1) (by omega)
    rw [mcnt_succ] at h9
    by_cases hm : mb bits i = true
    · rw [if_pos hm] at h9 ⊢
      refine J.icmp rfl rfl rfl ⟨⟨by decide, by decide⟩, by decide, by decide⟩ (fun hc => absurd rfl hc) (fun _ => ?_)
      refine J.run 6 rfl ⟨h1, show (0 : Int) ≤ i by omega, show (i : Int) < 16 from h16⟩ ?_
      try dsimp only
      refine J.run0 2 rfl ?_
      try dsimp only
      rw [show (100 : Int) * ((mcnt bits i + 1 : Nat) : Int) = 100 * (mcnt bits i : Int) + H.2.2.1 43 pw i by rw [hp i (by omega) h16]; omega] at h9
      exact h9
    · rw [if_neg hm] at h9 ⊢
      refine J.icmp rfl rfl rfl ⟨⟨by decide, by decide⟩, by decide, by decide⟩ (fun _ => ?_) (fun hc => absurd (show ¬ (0 : Int) = 1 by decide) hc)
      refine J.run0 2 rfl ?_
      try dsimp only
      exact h9
theorem c_weigh {pw : Nat} {bits : Int} (h1 : w.1 43 pw) (hp : ∀ n, 0 ≤ n → n < 16 → H.2.2.1 43 pw n = 100) : J b d 111 w (0, jargs 0 [.inr (some (43, pw)), .inl bits], [], H) (jN fun r w' H' => r = some (.inl (100 * (mcnt bits 16 : Int))) ∧ w' = w ∧ H' = H) := by
  refine J.run0 4 rfl ?_
  try dsimp only
  exact c_weigh_l h1 hp 16 0 rfl
theorem c_stMost {s : Nat} {bits : Int} (h8 : w.1 8 s) (h2 : cSt2 w H s) : J b (d + 1) 63 w (0, jargs 0 [.inr (some (8, s)), .inl bits], [], H) (jN fun r w' H' => r = some (.inl (if 11 ≤ mcnt bits 16 then 1 else 0)) ∧ w' = w ∧ H' = H) := by
  have hle := mcnt_le bits 16
  refine J.run 4 rfl ⟨h8, h2.2.1⟩ ?_
  try dsimp only
  refine J.ins4 rfl rfl rfl (Or.inr (Or.inl rfl)) rfl rfl rfl rfl rfl (jstP.of rfl) (c_weigh h2.2.2.1 h2.2.2.2) ?_
  rintro r w' H' ⟨rfl, rfl, rfl⟩
  refine J.run 5 rfl h8 ?_
  try dsimp only
  try dsimp only
  rw [h2.1]
  refine J.icmp rfl rfl rfl ⟨⟨by omega, by omega⟩, by decide, by decide⟩ (fun hc => ?_) (fun hc => ?_)
  · have hc' : 3 * (100 * (mcnt bits 16 : Int)) ≤ 2 * 1600 := hc
    refine J.run0 1 rfl ?_
    try dsimp only
    refine J.retb rfl rfl rfl (by decide) ⟨_, rfl, ?_, rfl, rfl⟩
    rw [if_neg (by omega)]
  · have hc' : ¬ 3 * (100 * (mcnt bits 16 : Int)) ≤ 2 * 1600 := hc
    refine J.run0 2 rfl ?_
    try dsimp only
    refine J.retb rfl rfl rfl (by decide) ⟨_, rfl, ?_, rfl, rfl⟩
    rw [if_pos (by omega)]
theorem c_isMost {P q s : Nat} {bits : Int} (h1 : w.1 6 P) (hl : H.2.2.2.2 6 1 P = q) (h0 : 0 < q) (hb : w.1 0 q) (hs : H.2.1 0 6 q = some s) (h8 : w.1 8 s) (h2 : cSt2 w H s) : J b (d + 2) 33 w (0, jargs 0 [.inr (some (6, P)), .inl bits], [], H) (jN fun r w' H' => r = some (.inl (if 11 ≤ mcnt bits 16 then 1 else 0)) ∧ w' = w ∧ H' = H) := by
  subst hl
  refine J.run 3 rfl ⟨⟨h1, h0⟩, hb⟩ ?_
  try dsimp only
  try dsimp only
  rw [hs]
  refine J.run0 1 rfl ?_
  try dsimp only
  refine J.run 4 rfl ⟨⟨h1, h0⟩, hb⟩ ?_
  try dsimp only
  try dsimp only
  rw [hs]
  refine J.inv rfl rfl rfl rfl rfl rfl ((jD_w rfl).mpr h8) rfl rfl rfl rfl rfl (c_stMost h8 h2) ?_
  rintro r w' H' ⟨rfl, rfl, rfl⟩
  by_cases h11 : 11 ≤ mcnt bits 16
  · rw [if_pos h11]
    refine J.ifc rfl rfl rfl ⟨by decide, by decide⟩ (fun hc => absurd hc (show ¬ (1 : Int) = 0 by decide)) (fun _ => ?_)
    refine J.run0 2 rfl ?_
    try dsimp only
    exact J.retb rfl rfl rfl (by decide) ⟨_, rfl, rfl, rfl, rfl⟩
  · rw [if_neg h11]
    refine J.ifc rfl rfl rfl ⟨by decide, by decide⟩ (fun _ => ?_) (fun hc => absurd rfl hc)
    refine J.run0 1 rfl ?_
    try dsimp only
    exact J.retb rfl rfl rfl (by decide) ⟨_, rfl, rfl, rfl, rfl⟩
theorem c_stProp_l {s : Nat} {h mk : Int} (h8 : w.1 8 s) (h2 : cSt2 w H s) (hm : 0 ≤ mk ∧ mk < 1600) : ∀ (m i : Nat), (i : Int) + m = mk / 100 →
    J b d 65 w (32, [(5, .inl (i : Int)), (4, .inl (100 * (i : Int))), (3, .inl mk), (0, .inr (some (8, s))), (1, .inl h), (2, .inl 0)], [], H) (jN fun r w' H' => r = some (.inl (mk / 100)) ∧ w' = w ∧ H' = H) := by
  intro m
  have hp : ∀ i : Nat, i < 16 → H.2.2.1 43 (H.2.2.2.2 8 12 s) i = 100 := fun i hi => h2.2.2.2 i (by omega) (by omega)
  induction m with
  | zero =>
    intro i hi
    have h16 : i < 16 := by omega
    have e := hp i h16
    refine J.run0 2 rfl ?_
    try dsimp only
    refine J.icmp rfl rfl rfl ⟨⟨by omega, by omega⟩, by decide, by decide⟩ (fun hc => absurd (show (16 : Int) ≤ i from hc) (by omega)) (fun _ => ?_)
    refine J.run 9 rfl ⟨⟨h8, h2.2.1⟩, h2.2.2.1, show (0 : Int) ≤ i by omega, show (i : Int) < 16 by omega⟩ ?_
    try dsimp only
    try dsimp only
    rw [e]
    refine J.icmp rfl rfl rfl ⟨⟨by omega, by omega⟩, by omega, by omega⟩ (fun hc => absurd (show 100 * (i : Int) + 100 ≤ mk from hc) (by omega)) (fun _ => ?_)
    refine J.run0 1 rfl ?_
    try dsimp only
    refine J.reti rfl rfl rfl ⟨_, rfl, ?_, rfl, rfl⟩
    rw [← hi]
    simp
  | succ m ih =>
    intro i hi
    have h16 : i < 16 := by omega
    have e := hp i h16
    refine J.run0 2 rfl ?_
    try dsimp only
    refine J.icmp rfl rfl rfl ⟨⟨by omega, by omega⟩, by decide, by decide⟩ (fun hc => absurd (show (16 : Int) ≤ i from hc) (by omega)) (fun _ => ?_)
    refine J.run 9 rfl ⟨⟨h8, h2.2.1⟩, h2.2.2.1, show (0 : Int) ≤ i by omega, show (i : Int) < 16 by omega⟩ ?_
    try dsimp only
    try dsimp only
    rw [e]
    refine J.icmp rfl rfl rfl ⟨⟨by omega, by omega⟩, by omega, by omega⟩ (fun _ => ?_) (fun hc => absurd (show 100 * (i : Int) + 100 ≤ mk by omega) hc)
    refine J.run0 2 rfl ?_
    try dsimp only
    have h9 := ih (i + 1) (by omega)
    rw [show (100 : Int) * ((i + 1 : Nat) : Int) = 100 * (i : Int) + 100 by omega] at h9
    exact h9
theorem c_stProp {s h : Nat} (h8 : w.1 8 s) (h2 : cSt2 w H s) (hh : h ≤ 1000) : J b d 65 w (0, jargs 0 [.inr (some (8, s)), .inl (h : Int), .inl 0], [], H) (jN fun r w' H' => r = some (.inl (zP h : Int)) ∧ w' = w ∧ H' = H) := by
  have ht := h2.1
  refine J.run 2 rfl h8 ?_
  try dsimp only
  refine J.ifc rfl rfl rfl ⟨show -2147483648 ≤ H.1 8 13 s by omega, show H.1 8 13 s ≤ 2147483647 by omega⟩ (fun _ => ?_) (fun hc => absurd (show 0 < H.1 8 13 s by omega) hc)
  refine J.run 15 rfl ⟨h8, show 0 ≤ 131 * (h : Int) + 307 * 0 by omega, show 131 * (h : Int) + 307 * 0 ≤ 2147483647 by omega, show 0 < H.1 8 13 s by omega, show H.1 8 13 s ≤ 2147483647 by omega⟩ ?_
  try dsimp only
  try dsimp only
  rw [ht]
  have e : (131 * (h : Int) + 307 * 0) % 1600 / 100 = (zP h : Int) := by
    unfold zP
    omega
  have h9 := c_stProp_l (b := b) (d := d) (w := w) (H := H) (s := s) (h := (h : Int)) (mk := (131 * (h : Int) + 307 * 0) % 1600) h8 h2 (by omega) (zP h) 0 (by omega)
  rw [e] at h9
  exact h9
theorem c_prop {P q s h : Nat} (h1 : w.1 6 P) (hl : H.2.2.2.2 6 1 P = q) (h0 : 0 < q) (hb : w.1 0 q) (hs : H.2.1 0 6 q = some s) (h8 : w.1 8 s) (h2 : cSt2 w H s) (hh : H.1 0 1 q + 1 = (h : Int)) (hh2 : h ≤ 1000) : J b (d + 1) 35 w (0, jargs 0 [.inr (some (6, P)), .inl 0], [], H) (jN fun r w' H' => r = some (.inl (zP h : Int)) ∧ w' = w ∧ H' = H) := by
  subst hl
  refine J.run 3 rfl ⟨⟨h1, h0⟩, hb⟩ ?_
  try dsimp only
  try dsimp only
  rw [hs]
  refine J.run0 1 rfl ?_
  try dsimp only
  refine J.run 4 rfl ⟨⟨h1, h0⟩, hb⟩ ?_
  try dsimp only
  try dsimp only
  rw [hs]
  refine J.inv rfl rfl rfl rfl rfl rfl ((jD_w rfl).mpr h1) rfl rfl rfl rfl rfl (c_height h1 rfl h0 hb) ?_
  rintro r w' H' ⟨rfl, rfl, rfl⟩
  rw [hh]
  refine J.run0 1 rfl ?_
  try dsimp only
  refine J.inv rfl rfl rfl rfl rfl rfl ((jD_w rfl).mpr h8) rfl rfl rfl rfl rfl (c_stProp h8 h2 hh2) ?_
  rintro r w' H' ⟨rfl, rfl, rfl⟩
  exact J.reti rfl rfl rfl ⟨_, rfl, rfl, rfl, rfl⟩
theorem c_isGood {P q q' q2 s : Nat} {x : Int} (h1 : w.1 6 P) (hl : H.2.2.2.2 6 1 P = q) (h0 : 0 < q) (hb : w.1 0 q) (hb' : w.1 0 q') (hs : H.2.1 0 6 q' = some s) (hp : H.2.1 0 2 q' = some q2) (hb2 : w.1 0 q2) (hn : H.1 0 0 q = x) (hn2 : H.1 0 0 q2 = x) (hx : 0 ≤ x ∧ x ≤ 1000) : J b d 36 w (0, jargs 0 [.inr (some (6, P)), .inr (some (0, q'))], [], H) (jN fun r w' H' => r = some (.inl 1) ∧ w' = w ∧ H' = H) := by
  subst hl
  refine J.run0 2 rfl ?_
  try dsimp only
  refine J.run 2 rfl hb' ?_
  try dsimp only
  try dsimp only
  rw [hs]
  refine J.run0 1 rfl ?_
  try dsimp only
  refine J.run 2 rfl hb' ?_
  try dsimp only
  try dsimp only
  rw [hp]
  refine J.run0 1 rfl ?_
  try dsimp only
  refine J.run 2 rfl hb' ?_
  try dsimp only
  try dsimp only
  rw [hp]
  refine J.run 4 rfl ⟨hb2, ⟨h1, h0⟩, hb⟩ ?_
  try dsimp only
  try dsimp only
  rw [hn, hn2]
  refine J.icmp rfl rfl rfl ⟨⟨by omega, by omega⟩, by omega, by omega⟩ (fun hc => absurd rfl hc) (fun _ => ?_)
  refine J.run0 2 rfl ?_
  try dsimp only
  exact J.retb rfl rfl rfl (by decide) ⟨_, rfl, rfl, rfl, rfl⟩
theorem c_hasHeard {P m i : Nat} (h1 : w.1 6 P) (hr : w.1 26 P) (h5 : w.1 5 m) (hn : H.1 5 0 m = (i : Int)) (hi : i < 6000) : J b d 40 w (0, jargs 0 [.inr (some (6, P)), .inr (some (5, m))], [], H) (jN fun r w' H' => r = some (.inl (if mb (H.2.2.1 26 P ((i / 32 : Nat) : Int)) (i % 32) = true then 1 else 0)) ∧ w' = w ∧ H' = H) := by
  have ix := jidx hi
  have i1 : 0 ≤ jushr (H.1 5 0 m) 5 := by rw [hn, ix.1]; omega
  have i2 : jushr (H.1 5 0 m) 5 < 188 := by rw [hn, ix.1]; omega
  refine J.run 15 rfl ⟨⟨h1, hr⟩, h5, ⟨hr, i1, i2⟩, h5⟩ ?_
  try dsimp only
  try dsimp only
  rw [hn, ix.1, ix.2, mb_ushr _ (show i % 32 < 32 by omega)]
  by_cases hm : mb (H.2.2.1 26 P ((i / 32 : Nat) : Int)) (i % 32) = true
  · rw [if_pos hm]
    refine J.icmp rfl rfl rfl ⟨⟨by decide, by decide⟩, by decide, by decide⟩ (fun hc => absurd rfl hc) (fun _ => ?_)
    refine J.run0 2 rfl ?_
    try dsimp only
    exact J.retb rfl rfl rfl (by decide) ⟨_, rfl, rfl, rfl, rfl⟩
  · rw [if_neg hm]
    refine J.icmp rfl rfl rfl ⟨⟨by decide, by decide⟩, by decide, by decide⟩ (fun _ => ?_) (fun hc => absurd (show ¬ (0 : Int) = 1 by decide) hc)
    refine J.run0 1 rfl ?_
    try dsimp only
    exact J.retb rfl rfl rfl (by decide) ⟨_, rfl, rfl, rfl, rfl⟩
theorem c_heardAsFirst {P m i : Nat} (h1 : w.1 6 P) (hr : w.1 27 P) (h5 : w.1 5 m) (hn : H.1 5 0 m = (i : Int)) (hi : i < 6000) : J b d 41 w (0, jargs 0 [.inr (some (6, P)), .inr (some (5, m))], [], H) (jN fun r w' H' => r = some (.inl (if mb (H.2.2.1 27 P ((i / 32 : Nat) : Int)) (i % 32) = true then 1 else 0)) ∧ w' = w ∧ H' = H) := by
  have ix := jidx hi
  have i1 : 0 ≤ jushr (H.1 5 0 m) 5 := by rw [hn, ix.1]; omega
  have i2 : jushr (H.1 5 0 m) 5 < 188 := by rw [hn, ix.1]; omega
  refine J.run 15 rfl ⟨⟨h1, hr⟩, h5, ⟨hr, i1, i2⟩, h5⟩ ?_
  try dsimp only
  try dsimp only
  rw [hn, ix.1, ix.2, mb_ushr _ (show i % 32 < 32 by omega)]
  by_cases hm : mb (H.2.2.1 27 P ((i / 32 : Nat) : Int)) (i % 32) = true
  · rw [if_pos hm]
    refine J.icmp rfl rfl rfl ⟨⟨by decide, by decide⟩, by decide, by decide⟩ (fun hc => absurd rfl hc) (fun _ => ?_)
    refine J.run0 2 rfl ?_
    try dsimp only
    exact J.retb rfl rfl rfl (by decide) ⟨_, rfl, rfl, rfl, rfl⟩
  · rw [if_neg hm]
    refine J.icmp rfl rfl rfl ⟨⟨by decide, by decide⟩, by decide, by decide⟩ (fun _ => ?_) (fun hc => absurd (show ¬ (0 : Int) = 1 by decide) hc)
    refine J.run0 1 rfl ?_
    try dsimp only
    exact J.retb rfl rfl rfl (by decide) ⟨_, rfl, rfl, rfl, rfl⟩
theorem c_postFull {p M : Nat} (h7 : w.1 7 p) (hs : H.1 7 4 p = (M : Int)) (hM : M ≤ 6000) : J b d 46 w (0, jargs 0 [.inr (some (7, p))], [], H) (jN fun r w' H' => r = some (.inl (if M = 6000 then 1 else 0)) ∧ w' = w ∧ H' = H) := by
  refine J.run 3 rfl h7 ?_
  try dsimp only
  try dsimp only
  rw [hs]
  refine J.icmp rfl rfl rfl ⟨⟨by omega, by omega⟩, by decide, by decide⟩ (fun hc => ?_) (fun hc => ?_)
  · have hc' : (M : Int) < 6000 := hc
    refine J.run0 1 rfl ?_
    try dsimp only
    refine J.retb rfl rfl rfl (by decide) ⟨_, rfl, ?_, rfl, rfl⟩
    rw [if_neg (by omega)]
  · have hc' : ¬ (M : Int) < 6000 := hc
    refine J.run0 2 rfl ?_
    try dsimp only
    refine J.retb rfl rfl rfl (by decide) ⟨_, rfl, ?_, rfl, rfl⟩
    rw [if_pos (by omega)]
theorem c_postGet {p M i m : Nat} (h7 : w.1 7 p) (hr : w.1 28 p) (hs : H.1 7 4 p = (M : Int)) (hM : M ≤ 6000) (hi : i < M) (ha : H.2.2.2.1 28 p (i : Int) = some m) : J b d 47 w (0, jargs 0 [.inr (some (7, p)), .inl (i : Int)], [], H) (jN fun r w' H' => r = some (.inr (some (5, m))) ∧ w' = w ∧ H' = H) := by
  refine J.run0 1 rfl ?_
  try dsimp only
  refine J.ifc rfl rfl rfl ⟨by omega, by omega⟩ (fun hc => absurd (show (i : Int) < 0 from hc) (by omega)) (fun _ => ?_)
  refine J.run 3 rfl h7 ?_
  try dsimp only
  try dsimp only
  rw [hs]
  refine J.icmp rfl rfl rfl ⟨⟨by omega, by omega⟩, by omega, by omega⟩ (fun _ => ?_) (fun hc => absurd (show (i : Int) < M by omega) hc)
  refine J.run 4 rfl ⟨⟨h7, hr⟩, hr, show (0 : Int) ≤ i by omega, show (i : Int) < 6000 by omega⟩ ?_
  try dsimp only
  try dsimp only
  rw [ha]
  exact J.reta rfl rfl rfl ⟨_, rfl, rfl, rfl, rfl⟩
theorem c_firstOf {p h : Nat} (h7 : w.1 7 p) (hr : w.1 29 p) (hh : h ≤ 120) : J b d 48 w (0, jargs 0 [.inr (some (7, p)), .inl (h : Int), .inl 0], [], H) (jN fun r w' H' => r = some (.inr ((H.2.2.2.1 29 p ((h : Int) * 32 + 0)).map fun q => (5, q))) ∧ w' = w ∧ H' = H) := by
  refine J.run0 1 rfl ?_
  try dsimp only
  refine J.ifc rfl rfl rfl ⟨by omega, by omega⟩ (fun hc => absurd (show (h : Int) < 0 from hc) (by omega)) (fun _ => ?_)
  refine J.run0 2 rfl ?_
  try dsimp only
  refine J.icmp rfl rfl rfl ⟨⟨by omega, by omega⟩, by decide, by decide⟩ (fun hc => absurd (show (120 : Int) < h from hc) (by omega)) (fun _ => ?_)
  refine J.run0 1 rfl ?_
  try dsimp only
  refine J.ifc rfl rfl rfl ⟨by decide, by decide⟩ (fun hc => absurd (show (0 : Int) < 0 from hc) (by decide)) (fun _ => ?_)
  refine J.run0 2 rfl ?_
  try dsimp only
  refine J.icmp rfl rfl rfl ⟨⟨by decide, by decide⟩, by decide, by decide⟩ (fun _ => ?_) (fun hc => absurd (show (0 : Int) < 32 by decide) hc)
  refine J.run 8 rfl ⟨⟨h7, hr⟩, hr, show (0 : Int) ≤ (h : Int) * 32 + 0 by omega, show (h : Int) * 32 + 0 < 3872 by omega⟩ ?_
  try dsimp only
  exact J.reta rfl rfl rfl ⟨_, rfl, rfl, rfl, rfl⟩
theorem c_roundsOf {p h : Nat} (h7 : w.1 7 p) (hr : w.1 31 p) (hh : h ≤ 120) : J b d 49 w (0, jargs 0 [.inr (some (7, p)), .inl (h : Int)], [], H) (jN fun r w' H' => r = some (.inl (H.2.2.1 31 p (h : Int))) ∧ w' = w ∧ H' = H) := by
  refine J.run0 1 rfl ?_
  try dsimp only
  refine J.ifc rfl rfl rfl ⟨by omega, by omega⟩ (fun hc => absurd (show (h : Int) < 0 from hc) (by omega)) (fun _ => ?_)
  refine J.run0 2 rfl ?_
  try dsimp only
  refine J.icmp rfl rfl rfl ⟨⟨by omega, by omega⟩, by decide, by decide⟩ (fun _ => ?_) (fun hc => absurd (show (h : Int) ≤ 120 by omega) hc)
  refine J.run 4 rfl ⟨⟨h7, hr⟩, hr, show (0 : Int) ≤ (h : Int) by omega, show (h : Int) < 121 by omega⟩ ?_
  try dsimp only
  exact J.reti rfl rfl rfl ⟨_, rfl, rfl, rfl, rfl⟩
theorem c_ledFull {p B : Nat} (h3 : w.1 3 p) (hs : H.1 3 1 p = (B : Int)) (hB : B ≤ 300) : J b d 12 w (0, jargs 0 [.inr (some (3, p))], [], H) (jN fun r w' H' => r = some (.inl (if B = 300 then 1 else 0)) ∧ w' = w ∧ H' = H) := by
  refine J.run 3 rfl h3 ?_
  try dsimp only
  try dsimp only
  rw [hs]
  refine J.icmp rfl rfl rfl ⟨⟨by omega, by omega⟩, by decide, by decide⟩ (fun hc => ?_) (fun hc => ?_)
  · have hc' : (B : Int) < 300 := hc
    refine J.run0 1 rfl ?_
    try dsimp only
    refine J.retb rfl rfl rfl (by decide) ⟨_, rfl, ?_, rfl, rfl⟩
    rw [if_neg (by omega)]
  · have hc' : ¬ (B : Int) < 300 := hc
    refine J.run0 2 rfl ?_
    try dsimp only
    refine J.retb rfl rfl rfl (by decide) ⟨_, rfl, ?_, rfl, rfl⟩
    rw [if_pos (by omega)]
theorem c_ledGet {p B i m : Nat} (h3 : w.1 3 p) (hr : w.1 21 p) (hs : H.1 3 1 p = (B : Int)) (hB : B ≤ 300) (hi : i < B) (ha : H.2.2.2.1 21 p (i : Int) = some m) : J b d 13 w (0, jargs 0 [.inr (some (3, p)), .inl (i : Int)], [], H) (jN fun r w' H' => r = some (.inr (some (0, m))) ∧ w' = w ∧ H' = H) := by
  refine J.run0 1 rfl ?_
  try dsimp only
  refine J.ifc rfl rfl rfl ⟨by omega, by omega⟩ (fun hc => absurd (show (i : Int) < 0 from hc) (by omega)) (fun _ => ?_)
  refine J.run 3 rfl h3 ?_
  try dsimp only
  try dsimp only
  rw [hs]
  refine J.icmp rfl rfl rfl ⟨⟨by omega, by omega⟩, by omega, by omega⟩ (fun _ => ?_) (fun hc => absurd (show (i : Int) < B by omega) hc)
  refine J.run 4 rfl ⟨⟨h3, hr⟩, hr, show (0 : Int) ≤ i by omega, show (i : Int) < 300 by omega⟩ ?_
  try dsimp only
  try dsimp only
  rw [ha]
  exact J.reta rfl rfl rfl ⟨_, rfl, rfl, rfl, rfl⟩
end CL
