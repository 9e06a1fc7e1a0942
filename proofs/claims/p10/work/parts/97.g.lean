/-! the class's calls on a new object: message, of, account, sum, block, forge -/
section SO
variable {b : Bool} {d : Nat} {w : jW} {H : jH} {F : cF} {je mp bp sp : Nat → Nat}
theorem c_ledGet0 {p B : Nat} {i : Int} (h3 : w.1 3 p) (hs : H.1 3 1 p = (B : Int)) (hB : B ≤ 300) (bi : jR i) (hi : ¬ (0 ≤ i ∧ i ≤ (B : Int) - 1)) : J b d 13 w (0, jargs 0 [.inr (some (3, p)), .inl i], [], H) (jN fun r w' H' => r = some (.inr none) ∧ w' = w ∧ H' = H) := by
  refine J.run0 1 rfl ?_
  try dsimp only
  refine J.ifc rfl rfl rfl bi (fun hc => ?_) (fun hc => ?_)
  · refine J.run0 2 rfl ?_
    try dsimp only
    exact J.reta rfl rfl rfl ⟨_, rfl, rfl, rfl, rfl⟩
  have hc' : ¬ i < 0 := hc
  refine J.run 3 rfl h3 ?_
  try dsimp only
  try dsimp only
  rw [hs]
  refine J.icmp rfl rfl rfl ⟨bi, by omega, by omega⟩ (fun hc2 => absurd (show i < (B : Int) from hc2) (by omega)) (fun _ => ?_)
  refine J.run0 2 rfl ?_
  try dsimp only
  exact J.reta rfl rfl rfl ⟨_, rfl, rfl, rfl, rfl⟩
/-- Ledger.get on a new object -/
theorem c_lg (hP : cPic F w (zc 16) H je mp bp sp) {i : Int} (bi : jR i) : J b d 13 w (0, jargs 0 [.inr (some (3, fL F)), .inl i], [], H) (jN fun r w' H' => r = some (.inr (if 0 ≤ i ∧ i ≤ 1 then some (0, bp i.toNat) else none)) ∧ w' = w ∧ H' = H) := by
  have hB := hP.2.2.1
  have es : H.1 3 1 (fL F) = ((2 : Nat) : Int) := by rw [hB.2.1.1, zB16]
  by_cases h : 0 ≤ i ∧ i ≤ 1
  · rw [if_pos h]
    obtain ⟨m, rfl⟩ : ∃ m : Nat, i = (m : Int) := ⟨i.toNat, by omega⟩
    have hm : m < 2 := by omega
    exact c_ledGet hB.1.1 hB.1.2.1 es (by decide) hm (hP.b16 hm).1
  · rw [if_neg h]
    exact c_ledGet0 hB.1.1 es (by decide) bi (by omega)
/-- Post.get on a new object -/
theorem c_pg (hP : cPic F w (zc 16) H je mp bp sp) {i : Int} (bi : jR i) : J b d 47 w (0, jargs 0 [.inr (some (7, fP F)), .inl i], [], H) (jN fun r w' H' => r = some (.inr (if 0 ≤ i ∧ i ≤ 1 then some (5, mp i.toNat) else none)) ∧ w' = w ∧ H' = H) := by
  have hM := hP.2.1
  have es : H.1 7 4 (fP F) = ((2 : Nat) : Int) := by rw [hM.2.1, zM16]
  by_cases h : 0 ≤ i ∧ i ≤ 1
  · rw [if_pos h]
    obtain ⟨m, rfl⟩ : ∃ m : Nat, i = (m : Int) := ⟨i.toNat, by omega⟩
    have hm : m < 2 := by omega
    exact c_postGet hM.1.1 hM.1.2.1 es (by decide) hm (hM.2.2.1 m (by rw [zM16]; exact hm)).1.2.2
  · rw [if_neg h]
    exact c_postGet0 hM.1.1 es (by decide) bi (by omega)
theorem cPic.m16 (hP : cPic F w (zc 16) H je mp bp sp) {i : Nat} (hi : i < 2) : w.1 5 (mp i) ∧ H.1 5 0 (mp i) = (i : Int) ∧ H.1 5 1 (mp i) = (i : Int) ∧ H.1 5 2 (mp i) = 1 ∧ H.1 5 3 (mp i) = 1 ∧ H.1 5 4 (mp i) = 0 ∧ H.1 5 5 (mp i) = 1 ∧ H.1 5 6 (mp i) = -1 := by
  obtain ⟨⟨h1, -, -⟩, ⟨f1, f2, f3, f4, f5, f6, f7⟩, -⟩ := hP.2.1.2.2.1 i (by rw [zM16]; exact hi)
  have e : (zc 16).2.1 i = (i, 1, 1) := by
    have h9 : i = 0 ∨ i = 1 := by omega
    rcases h9 with rfl | rfl
    · exact zE_16.2.1
    · exact zE_16.2.2.1
  unfold zk at f2
  unfold zn at f3
  unfold zh at f4 f6
  rw [e] at f2 f3 f4 f6
  exact ⟨h1, f1, f2, f3, f4, f5, f6, f7⟩
def msgA (m what : Int) : Int := match what.toNat with
  | 0 => m
  | 1 => 1
  | 2 => 1
  | 3 => 0
  | 4 => 1
  | _ => -1
def msgK (m what : Int) : Int := if 0 ≤ m ∧ m ≤ 1 then (if 0 ≤ what ∧ what ≤ 5 then 0 else 2) else 1
theorem c_message_ {m what : Int} (hF : fRm F) (hP : cPic F w (zc 16) H je mp bp sp) (bm : jR m) (bx : jR what) : J b (d + 6) 82 w (0, jargs 0 [.inr (some (10, fX F)), .inl m, .inl what], [], H) (cOut H (msgK m what) (if 0 ≤ m ∧ m ≤ 1 then 12 else 14) (msgA m what)) := by
  have hw := hP.sm hF
  obtain ⟨⟨t1, t2, t3, t4, t5, t6, t7, t8⟩, -⟩ := hP.1
  unfold msgK
  by_cases h : 0 ≤ m ∧ m ≤ 1
  rotate_left
  · rw [if_neg h, if_neg h]
    refine J.run 3 rfl ⟨t1, by rw [t4]; exact t7⟩ ?_
    try dsimp only
    try dsimp only
    rw [t4]
    refine J.inv rfl rfl rfl rfl rfl rfl ((jD_w rfl).mpr hP.2.1.1.1) rfl rfl rfl rfl rfl (c_pg hP bm) ?_
    rintro r w H ⟨rfl, rfl, rfl⟩
    rw [if_neg h]
    refine J.run0 3 rfl ?_
    try dsimp only
    exact c_thr hw (by decide) rfl rfl rfl rfl
  rw [if_pos h, if_pos h]
  refine J.run 3 rfl ⟨t1, by rw [t4]; exact t7⟩ ?_
  try dsimp only
  try dsimp only
  rw [t4]
  refine J.inv rfl rfl rfl rfl rfl rfl ((jD_w rfl).mpr hP.2.1.1.1) rfl rfl rfl rfl rfl (c_pg hP bm) ?_
  rintro r w H ⟨rfl, rfl, rfl⟩
  rw [if_pos h]
  obtain ⟨i, rfl⟩ : ∃ i : Nat, m = (i : Int) := ⟨m.toNat, by omega⟩
  obtain ⟨h5, f1, f2, f3, f4, f5, f6, f7⟩ := hP.m16 (i := i) (by omega)
  refine J.run0 4 rfl ?_
  try dsimp only
  by_cases hx : 0 ≤ what ∧ what ≤ 5
  rotate_left
  · rw [if_neg hx]
    refine J.tsw rfl rfl rfl bx (if_pos (by omega)) ?_
    exact c_thr hw (by decide) rfl rfl rfl rfl
  rw [if_pos hx]
  have hwh : what = 0 ∨ what = 1 ∨ what = 2 ∨ what = 3 ∨ what = 4 ∨ what = 5 := by omega
  rcases hwh with rfl | rfl | rfl | rfl | rfl | rfl
  · refine J.tsw rfl rfl rfl bx rfl ?_
    refine J.run 2 rfl h5 ?_
    try dsimp only
    refine J.reti rfl rfl rfl ?_
    show cOut H 0 12 (msgA i 0) (.inl (some (.inl (H.1 5 1 (mp i))))) w H
    rw [f2]
    exact cOut.ok hw (jCl.refl _)
  · refine J.tsw rfl rfl rfl bx rfl ?_
    refine J.run 2 rfl h5 ?_
    try dsimp only
    refine J.reti rfl rfl rfl ?_
    show cOut H 0 12 (msgA i 1) (.inl (some (.inl (H.1 5 2 (mp i))))) w H
    rw [f3]
    exact cOut.ok hw (jCl.refl _)
  · refine J.tsw rfl rfl rfl bx rfl ?_
    refine J.run 2 rfl h5 ?_
    try dsimp only
    refine J.reti rfl rfl rfl ?_
    show cOut H 0 12 (msgA i 2) (.inl (some (.inl (H.1 5 3 (mp i))))) w H
    rw [f4]
    exact cOut.ok hw (jCl.refl _)
  · refine J.tsw rfl rfl rfl bx rfl ?_
    refine J.run 2 rfl h5 ?_
    try dsimp only
    refine J.reti rfl rfl rfl ?_
    show cOut H 0 12 (msgA i 3) (.inl (some (.inl (H.1 5 4 (mp i))))) w H
    rw [f5]
    exact cOut.ok hw (jCl.refl _)
  · refine J.tsw rfl rfl rfl bx rfl ?_
    refine J.run 2 rfl h5 ?_
    try dsimp only
    refine J.reti rfl rfl rfl ?_
    show cOut H 0 12 (msgA i 4) (.inl (some (.inl (H.1 5 5 (mp i))))) w H
    rw [f6]
    exact cOut.ok hw (jCl.refl _)
  · refine J.tsw rfl rfl rfl bx rfl ?_
    refine J.run 2 rfl h5 ?_
    try dsimp only
    refine J.reti rfl rfl rfl ?_
    show cOut H 0 12 (msgA i 5) (.inl (some (.inl (H.1 5 6 (mp i))))) w H
    rw [f7]
    exact cOut.ok hw (jCl.refl _)
def ofA (x what : Int) : Int := if what = 0 then x else if what = 1 then x - 1 else if what = 2 then (if x = 0 then -1 else 1) else if what = 3 then 1 else if what = 4 then 0 else if what ≤ 16 then -1 else 100
def ofK (x what : Int) : Int := if 0 ≤ x ∧ x ≤ 1 then (if 0 ≤ what ∧ what ≤ 32 then 0 else 2) else 1
set_option maxRecDepth 8000 in
theorem c_of {x what : Int} (hF : fRm F) (hP : cPic F w (zc 16) H je mp bp sp) (bm : jR x) (bx : jR what) : J b (d + 6) 83 w (0, jargs 0 [.inr (some (10, fX F)), .inl x, .inl what], [], H) (cOut H (ofK x what) (if 0 ≤ x ∧ x ≤ 1 then 12 else 14) (ofA x what)) := by
  have hw := hP.sm hF
  obtain ⟨⟨t1, t2, t3, t4, t5, t6, t7, t8⟩, -⟩ := hP.1
  unfold ofK
  by_cases h : 0 ≤ x ∧ x ≤ 1
  rotate_left
  · rw [if_neg h, if_neg h]
    refine J.run 3 rfl ⟨t1, by rw [t3]; exact t6⟩ ?_
    try dsimp only
    try dsimp only
    rw [t3]
    refine J.inv rfl rfl rfl rfl rfl rfl ((jD_w rfl).mpr hP.2.2.1.1.1) rfl rfl rfl rfl rfl (c_lg hP bm) ?_
    rintro r w H ⟨rfl, rfl, rfl⟩
    rw [if_neg h]
    refine J.run0 3 rfl ?_
    try dsimp only
    exact c_thr hw (by decide) rfl rfl rfl rfl
  rw [if_pos h, if_pos h]
  refine J.run 3 rfl ⟨t1, by rw [t3]; exact t6⟩ ?_
  try dsimp only
  try dsimp only
  rw [t3]
  refine J.inv rfl rfl rfl rfl rfl rfl ((jD_w rfl).mpr hP.2.2.1.1.1) rfl rfl rfl rfl rfl (c_lg hP bm) ?_
  rintro r w H ⟨rfl, rfl, rfl⟩
  rw [if_pos h]
  obtain ⟨i, rfl⟩ : ∃ i : Nat, x = (i : Int) := ⟨x.toNat, by omega⟩
  rw [Int.toNat_natCast]
  have hi : i < 2 := by omega
  have hG := (hP.b16 hi).2
  obtain ⟨⟨g1, g2, g3, g4, g5, g6⟩, ⟨g7, g8, g9⟩, ⟨g10, g11, g12⟩, g13, g14, g15, g16⟩ := hG
  refine J.run0 4 rfl ?_
  try dsimp only
  by_cases hx : 0 ≤ what ∧ what ≤ 32
  rotate_left
  · rw [if_neg hx]
    refine J.ifc rfl rfl rfl bx (fun _ => c_thr hw (by decide) rfl rfl rfl rfl) (fun hc => ?_)
    have hc' : ¬ what < 0 := hc
    refine J.run0 2 rfl ?_
    try dsimp only
    exact J.icmp rfl rfl rfl ⟨bx, by decide, by decide⟩ (fun hc2 => absurd (show what ≤ 32 from hc2) (by omega)) (fun _ => c_thr hw (by decide) rfl rfl rfl rfl)
  rw [if_pos hx]
  refine J.ifc rfl rfl rfl bx (fun hc => absurd (show what < 0 from hc) (by omega)) (fun _ => ?_)
  refine J.run0 2 rfl ?_
  try dsimp only
  refine J.icmp rfl rfl rfl ⟨bx, by decide, by decide⟩ (fun _ => ?_) (fun hc2 => absurd (show what ≤ 32 by omega) hc2)
  refine J.run0 1 rfl ?_
  try dsimp only
  by_cases h4 : what ≤ 4
  · have hwh : what = 0 ∨ what = 1 ∨ what = 2 ∨ what = 3 ∨ what = 4 := by omega
    rcases hwh with rfl | rfl | rfl | rfl | rfl
    · refine J.tsw rfl rfl rfl bx rfl ?_
      refine J.run 2 rfl g1 ?_
      try dsimp only
      refine J.reti rfl rfl rfl ?_
      show cOut H 0 12 (ofA i 0) (.inl (some (.inl (H.1 0 1 (bp i))))) w H
      rw [g4]
      exact cOut.ok hw (jCl.refl _)
    · refine J.tsw rfl rfl rfl bx rfl ?_
      refine J.run 2 rfl g1 ?_
      try dsimp only
      try dsimp only
      rw [g5]
      have h9 : i = 0 ∨ i = 1 := by omega
      rcases h9 with rfl | rfl
      · rw [if_pos rfl]
        refine J.run0 3 rfl ?_
        try dsimp only
        exact J.reti rfl rfl rfl (cOut.ok hw (jCl.refl _))
      · rw [if_neg (by decide)]
        refine J.run0 1 rfl ?_
        try dsimp only
        refine J.run 2 rfl g1 ?_
        try dsimp only
        try dsimp only
        rw [g5, if_neg (by decide)]
        have hG0 := (hP.b16 (i := 0) (by decide)).2
        refine J.run 1 rfl hG0.1.1 ?_
        try dsimp only
        refine J.reti rfl rfl rfl ?_
        show cOut H 0 12 (ofA ((1 : Nat) : Int) 1) (.inl (some (.inl (H.1 0 0 (bp (1 - 1)))))) w H
        rw [show H.1 0 0 (bp (1 - 1)) = ((0 : Nat) : Int) from hG0.1.2.2.1]
        exact cOut.ok hw (jCl.refl _)
    · refine J.tsw rfl rfl rfl bx rfl ?_
      refine J.run 2 rfl g1 ?_
      try dsimp only
      refine J.reti rfl rfl rfl ?_
      have e : H.1 0 3 (bp i) = ofA i 2 := by
        rw [g6]
        have h9 : i = 0 ∨ i = 1 := by omega
        rcases h9 with rfl | rfl
        · rfl
        · rfl
      try dsimp only
      rw [e]
      exact cOut.ok hw (jCl.refl _)
    · refine J.tsw rfl rfl rfl bx rfl ?_
      refine J.run 2 rfl g1 ?_
      try dsimp only
      try dsimp only
      rw [g13]
      refine J.run0 1 rfl ?_
      try dsimp only
      refine J.run0 1 rfl ?_
      try dsimp only
      exact J.reti rfl rfl rfl (cOut.ok hw (jCl.refl _))
    · refine J.tsw rfl rfl rfl bx rfl ?_
      refine J.run 2 rfl ⟨g1, g7⟩ ?_
      try dsimp only
      refine J.run 1 rfl ⟨g8, show 0 ≤ H.1 42 0 (H.2.2.2.2 0 4 (bp i)) ∧ H.1 42 0 (H.2.2.2.2 0 4 (bp i)) ≤ 2147483647 by rw [g9]; decide⟩ ?_
      try dsimp only
      refine J.reti rfl rfl rfl ?_
      show cOut H 0 12 (ofA i 4) (.inl (some (.inl (H.1 42 0 (H.2.2.2.2 0 4 (bp i)))))) w H
      rw [g9]
      exact cOut.ok hw (jCl.refl _)
  · refine J.tsw rfl rfl rfl bx (if_pos (by omega)) ?_
    refine J.run0 2 rfl ?_
    try dsimp only
    refine J.icmp rfl rfl rfl ⟨bx, by decide, by decide⟩ (fun hc => ?_) (fun hc => ?_)
    · have hc' : what ≤ 16 := hc
      refine J.run 5 rfl ⟨g1, g7⟩ ?_
      try dsimp only
      refine J.run 1 rfl ⟨g8, show 0 ≤ H.1 42 0 (H.2.2.2.2 0 4 (bp i)) ∧ H.1 42 0 (H.2.2.2.2 0 4 (bp i)) ≤ 2147483647 by rw [g9]; decide⟩ ?_
      try dsimp only
      refine J.icmp rfl rfl rfl ⟨⟨by omega, by omega⟩, show -2147483648 ≤ H.1 42 0 (H.2.2.2.2 0 4 (bp i)) by rw [g9]; decide, show H.1 42 0 (H.2.2.2.2 0 4 (bp i)) ≤ 2147483647 by rw [g9]; decide⟩ (fun _ => ?_) (fun hc2 => absurd (show H.1 42 0 (H.2.2.2.2 0 4 (bp i)) ≤ what - 5 by rw [g9]; omega) hc2)
      refine J.run0 1 rfl ?_
      try dsimp only
      refine J.reti rfl rfl rfl ?_
      have e : ofA i what = -1 := by
        unfold ofA
        rw [if_neg (by omega), if_neg (by omega), if_neg (by omega), if_neg (by omega), if_neg (by omega), if_pos hc']
      rw [e]
      exact cOut.ok hw (jCl.refl _)
    · have hc' : ¬ what ≤ 16 := hc
      refine J.run 2 rfl ⟨g1, g10⟩ ?_
      try dsimp only
      refine J.run 4 rfl ⟨g11, show 0 ≤ what - 17 by omega, show what - 17 < 16 by omega⟩ ?_
      try dsimp only
      refine J.reti rfl rfl rfl ?_
      have e : ofA i what = 100 := by
        unfold ofA
        rw [if_neg (by omega), if_neg (by omega), if_neg (by omega), if_neg (by omega), if_neg (by omega), if_neg hc']
      show cOut H 0 12 (ofA i what) (.inl (some (.inl (H.2.2.1 43 (H.2.2.2.2 0 5 (bp i)) (what - 17))))) w H
      rw [e, g12 (what - 17) (by omega) (by omega)]
      exact cOut.ok hw (jCl.refl _)
end SO
