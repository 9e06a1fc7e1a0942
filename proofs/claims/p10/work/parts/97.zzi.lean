/-! the class: where something new is made -/
section CM
variable {F : cG} {T : cP} {d : Nat} {w : jW} {H : jH} {Post : jO → jW → jH → Prop}
theorem cnew {c : Nat} {s b t : Int} (hI : cI F s b t T w H) (hwc : jwc w) : ¬ T c w.2.1 := fun z => Nat.lt_irrefl _ (hwc.2 _ _ (hI.is z)).1
theorem cEx.oi5 {A : Nat → Nat → Nat → Int} {O : Nat → Nat → Nat → Option Nat} {R : Nat → Nat → Int → Int} {B : Nat → Nat → Int → Option Nat} {W : Nat → Nat → Nat → Nat} {ks : List Nat} {c j p : Nat} {x : Int} (h : cEx T ks (A, O, R, B, W) H) (hn : ¬ T c p) : cEx T ks (jupF A c j p x, O, R, B, W) H := cEx.oi h hn
theorem cEx.or5 {A : Nat → Nat → Nat → Int} {O : Nat → Nat → Nat → Option Nat} {R : Nat → Nat → Int → Int} {B : Nat → Nat → Int → Option Nat} {W : Nat → Nat → Nat → Nat} {ks : List Nat} {c j p : Nat} {x : Option Nat} (h : cEx T ks (A, O, R, B, W) H) (hn : ¬ T c p) : cEx T ks (A, jupF O c j p x, R, B, W) H := cEx.or h hn
theorem cEx.oo5 {A : Nat → Nat → Nat → Int} {O : Nat → Nat → Nat → Option Nat} {R : Nat → Nat → Int → Int} {B : Nat → Nat → Int → Option Nat} {W : Nat → Nat → Nat → Nat} {ks : List Nat} {c j p : Nat} {x : Nat} (h : cEx T ks (A, O, R, B, W) H) (hn : ¬ T c p) : cEx T ks (A, O, R, B, jupF W c j p x) H := cEx.oo h hn
theorem cEx.wi5 {A : Nat → Nat → Nat → Int} {O : Nat → Nat → Nat → Option Nat} {R : Nat → Nat → Int → Int} {B : Nat → Nat → Int → Option Nat} {W : Nat → Nat → Nat → Nat} {ks : List Nat} {c j p : Nat} {x : Int} (h : cEx T ks (A, O, R, B, W) H) (hk : 100 * c + j ∈ ks) : cEx T ks (jupF A c j p x, O, R, B, W) H := cEx.wi h hk
theorem cEx.wB5 {A : Nat → Nat → Nat → Int} {O : Nat → Nat → Nat → Option Nat} {R : Nat → Nat → Int → Int} {B : Nat → Nat → Int → Option Nat} {W : Nat → Nat → Nat → Nat} {ks : List Nat} {c p : Nat} {g : Int → Option Nat} (h : cEx T ks (A, O, R, B, W) H) (hk : 40000 + c ∈ ks) : cEx T ks (A, O, R, jsetR B c p g, W) H := cEx.wB h hk
theorem i_entry {p P : Nat} {kd bl bf : Int} (h2 : w.1 2 p) (h6 : w.1 6 P) (hn : ¬ T 2 p) : J false d 9 w (0, jargs 0 [.inr (some (2, p)), .inr (some (6, P)), .inl kd, .inl bl, .inl bf], [], H) (jN fun r w' H' => r = none ∧ w' = w ∧ cEx T [] H' H ∧ H'.2 = H.2 ∧ H'.1 2 3 p = H.1 6 2 P ∧ H'.1 2 1 p = bl ∧ H'.1 2 2 p = bf ∧ H'.1 2 7 p = H.1 6 6 P ∧ H'.1 2 8 p = H.1 6 7 P) := by
  refine J.run0 1 rfl ?_
  try dsimp only
  refine J.obj rfl rfl rfl rfl ?_
  refine J.run 33 rfl ⟨h2, h2, h2, h6, h2, h6, h2, h6, h2, h6, h2, h6, h2, h6, h2⟩ ?_
  try dsimp only
  refine J.gn fun H1 hH1 => ?_
  have q0 : cEx T [] H1 H := by
    rw [hH1]
    iterate 9 refine cEx.oi5 ?_ hn
    exact cEx.refl
  have q8 : H1.2 = H.2 := by rw [hH1]
  have q4 : H1.1 2 3 p = H.1 6 2 P := by rw [hH1]; exact if_pos rfl
  have q1 : H1.1 2 1 p = bl := by rw [hH1]; exact if_pos rfl
  have q2 : H1.1 2 2 p = bf := by rw [hH1]; exact if_pos rfl
  have q5 : H1.1 2 7 p = H.1 6 6 P := by rw [hH1]; exact if_pos rfl
  have q6 : H1.1 2 8 p = H.1 6 7 P := by rw [hH1]; exact if_pos rfl
  exact J.retv rfl rfl rfl ⟨_, rfl, rfl, rfl, q0, q8, q4, q1, q2, q5, q6⟩
theorem i_trans {p : Nat} {x1 x2 x3 x4 x5 x6 : Int} (h9 : w.1 9 p) (hn : ¬ T 9 p) : J false d 69 w (0, jargs 0 [.inr (some (9, p)), .inl x1, .inl x2, .inl x3, .inl x4, .inl x5, .inl x6], [], H) (jN fun r w' H' => r = none ∧ w' = w ∧ cEx T [] H' H ∧ H'.1 9 0 p = x1 ∧ H'.1 9 1 p = x2 ∧ H'.1 9 2 p = x3 ∧ H'.1 9 4 p = x5) := by
  refine J.run0 1 rfl ?_
  try dsimp only
  refine J.obj rfl rfl rfl rfl ?_
  refine J.run 18 rfl ⟨h9, h9, h9, h9, h9, h9⟩ ?_
  try dsimp only
  refine J.gn fun H1 hH1 => ?_
  have q0 : cEx T [] H1 H := by
    rw [hH1]
    iterate 6 refine cEx.oi5 ?_ hn
    exact cEx.refl
  have q1 : H1.1 9 0 p = x1 := by rw [hH1]; exact if_pos rfl
  have q2 : H1.1 9 1 p = x2 := by rw [hH1]; exact if_pos rfl
  have q3 : H1.1 9 2 p = x3 := by rw [hH1]; exact if_pos rfl
  have q4 : H1.1 9 4 p = x5 := by rw [hH1]; exact if_pos rfl
  exact J.retv rfl rfl rfl ⟨_, rfl, rfl, rfl, q0, q1, q2, q3, q4⟩
theorem i_msg {p : Nat} {x0 x1 x2 x3 x4 x5 x6 : Int} (h5 : w.1 5 p) (hn : ¬ T 5 p) : J false d 28 w (0, jargs 0 [.inr (some (5, p)), .inl x0, .inl x1, .inl x2, .inl x3, .inl x4, .inl x5, .inl x6], [], H) (jN fun r w' H' => r = none ∧ w' = w ∧ cEx T [] H' H ∧ H'.2 = H.2 ∧ H'.1 5 0 p = x0 ∧ H'.1 5 2 p = x2 ∧ H'.1 5 3 p = x3 ∧ H'.1 5 4 p = x4 ∧ H'.1 5 5 p = x5 ∧ H'.1 5 6 p = x6) := by
  refine J.run0 1 rfl ?_
  try dsimp only
  refine J.obj rfl rfl rfl rfl ?_
  refine J.run 21 rfl ⟨h5, h5, h5, h5, h5, h5, h5⟩ ?_
  try dsimp only
  refine J.gn fun H1 hH1 => ?_
  have q0 : cEx T [] H1 H := by
    rw [hH1]
    iterate 7 refine cEx.oi5 ?_ hn
    exact cEx.refl
  have q8 : H1.2 = H.2 := by rw [hH1]
  have q1 : H1.1 5 0 p = x0 := by rw [hH1]; exact if_pos rfl
  have q2 : H1.1 5 2 p = x2 := by rw [hH1]; exact if_pos rfl
  have q3 : H1.1 5 3 p = x3 := by rw [hH1]; exact if_pos rfl
  have q4 : H1.1 5 4 p = x4 := by rw [hH1]; exact if_pos rfl
  have q5 : H1.1 5 5 p = x5 := by rw [hH1]; exact if_pos rfl
  have q6 : H1.1 5 6 p = x6 := by rw [hH1]; exact if_pos rfl
  exact J.retv rfl rfl rfl ⟨_, rfl, rfl, rfl, q0, q8, q1, q2, q3, q4, q5, q6⟩
/-- send: the RECORD -/
theorem s_entry {x : Nat} {kd bl bf : Int} (hI : cJ F T w H) (hx : T 6 x) (hbl : -2147483648 ≤ bl ∧ bl ≤ 2147483647) (hbf : -2147483648 ≤ bf ∧ bf ≤ 2147483647) (hc : ∀ w1 H1 q, cJ F (tA T 2 q) w1 H1 → cEx T [] H1 H → w1.2.1 = w.2.1 + 1 → w1.2.2 = w.2.2 + 10 → J false (d + 1) 97 w1 (23, jargs 0 [.inr (some (10, F.1)), .inr (some (6, x)), .inl kd, .inl bl, .inl bf], [.inr (some (2, q))], H1) Post) : J false (d + 1) 97 w (11, jargs 0 [.inr (some (10, F.1)), .inr (some (6, x)), .inl kd, .inl bl, .inl bf], [], H) Post := by
  refine J.nw rfl rfl rfl rfl rfl rfl rfl (jstP.of rfl) fun H1 hN1 hwc => ?_
  have hn : ¬ T 2 w.2.1 := cnew hI hwc
  refine J.run0 5 rfl ?_
  try dsimp only
  refine J.ini rfl rfl rfl (by decide) rfl rfl rfl rfl rfl (jstP.of rfl) (i_entry (T := T) (Or.inr ⟨rfl, rfl⟩) (Or.inl (hI.is hx)) hn) ?_
  rintro r w2 H2 ⟨rfl, rfl, e2, a2, r2, b1, b2, b7, b8⟩
  have e : cEx T [] H2 H := cEx.trans e2 (cEx.nw cEx.refl hN1 hn) (fun _ _ z => z) rfl
  have i0 : cJ F T (jwA w 2 w.2.1 (jfn 2)) H2 := cJ.same hI e (fun _ _ z => Or.inl z)
  have h62 : H1.1 6 2 x = H.1 6 2 x := (hN1.1 6 2 x fun z => absurd z.1 (by decide)).1
  have h66 : H1.1 6 6 x = H.1 6 6 x := (hN1.1 6 6 x fun z => absurd z.1 (by decide)).1
  have h67 : H1.1 6 7 x = H.1 6 7 x := (hN1.1 6 7 x fun z => absurd z.1 (by decide)).1
  have h29 : H2.2.1 2 9 w.2.1 = none := by rw [a2]; exact (hN1.2.1 9).2.1
  have i1 : cJ F (tA T 2 w.2.1) (jwA w 2 w.2.1 (jfn 2)) H2 := cI.ent i0 (Or.inr ⟨rfl, rfl⟩) hwc.1 (by rw [r2, h62]; exact hI.v 6 2 x hx) (by rw [b1]; exact hbl) (by rw [b2]; exact hbf) (by rw [b7, h66]; exact hI.v 6 6 x hx) (by rw [b8, h67]; exact hI.v 6 7 x hx) (fun q z => by rw [h29] at z; cases z)
  exact hc _ _ _ i1 e rfl rfl
/-- a MESSAGE is sent -/
theorem s_msg {kd nd ht rd bl bf : Int} (hI : cJ F T w H) (h1 : H.1 7 4 F.2.2.1 < 6000) (h2 : 0 ≤ nd ∧ nd ≤ 15) (h3 : 0 ≤ ht ∧ ht ≤ 120) (h4 : 0 ≤ rd ∧ rd ≤ 31) (hbl : -2147483648 ≤ bl ∧ bl ≤ 2147483647) (hbf : -2147483648 ≤ bf ∧ bf ≤ 2147483647)
    (hc : ∀ w1 H1 q, cJ F (tA T 5 q) w1 H1 → cEx T [704, 40028] H1 H → w1.2.1 = w.2.1 + 1 → w1.2.2 = w.2.2 + 8 → H1.1 7 4 F.2.2.1 = H.1 7 4 F.2.2.1 + 1 → H1.1 5 0 q = H.1 7 4 F.2.2.1 → H1.2.2.2.1 30 = H.2.2.2.1 30 → J false (d + 1) 50 w1 (77, (7, .inr (some (5, q))) :: jargs 0 [.inr (some (7, F.2.2.1)), .inl kd, .inl nd, .inl ht, .inl rd, .inl bl, .inl bf], [], H1) Post) :
    J false (d + 1) 50 w (34, jargs 0 [.inr (some (7, F.2.2.1)), .inl kd, .inl nd, .inl ht, .inl rd, .inl bl, .inl bf], [], H) Post := by
  refine J.nw rfl rfl rfl rfl rfl rfl rfl (jstP.of rfl) fun H1 hN1 hwc => ?_
  have hn : ¬ T 5 w.2.1 := cnew hI hwc
  have t7 := hI.top.2.2.1
  have w7 : (jwA w 5 w.2.1 (jfn 5)).1 7 F.2.2.1 := Or.inl (hI.is t7)
  have t28 : T 28 F.2.2.1 := hI.r 7 0 28 _ rfl t7
  have w28 : (jwA w 5 w.2.1 (jfn 5)).1 28 F.2.2.1 := Or.inl (hI.is t28)
  refine J.run 9 rfl w7 ?_
  try dsimp only
  refine J.ini rfl rfl rfl (by decide) rfl rfl rfl rfl rfl (jstP.of rfl) (i_msg (T := T) (Or.inr ⟨rfl, rfl⟩) hn) ?_
  rintro r w2 H2 ⟨rfl, rfl, e2, a2, n0, n2, n3, n4, n5, n6⟩
  have hs : 0 ≤ H.1 7 4 F.2.2.1 ∧ H.1 7 4 F.2.2.1 ≤ 6000 := hI.v 7 4 _ t7
  have e : cEx T [] H2 H := cEx.trans e2 (cEx.nw cEx.refl hN1 hn) (fun _ _ z => z) rfl
  have nn : ∀ i : Nat, i ∉ ([] : List Nat) := fun i z => nomatch z
  have z1 : H1.1 7 4 F.2.2.1 = H.1 7 4 F.2.2.1 := (hN1.1 7 4 _ fun z => absurd z.1 (by decide)).1
  have z2 : H2.1 7 4 F.2.2.1 = H.1 7 4 F.2.2.1 := (e.1 7 4 _ t7).1 (nn _)
  have i0 : cJ F T (jwA w 5 w.2.1 (jfn 5)) H2 := cJ.same hI e (fun _ _ z => Or.inl z)
  have i1 := cI.msg i0 hn (Or.inr ⟨rfl, rfl⟩) hwc.1 (by rw [n0, z1, z2]) (by rw [z2]; omega) (by rw [n2]; exact h2) (by rw [n3]; exact h3) (by rw [n4]; exact h4) (by rw [n5]; exact hbl) (by rw [n6]; exact hbf) (by rw [a2]; exact (hN1.2.1 7).2.1)
  refine J.run 13 rfl ⟨⟨w7, w28⟩, w7, (show (jwA w 5 w.2.1 (jfn 5)).1 28 F.2.2.1 ∧ (jwA w 5 w.2.1 (jfn 5)).1 5 w.2.1 ∧ 0 ≤ H2.1 7 4 F.2.2.1 ∧ H2.1 7 4 F.2.2.1 < 6000 from ⟨w28, Or.inr ⟨rfl, rfl⟩, by omega, by omega⟩), w7, w7⟩ ?_
  try dsimp only
  refine J.gn fun H3 hH3 => ?_
  have i2 : cI F (H2.1 7 4 F.2.2.1 + 1) (H2.1 3 1 F.2.1) (H2.1 3 3 F.2.1) (tA T 5 w.2.1) (jwA w 5 w.2.1 (jfn 5)) H3 := by
    have j1 := cI.wB (k := 28) (p := F.2.2.1) (i := H2.1 7 4 F.2.2.1) (x := some w.2.1) i1 rfl (Or.inl t28) (fun q z => by cases z; exact tA.new) (Or.inr fun z => nomatch z)
    have j2 := cI.wi (c := 7) (j := 4) (p := F.2.2.1) (x := H2.1 7 4 F.2.2.1 + 1) j1 (show 0 ≤ H2.1 7 4 F.2.2.1 + 1 ∧ H2.1 7 4 F.2.2.1 + 1 ≤ 6000 by omega) rfl
    rw [hH3]
    exact j2
  have g1 : H3.1 7 4 F.2.2.1 = H2.1 7 4 F.2.2.1 + 1 := by rw [hH3]; exact if_pos rfl
  have g2 : H3.1 3 1 F.2.1 = H2.1 3 1 F.2.1 := by rw [hH3]; rfl
  have g3 : H3.1 3 3 F.2.1 = H2.1 3 3 F.2.1 := by rw [hH3]; rfl
  have g4 : H3.1 5 0 w.2.1 = H2.1 5 0 w.2.1 := by rw [hH3]; rfl
  have g5 : H3.2.2.2.1 30 = H2.2.2.2.1 30 := by rw [hH3]; rfl
  have e3 : cEx T [704, 40028] H3 H2 := by
    rw [hH3]
    exact cEx.wi5 (cEx.wB5 cEx.refl (by decide)) (by decide)
  have i3 : cJ F (tA T 5 w.2.1) (jwA w 5 w.2.1 (jfn 5)) H3 := by
    show cI F (H3.1 7 4 F.2.2.1) (H3.1 3 1 F.2.1) (H3.1 3 3 F.2.1) _ _ H3
    rw [g1, g2, g3]; exact i2
  refine hc _ _ _ i3 (cEx.trans e3 (cEx.trans e cEx.refl (fun _ _ z => z) rfl) (fun _ _ z => z) (by decide)) rfl rfl (by rw [g1, z2]) (by rw [g4, n0, z1]) ?_
  rw [g5, a2, hN1.2.2.2]
end CM
