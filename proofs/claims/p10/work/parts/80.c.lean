/-! a NODE at rest; a MESSAGE comes -/
section CR
variable {b : Bool} {d : Nat} {w : jW} {H : jH}
def zRest (z : zT) : Prop := ∀ m, m < 16 → 120 < nh z m ∨ zmove z m = none
theorem any_congr {p q : Nat → Bool} : ∀ {l : List Nat}, (∀ x ∈ l, p x = q x) → l.any p = l.any q
  | [], _ => rfl
  | a :: l, h => by
    rw [List.any_cons, List.any_cons, h a List.mem_cons_self, any_congr fun x hx => h x (List.mem_cons_of_mem _ hx)]
theorem zmove_none (z : zT) (n : Nat) : zmove z n = none ↔ ¬ (zprop z n = true ∧ 11 ≤ zcnt z n 2) ∧ ¬ (zprop z n = true ∧ ns z n = 0) ∧ ¬ rE z n := by
  unfold zmove
  by_cases h1 : zprop z n = true ∧ 11 ≤ zcnt z n 2
  · rw [if_pos h1]
    exact ⟨fun h => (by cases h), fun h => absurd h1 h.1⟩
  · rw [if_neg h1]
    by_cases h2 : zprop z n = true ∧ ns z n = 0
    · rw [if_pos h2]
      exact ⟨fun h => (by cases h), fun h => absurd h2 h.2.1⟩
    · rw [if_neg h2]
      by_cases h3 : rE z n
      · rw [if_pos h3]
        exact ⟨fun h => (by cases h), fun h => absurd h3 h.2.2⟩
      · rw [if_neg h3]
        exact ⟨fun _ => ⟨h1, h2, h3⟩, fun _ => rfl⟩
theorem zlook_congr {z z' : zT} {m m' : Nat} (e1 : nh z' m' = nh z m) (e2 : ns z' m' = ns z m) (e3 : ne z' m' = ne z m) (hp : zprop z' m' = zprop z m) (hs : ∀ kd k, zsaid z' m' kd k = zsaid z m kd k) : zmove z' m' = none ↔ zmove z m = none := by
  have hc : ∀ kd, zcnt z' m' kd = zcnt z m kd := fun kd => by
    unfold zcnt
    exact List.countP_congr fun k _ => by rw [hs]
  rw [zmove_none, zmove_none]
  unfold rE
  rw [hp, hc, hc, e2, e3]
theorem zlook_same {z z' : zT} {m : Nat} (hn : z'.2.2.2 m = z.2.2.2 m) (hm : ∀ i ∈ nK z m, z'.2.1 i = z.2.1 i) : zmove z' m = none ↔ zmove z m = none := by
  have eK : nK z' m = nK z m := by unfold nK; rw [hn]
  have eh : nh z' m = nh z m := by unfold nh; rw [hn]
  refine zlook_congr eh (by unfold ns; rw [hn]) (by unfold ne; rw [hn]) ?_ fun kd k => ?_
  · unfold zprop
    rw [eK, eh]
    refine any_congr fun x hx => ?_
    unfold zk zh
    rw [hm x hx]
  · unfold zsaid
    rw [eK, eh]
    refine any_congr fun x hx => ?_
    unfold zk zh zn
    rw [hm x hx]
theorem zbegin_msg (z : zT) (n i : Nat) (hi : i < zM z) : (zbegin z n).2.1 i = z.2.1 i := by
  unfold zbegin
  split
  · exact zsend_msg _ n 0 i hi
  · rfl
theorem zmove_msg {z z' : zT} {n i : Nat} (hm : zmove z n = some z') (hi : i < zM z) : z'.2.1 i = z.2.1 i := by
  unfold zmove at hm
  split at hm
  · cases hm
    exact zbegin_msg (zN z n (nh z n + 1, ns z n, ne z n, 0, nK z n)) n i hi
  · split at hm
    · cases hm
      exact zsend_msg (zst z n 1 (ne z n)) n 1 i hi
    · split at hm
      · cases hm
        split
        · exact zsend_msg (zst z n 2 1) n 2 i hi
        · rfl
      · cases hm
theorem zact_oth (n m : Nat) (h : m ≠ n) : ∀ (f : Nat) (z : zT), (zact f z n).2.2.2 m = z.2.2.2 m
  | 0, z => rfl
  | f + 1, z => by
    unfold zact
    split
    · split
      · rename_i z' hz
        rw [zact_oth n m h f z', zmove_oth hz h]
      · rfl
    · rfl
theorem zact_msg (n i : Nat) : ∀ (f : Nat) (z : zT), i < zM z → (zact f z n).2.1 i = z.2.1 i
  | 0, z, _ => rfl
  | f + 1, z, hi => by
    unfold zact
    split
    · split
      · rename_i z' hz
        rw [zact_msg n i f z' (Nat.lt_of_lt_of_le hi (zM_move hz)), zmove_msg hz hi]
      · rfl
    · rfl
theorem zact_rest {n : Nat} (hn : n < 16) : ∀ (f : Nat) (z : zT), zInv z → zmu z n < f → 120 < nh (zact f z n) n ∨ zmove (zact f z n) n = none
  | 0, z, _, h => by omega
  | f + 1, z, hz, h => by
    unfold zact
    split
    · split
      · rename_i z' hm
        exact zact_rest hn f z' (hz.move hn hm) (by have := zmu_move hz hn hm; omega)
      · rename_i hm
        exact Or.inr hm
    · rename_i hh
      exact Or.inl (by omega)
theorem zRest.came {z : zT} {i n : Nat} (h : zRest z) (hz : zInv z) (hn : n < 16) (hi : i < zM z) : zRest (zcame z i n) := by
  unfold zcame
  split
  · exact h
  · rename_i hk
    intro m hm
    by_cases hmn : m = n
    · subst hmn
      exact zact_rest hm 500 _ (hz.know hm hi hk) (by have := zmu_le (z := zknow z m i) m; omega)
    · have e1 : (zact 500 (zknow z n i) n).2.2.2 m = z.2.2.2 m := by
        rw [zact_oth n m hmn]
        exact zN_ne z _ hmn
      have e2 : nh (zact 500 (zknow z n i) n) m = nh z m := by unfold nh; rw [e1]
      rcases h m hm with h9 | h9
      · exact Or.inl (by rw [e2]; exact h9)
      · refine Or.inr ((zlook_same e1 fun j hj => ?_).mpr h9)
        exact zact_msg n j 500 (zknow z n i) ((hz.2.2.2.1 m hm).2.2.2.2.1 j hj)
theorem zRest.far {z : zT} {i n : Nat} (h : zRest z) (hn : n < 16) (hk : i ∉ nK z n) (hh : zh z i ≠ nh z n) : zcame z i n = zknow z n i := by
  unfold zcame
  rw [if_neg hk]
  unfold zact
  have hat : (zknow z n i).2.2.2 n = (nh z n, ns z n, ne z n, nr z n, nK z n ++ [i]) := zN_at z n _
  have eh : nh (zknow z n i) n = nh z n := by unfold nh; rw [hat]
  have eK : nK (zknow z n i) n = nK z n ++ [i] := by unfold nK; rw [hat]
  rw [eh]
  split
  · rename_i h120
    have hm : zmove (zknow z n i) n = none := by
      refine (zlook_congr eh (by unfold ns; rw [hat]) (by unfold ne; rw [hat]) ?_ fun kd k => ?_).mpr ?_
      · unfold zprop
        rw [eK, eh, List.any_append]
        have e : ([i].any fun j => zk (zknow z n i) j == 0 && zh (zknow z n i) j == nh z n) = false := by
          show ((zk z i == 0 && zh z i == nh z n) || false) = false
          simp [hh]
        rw [e, Bool.or_false]
        rfl
      · unfold zsaid
        rw [eK, eh, List.any_append]
        have e : ([i].any fun j => zk (zknow z n i) j == kd && zh (zknow z n i) j == nh z n && zn (zknow z n i) j == k) = false := by
          show ((zk z i == kd && zh z i == nh z n && zn z i == k) || false) = false
          simp [hh]
        rw [e, Bool.or_false]
        rfl
      · rcases h n hn with h9 | h9
        · omega
        · exact h9
    rw [hm]
  · rfl
theorem c_comesAnew {F : cF} {z : zT} {n i : Nat} {je mp bp sp : Nat → Nat} (hz : zInv z) (hP : cPic F w z H je mp bp sp) (hn : n < 16) (hi : i < zM z) : J b (d + 2) 88 w (0, jargs 0 [.inr (some (10, fX F)), .inr (some (5, mp i)), .inr (some (6, fN F n))], [], H) (jN fun r w' H' => w' = w ∧ ((i ∈ nK z n ∧ r = some (.inl 0) ∧ H' = H) ∨ (i ∉ nK z n ∧ r = some (.inl (if zh z i = nh z n then 1 else 0)) ∧ cPic F w (zknow z n i) H' je mp bp sp ∧ jCl H' H))) := by
  have hN := hP.2.2.2.1 n hn
  have hnd := hP.node hz hn
  have hM := hP.2.1
  have h4 := hz.2.2.2.1 n hn
  have hM6 := hz.1.1
  obtain ⟨⟨t1, t2, t3, t4, t5, t6, t7, t8⟩, tn, ti, to, -⟩ := hP.1
  obtain ⟨⟨m1, m2, m3⟩, ⟨g1, g2, g3, g4, g5, g6, g7⟩, -⟩ := hM.2.2.1 i hi
  have hzi := hz.2.1 i hi
  refine J.run0 2 rfl ?_
  try dsimp only
  refine J.run 2 rfl hN.1.1 ?_
  try dsimp only
  try dsimp only
  rw [hN.2.1.2.2.2.2.2.2.2.1]
  refine J.ifc rfl rfl rfl ⟨by decide, by decide⟩ (fun hc => absurd rfl hc) (fun _ => ?_)
  refine J.run0 2 rfl ?_
  try dsimp only
  refine J.inv rfl rfl rfl rfl rfl rfl ((jD_w rfl).mpr hN.1.1) rfl rfl rfl rfl rfl (c_hasHeard hN.1.1 hN.1.2.2.1 m1 g1 (by omega)) ?_
  rintro r w H ⟨rfl, rfl, rfl⟩
  rw [hN.2.2.2.2.2.1 i (by omega)]
  by_cases hk : i ∈ nK z n
  · rw [if_pos (decide_eq_true hk)]
    refine J.ifc rfl rfl rfl ⟨by decide, by decide⟩ (fun hc => absurd hc (show ¬ (1 : Int) = 0 by decide)) (fun _ => ?_)
    refine J.run0 1 rfl ?_
    try dsimp only
    exact J.retb rfl rfl rfl (by decide) ⟨_, rfl, rfl, Or.inl ⟨hk, rfl, rfl⟩⟩
  rw [if_neg (by simp only [decide_eq_true_eq]; exact hk)]
  refine J.ifc rfl rfl rfl ⟨by decide, by decide⟩ (fun _ => ?_) (fun hc => absurd rfl hc)
  refine J.run 8 rfl ⟨⟨t1, by rw [t4]; exact t7⟩, m1, m1⟩ ?_
  try dsimp only
  try dsimp only
  rw [t4, g4, g5]
  refine J.inv rfl rfl rfl rfl rfl rfl ((jD_w rfl).mpr hM.1.1) rfl rfl rfl rfl rfl (c_firstOf hM.1.1 hM.1.2.2.1 hzi.2.2.2.2.1) ?_
  rintro r w H ⟨rfl, rfl, rfl⟩
  rw [(hM.2.2.2.2 (zh z i) hzi.2.2.2.2.1).1, Option.map_map]
  refine J.inv rfl rfl rfl rfl rfl rfl ((jD_w rfl).mpr hN.1.1) rfl rfl rfl rfl rfl (c_learn hz hM hn hi hk hN) ?_
  rintro r w H1 ⟨rfl, rfl, k1, hN1, hS1, -⟩
  have hw : jwM w w := fun _ _ h => h
  have hat : (zknow z n i).2.2.2 n = (nh z n, ns z n, ne z n, nr z n, nK z n ++ [i]) := zN_at z n _
  have hP1 : cPic F w (zknow z n i) H1 je mp bp sp := by
    refine ⟨hP.1.mv hw k1 (by decide) (by decide), hM.mv hw ⟨rfl, rfl⟩ k1 (by decide) (by decide), hP.2.2.1.mv hw rfl k1 (by decide) (by decide), fun m hm => ?_, hP.2.2.2.2⟩
    by_cases hmn : m = n
    · subst hmn
      have e2 : nh (zknow z m i) m = nh z m := by unfold nh; rw [hat]
      rw [hat, e2]
      exact hN1
    · have e : (zknow z n i).2.2.2 m = z.2.2.2 m := zN_ne z _ hmn
      have e2 : nh (zknow z n i) m = nh z m := by unfold nh; rw [e]
      rw [e, e2]
      exact (hP.2.2.2.1 m hm).mv hw (hS1 _ _ fun y => hmn (ti m n hm hn y)) fun _ _ => rfl
  have e4 : H1.1 5 3 (mp i) = (zh z i : Int) := by rw [(k1.1 5 (by decide)).1]; exact g4
  have eq1 : H1.1 0 1 (bp (nh z n - 1)) + 1 = (nh z n : Int) := by rw [(k1.1 0 (by decide)).1]; exact hnd.1.2.2
  refine J.run 3 rfl m1 ?_
  try dsimp only
  try dsimp only
  rw [e4]
  refine J.inv rfl rfl rfl rfl rfl rfl ((jD_w rfl).mpr hN1.1.1) rfl rfl rfl rfl rfl (c_height hN1.1.1 hN1.2.1.2.1 hnd.1.1 hnd.1.2.1) ?_
  rintro r w H1 ⟨rfl, rfl, rfl⟩
  rw [eq1]
  refine J.icmp rfl rfl rfl ⟨⟨by omega, by omega⟩, by omega, by omega⟩ (fun hc => ?_) (fun hc => ?_)
  · have hc' : ¬ (zh z i : Int) = nh z n := hc
    refine J.run0 1 rfl ?_
    try dsimp only
    refine J.retb rfl rfl rfl (by decide) ⟨_, rfl, rfl, Or.inr ⟨hk, ?_, hP1, k1.cl rfl rfl⟩⟩
    rw [if_neg (by omega)]
  · have hc' : (zh z i : Int) = nh z n := Classical.not_not.mp hc
    refine J.run0 2 rfl ?_
    try dsimp only
    refine J.retb rfl rfl rfl (by decide) ⟨_, rfl, rfl, Or.inr ⟨hk, ?_, hP1, k1.cl rfl rfl⟩⟩
    rw [if_pos (by omega)]
theorem c_doAll {F : cF} {z : zT} {n : Nat} (hz : zInv z) (hR : cRest F w z H) (hn : n < 16) : J b (d + 5) 89 w (0, jargs 0 [.inr (some (10, fX F)), .inr (some (6, fN F n))], [], H) (jN fun r w' H' => r = none ∧ cRest F w' (zact 500 z n) H' ∧ jCl H' H) := by
  obtain ⟨je, hI, hje⟩ := hR
  refine J.run0 4 rfl ?_
  try dsimp only
  by_cases hh : nh z n ≤ 120
  · have h0 : je n = 0 := by
      rcases hje n hn with h | h
      · exact h
      · omega
    exact c_doAll_l hn 500 w H z je 0 hz hI h0 (fun m hm _ => hje m hm) (by have := zmu_le (z := z) n; omega) (by omega)
  · obtain ⟨mp, bp, sp, hP⟩ := hI
    refine c_doAll_h (i := 0) hz hP hn (by omega) (fun h => absurd h hh) (fun _ => ?_)
    refine J.retv rfl rfl rfl ⟨_, rfl, rfl, ?_, jCl.refl _⟩
    unfold zact
    rw [if_neg hh]
    exact ⟨je, ⟨mp, bp, sp, hP⟩, hje⟩
end CR
