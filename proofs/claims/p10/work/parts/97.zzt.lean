/-! the class: a new object -/
section CN
variable {T : cP} {d : Nat} {w w' : jW} {H H' H1 H2 : jH}
theorem i_cli {c g : Nat} (h1 : w.1 1 c) (hfr : ∀ k, w.1 k c → k = 1) (hg : 0 < g) : J false d 3 w (0, jargs 0 [.inr (some (1, c)), .inr (some (0, g))], [], H) (jN fun r w' H' => r = none ∧ jwM w w' ∧ w'.2.1 = w.2.1 + 1 ∧ w'.2.2 = w.2.2 + 16 ∧ w'.1 20 c ∧ jK [1] [20] H' H ∧ H'.2.2.2.2 1 0 c = g ∧ (∀ i, H'.2.2.2.1 20 c i = none)) := by
  refine J.run0 1 rfl ?_
  try dsimp only
  refine J.obj rfl rfl rfl rfl ?_
  refine J.run0 2 rfl ?_
  try dsimp only
  refine J.nrr rfl rfl rfl rfl rfl rfl rfl rfl rfl rfl rfl rfl (by decide) h1 (fun h => absurd (hfr _ h) (by decide)) (jstP.of rfl) ?_
  refine J.run 3 rfl ⟨Or.inl h1, hg⟩ ?_
  try dsimp only
  refine J.gn fun H1 hH1 => ?_
  have k1 : jK [1] [20] H1 H := by
    rw [hH1]
    refine jK.own ?_ (by decide)
    refine jK.rows ?_ (by decide)
    exact jK.refl _ _ _
  have v1 : H1.2.2.2.2 1 0 c = g := by rw [hH1]; exact if_pos rfl
  have v2 : ∀ i, H1.2.2.2.1 20 c i = none := by
    rw [hH1]
    intro i
    exact congrFun (if_pos rfl) i
  clear hH1
  exact J.retv rfl rfl rfl ⟨_, rfl, rfl, fun k q h => Or.inl h, rfl, rfl, Or.inr ⟨rfl, rfl⟩, k1, v1, v2⟩
theorem i_log {l : Nat} (h4 : w.1 4 l) (hfr : ∀ k, w.1 k l → k = 4) : J false d 23 w (0, jargs 0 [.inr (some (4, l))], [], H) (jN fun r w' H' => r = none ∧ w' = jwA w 25 l 96 ∧ H' = (H.1, H.2.1, H.2.2.1, jsetR H.2.2.2.1 25 l (fun _ => none), H.2.2.2.2)) := by
  refine J.run0 1 rfl ?_
  try dsimp only
  refine J.obj rfl rfl rfl rfl ?_
  refine J.run0 2 rfl ?_
  try dsimp only
  refine J.nrr rfl rfl rfl rfl rfl rfl rfl rfl rfl rfl rfl rfl (by decide) h4 (fun h => absurd (hfr _ h) (by decide)) (jstP.of rfl) ?_
  exact J.retv rfl rfl rfl ⟨_, rfl, rfl, rfl, rfl⟩
def tNd (T : cP) (P L : Nat) : cP := tA (tA (tA (tA (tA T 25 L) 4 L) 26 P) 27 P) 6 P
theorem tNd.sub {P L : Nat} : ∀ k p, T k p → tNd T P L k p := fun _ _ h => Or.inl (Or.inl (Or.inl (Or.inl (Or.inl h))))
theorem tNd.k {P L k p : Nat} (h : tNd T P L k p) : T k p ∨ k ∈ [4, 6, 25, 26, 27] := by
  rcases h with ((((h | h) | h) | h) | h) | h
  · exact Or.inl h
  all_goals
    right
    rw [h.1]
    decide
set_option maxRecDepth 8000 in
theorem i_node {P g : Nat} {n : Int} (hT : cT T w H) (h6 : w.1 6 P) (h0 : 0 < P) (hfr : ∀ k, w.1 k P → k = 6) (ht6 : ¬ T 6 P) (tg : T 0 g) (hz : ∀ j, H.1 6 j P = 0) (hn : 0 ≤ n ∧ n ≤ 15) : J false (d + 1) 30 w (0, jargs 0 [.inr (some (6, P)), .inl n, .inr (some (0, g))], [], H) (jN fun r w' H' => r = none ∧ jwM w w' ∧ w'.2.1 = w.2.1 + 4 ∧ w'.2.2 ≤ w.2.2 + 500 ∧ cEx T [] H' H ∧ H'.2.2.2.1 40 = H.2.2.2.1 40 ∧ H'.2.2.2.2 10 = H.2.2.2.2 10 ∧ (∀ p, p ≠ P → H'.1 6 10 p = H.1 6 10 p) ∧ H'.1 6 10 P = 0 ∧ ∃ L, cT (tNd T P L) w' H') := by
  have n0 : ∀ k, k ≠ 6 → ¬ w.1 k P := fun k hk h => hk (hfr k h)
  have hg : 0 < g := (hT.1 _ _ tg).2
  have tw : ∀ k p, T k p → w.1 k p := fun k p h => (hT.1 k p h).1
  refine J.run0 1 rfl ?_
  try dsimp only
  refine J.obj rfl rfl rfl rfl ?_
  refine J.run 16 rfl ⟨h6, h6, h6, h6, h6⟩ ?_
  try dsimp only
  refine J.gn fun H1 hH1 => ?_
  have x1 : cEx T [] H1 H := by
    rw [hH1]
    refine cEx.oi5 ?_ ht6
    refine cEx.oi5 ?_ ht6
    refine cEx.oi5 ?_ ht6
    refine cEx.oi5 ?_ ht6
    refine cEx.oi5 ?_ ht6
    exact cEx.refl
  have f1 : nFld H1 H P [4, 5, 6, 7, 12] := by
    rw [hH1]
    refine nFld.int ?_ (by decide)
    refine nFld.int ?_ (by decide)
    refine nFld.int ?_ (by decide)
    refine nFld.int ?_ (by decide)
    refine nFld.int ?_ (by decide)
    exact nFld.refl _ _ _
  have v1 : H1.1 6 6 P = -1 ∧ H1.1 6 7 P = -1 := by
    rw [hH1]
    exact ⟨if_pos rfl, if_pos rfl⟩
  clear hH1
  refine J.nw rfl rfl rfl rfl rfl rfl rfl (jstP.of rfl) fun H2 hN2 hwc2 => ?_
  have hf2 : ∀ k, ¬ w.1 k w.2.1 := fun k h => by have := (hwc2.2 k _ h).1; omega
  have hP2 : P < w.2.1 := (hwc2.2 6 P h6).1
  have x2 : cEx T [] H2 H1 := cEx.nw cEx.refl hN2 fun z => hf2 _ (tw _ _ z)
  refine J.run0 1 rfl ?_
  try dsimp only
  refine J.ini rfl rfl rfl (Or.inr rfl) rfl rfl rfl rfl rfl (jstP.of rfl) (i_log (Or.inr ⟨rfl, rfl⟩) (fun k h => by
    rcases h with h | h
    · exact absurd h (hf2 k)
    · exact h.1)) ?_
  rintro r w3 H3 ⟨rfl, rfl, hH3⟩
  have x3 : cEx T [] H3 H2 := by
    rw [hH3]
    refine cEx.oB5 ?_ fun z => hf2 _ (tw _ _ z)
    exact cEx.refl
  have y3 : H3.1 = H2.1 ∧ H3.2.2.2.2 = H2.2.2.2.2 ∧ (∀ i, H3.2.2.2.1 25 w.2.1 i = none) ∧ H3.2.2.2.1 40 = H2.2.2.2.1 40 := by
    rw [hH3]
    exact ⟨rfl, rfl, fun i => congrFun (if_pos rfl) i, jsetR_k (R := H2.2.2.2.1) (k := 25) (p := w.2.1) (g := fun _ => none) (show (40 : Nat) ≠ 25 by decide)⟩
  clear hH3
  have n3 : ∀ k, k ≠ 6 → k ≠ 4 → k ≠ 25 → ¬ (jwA (jwA w 4 w.2.1 (jfn 4)) 25 w.2.1 96).1 k P := fun k h1 h2 h3 => nA (nA (n0 k h1) h2) h3
  refine J.run 3 rfl ⟨Or.inl (Or.inl h6), hwc2.1⟩ ?_
  try dsimp only
  refine J.nri rfl rfl rfl rfl rfl rfl rfl rfl rfl rfl (by decide) (Or.inl (Or.inl h6)) (n3 _ (by decide) (by decide) (by decide)) (jstP.of rfl) ?_
  refine J.run0 2 rfl ?_
  try dsimp only
  refine J.nri rfl rfl rfl rfl rfl rfl rfl rfl rfl rfl (by decide) (Or.inl (Or.inl (Or.inl h6))) (nA (n3 _ (by decide) (by decide) (by decide)) (by decide)) (jstP.of rfl) ?_
  refine J.run 6 rfl ⟨Or.inl (Or.inl (Or.inl (Or.inl h6))), Or.inl (Or.inl (Or.inl (Or.inl h6))), hg⟩ ?_
  try dsimp only
  refine J.gn fun H4 hH4 => ?_
  have ht26 : ¬ T 26 P := fun z => n0 _ (by decide) (tw _ _ z)
  have ht27 : ¬ T 27 P := fun z => n0 _ (by decide) (tw _ _ z)
  have x4 : cEx T [] H4 H3 := by
    rw [hH4]
    refine cEx.oo5 ?_ ht6
    refine cEx.oi5 ?_ ht6
    refine cEx.oR5 ?_ ht27
    refine cEx.oR5 ?_ ht26
    refine cEx.oo5 ?_ ht6
    exact cEx.refl
  have v4 : H4.1 6 0 P = n ∧ H4.2.2.2.2 6 1 P = g ∧ H4.2.2.2.2 6 13 P = w.2.1 := by
    rw [hH4]
    exact ⟨if_pos rfl, if_pos rfl, if_pos rfl⟩
  have v5 : ∀ j, j ≠ 0 → ∀ p, H4.1 6 j p = H3.1 6 j p := fun j hj p => by
    rw [hH4]
    show jupF H3.1 6 0 P n 6 j p = _
    exact jupF_ne fun z => hj z.2.1
  have v6 : H4.1 4 = H3.1 4 ∧ H4.2.2.2.1 = H3.2.2.2.1 ∧ H4.2.2.2.2 10 = H3.2.2.2.2 10 := by
    rw [hH4]
    refine ⟨?_, rfl, ?_⟩
    · funext j p
      show jupF H3.1 6 0 P n 4 j p = _
      exact jupF_ne fun z => absurd z.1 (by decide)
    · funext j p
      show jupF (jupF H3.2.2.2.2 6 13 P w.2.1) 6 1 P g 10 j p = _
      rw [jupF_ne fun z => absurd z.1 (by decide), jupF_ne fun z => absurd z.1 (by decide)]
  clear hH4
  have hN6 : ∀ j p, H2.1 6 j p = H1.1 6 j p := fun j p => (hN2.1 6 j p fun z => absurd z.1 (by decide)).1
  have i6 : ∀ j, j ≠ 0 → ∀ p, H4.1 6 j p = H1.1 6 j p := fun j hj p => by rw [v5 j hj, y3.1, hN6 j p]
  have z6 : ∀ j, j ∉ [0, 4, 5, 6, 7, 12] → H4.1 6 j P = 0 := fun j hj => by
    rw [i6 j (fun z => hj (by rw [z]; decide)) P, f1.2 6 j P fun z => hj (List.mem_cons_of_mem _ z.2.2)]
    exact hz j
  have i4 : ∀ j, H4.1 4 j w.2.1 = 0 := fun j => by
    rw [v6.1, y3.1]
    exact (hN2.2.1 j).1
  have xa : cEx T [] H4 H := x4.t (x3.t (x2.t x1))
  have hM : ∀ k p, w.1 k p → (jwA (jwA (jwA (jwA w 4 w.2.1 (jfn 4)) 25 w.2.1 96) 26 P (Int.toNat 188)) 27 P (Int.toNat 188)).1 k p := fun k p h => Or.inl (Or.inl (Or.inl (Or.inl h)))
  have t0 : cT T _ H4 := hT.same xa hM
  have t1 := cT.rn (c := 25) (m := w.2.1) t0 (by decide) (by decide) rfl (Or.inl (Or.inl (Or.inr ⟨rfl, rfl⟩))) hwc2.1 (fun i => by rw [v6.2.1]; exact y3.2.2.1 i) (fun i => trivial)
  have t2 : cT (tA (tA T 25 w.2.1) 4 w.2.1) _ H4 := cT.add t1 (Or.inl (Or.inl (Or.inl (Or.inr ⟨rfl, rfl⟩)))) hwc2.1 (fun j k z => by
      have hl : j < 3 := (jft_lt z).2
      rcases j with _ | _ | _ | j
      · cases z; exact tA.new
      · cases z
      · cases z
      · omega) (fun j k q z => absurd z fun z => jno_ok (n := 2) (c := 4) rfl z) (fun j k z => absurd z fun z => jno_ok (n := 3) (c := 4) rfl z) rfl (fun j hj => cvi_of (c := 4) (f := fun j => H4.1 4 j w.2.1) (by
      intro z hz
      simp only [cvt, List.mem_cons, List.not_mem_nil, or_false] at hz
      rcases hz with rfl | rfl | rfl | rfl | rfl | rfl | rfl | rfl | rfl | rfl | rfl | rfl | rfl | rfl | rfl | rfl | rfl | rfl | rfl | rfl | rfl | rfl | rfl | rfl | rfl | rfl | rfl | rfl | rfl | rfl | rfl | rfl
      all_goals first | exact fun e => absurd e (by decide) | (intro _; dsimp only; rw [i4]; decide)) hj) (fun i => trivial)
  have t3 := cT.ri (c := 26) (m := P) t2 (by decide) (by decide) rfl rfl (Or.inl (Or.inr ⟨rfl, rfl⟩)) h0 (fun i => trivial)
  have t4 := cT.ri (c := 27) (m := P) t3 (by decide) (by decide) rfl rfl (Or.inr ⟨rfl, rfl⟩) h0 (fun i => trivial)
  have t5 : cT (tNd T P w.2.1) (jwA (jwA (jwA (jwA w 4 w.2.1 (jfn 4)) 25 w.2.1 96) 26 P (Int.toNat 188)) 27 P (Int.toNat 188)) H4 := by
    refine cT.add t4 (hM _ _ h6) h0 (fun j k z => ?_) (fun j k q z => absurd z fun z => jno_ok (n := 2) (c := 6) rfl z) (fun j k z => ?_) rfl (fun j hj => cvi_of (c := 6) (f := fun j => H4.1 6 j P) (by
      have c6 : H4.1 6 6 P = -1 := (i6 6 (by decide) P).trans v1.1
      have c7 : H4.1 6 7 P = -1 := (i6 7 (by decide) P).trans v1.2
      intro z hz
      simp only [cvt, List.mem_cons, List.not_mem_nil, or_false] at hz
      rcases hz with rfl | rfl | rfl | rfl | rfl | rfl | rfl | rfl | rfl | rfl | rfl | rfl | rfl | rfl | rfl | rfl | rfl | rfl | rfl | rfl | rfl | rfl | rfl | rfl | rfl | rfl | rfl | rfl | rfl | rfl | rfl | rfl
      all_goals first
        | exact fun e => absurd e (by decide)
        | exact fun _ => (show 0 ≤ H4.1 6 0 P ∧ H4.1 6 0 P ≤ 15 by rw [v4.1]; exact hn)
        | exact fun _ => (show -2147483648 ≤ H4.1 6 6 P ∧ H4.1 6 6 P ≤ 2147483647 by rw [c6]; decide)
        | exact fun _ => (show -2147483648 ≤ H4.1 6 7 P ∧ H4.1 6 7 P ≤ 2147483647 by rw [c7]; decide)
        | exact fun _ => (show 0 ≤ H4.1 6 2 P ∧ H4.1 6 2 P ≤ 31 by rw [z6 2 (by decide)]; decide)
        | exact fun _ => (show 0 ≤ H4.1 6 8 P ∧ H4.1 6 8 P ≤ 1 by rw [z6 8 (by decide)]; decide)
        | exact fun _ => (show 0 ≤ H4.1 6 9 P ∧ H4.1 6 9 P ≤ 1 by rw [z6 9 (by decide)]; decide)
        | exact fun _ => (show 0 ≤ H4.1 6 10 P ∧ H4.1 6 10 P ≤ 1 by rw [z6 10 (by decide)]; decide)
        | exact fun _ => (show 0 ≤ H4.1 6 11 P ∧ H4.1 6 11 P ≤ 1 by rw [z6 11 (by decide)]; decide)) hj) (fun i => trivial)
    · have hk : k = 26 ∨ k = 27 := by
        have hl : j < 17 := (jft_lt z).2
        rcases j with _ | _ | _ | _ | _ | _ | _ | _ | _ | _ | _ | _ | _ | _ | _ | _ | _ | j
        all_goals first | (cases z; exact Or.inl rfl) | (cases z; exact Or.inr rfl) | (cases z; done) | omega
      rcases hk with rfl | rfl
      · exact Or.inl tA.new
      · exact tA.new
    · have hk : (j = 1 ∧ k = 0) ∨ (j = 13 ∧ k = 4) := by
        have hl : j < 17 := (jft_lt z).2
        rcases j with _ | _ | _ | _ | _ | _ | _ | _ | _ | _ | _ | _ | _ | _ | _ | _ | _ | j
        all_goals first | (cases z; exact Or.inl ⟨rfl, rfl⟩) | (cases z; exact Or.inr ⟨rfl, rfl⟩) | (cases z; done) | omega
      rcases hk with ⟨rfl, rfl⟩ | ⟨rfl, rfl⟩
      · have h9 : H4.2.2.2.2 6 1 P = g := v4.2.1
        rw [h9]
        exact ⟨hg, Or.inl (Or.inl (Or.inl (Or.inl tg)))⟩
      · have h9 : H4.2.2.2.2 6 13 P = w.2.1 := v4.2.2
        rw [h9]
        exact ⟨hwc2.1, Or.inl (Or.inl tA.new)⟩
  refine J.retv rfl rfl rfl ⟨_, rfl, rfl, hM, rfl, ?_, xa, ?_, ?_, fun p hp => ?_, z6 10 (by decide), w.2.1, t5⟩
  · show w.2.2 + jfn 4 + 96 + 188 + 188 ≤ _
    have : jfn 4 = 3 := rfl
    omega
  · rw [v6.2.1, y3.2.2.2, hN2.2.2.2, f1.1]
  · rw [v6.2.2, y3.2.1]
    funext j p
    rw [(hN2.1 10 j p fun z => absurd z.1 (by decide)).2.2, f1.1]
  · rw [i6 10 (by decide) p]
    exact f1.2 6 10 p fun z => hp z.2.1
/-- the NODES made so far -/
def iNs (x : Nat) (T : cP) (H : jH) (i : Int) : Prop :=
  (∀ n : Int, 0 ≤ n → n < i → ∃ q, H.2.2.2.1 40 x n = some q ∧ T 6 q ∧ H.1 6 10 q = 0) ∧
  (∀ n m : Int, 0 ≤ n → n < i → 0 ≤ m → m < i → H.2.2.2.1 40 x n = H.2.2.2.1 40 x m → n = m) ∧ ∀ n q, H.2.2.2.1 40 x n = some q → T 6 q
theorem i_nodes {x l g : Nat} {H0 : jH} {w0 : jW} {T0 : cP} {Post : jO → jW → jH → Prop} (h10 : w0.1 10 x) (h40 : w0.1 40 x) (hl : H0.2.2.2.2 10 0 x = l) (tT : cT T0 w0 H0) (tl : T0 3 l) (tg : H0.2.2.2.1 21 l 0 = some g) (tk : ∀ k p, T0 k p → k ∈ [7, 28, 29, 30, 31, 1, 20] ++ lKs)
    (hnext : ∀ w' H' T', jwM w0 w' → w'.2.1 ≤ w0.2.1 + 80 → w'.2.2 ≤ w0.2.2 + 8320 → cT T' w' H' → (∀ k p, T0 k p → T' k p) → (∀ k p, T' k p → T0 k p ∨ k ∈ [4, 6, 25, 26, 27]) → cEx T0 [] H' H0 → H'.2.2.2.2 10 = H0.2.2.2.2 10 → iNs x T' H' 16 → J false (d + 2) 70 w' (88, [(1, .inl 16), (0, .inr (some (10, x)))], [], H') Post) :
    ∀ (m i : Nat) (w : jW) (H : jH) (T : cP), i + m = 16 → jwM w0 w → w.2.1 ≤ w0.2.1 + 5 * i → w.2.2 ≤ w0.2.2 + 520 * i → cT T w H → (∀ k p, T0 k p → T k p) → (∀ k p, T k p → T0 k p ∨ k ∈ [4, 6, 25, 26, 27]) → cEx T0 [] H H0 → H.2.2.2.2 10 = H0.2.2.2.2 10 → iNs x T H i → J false (d + 2) 70 w (55, [(1, .inl (i : Int)), (0, .inr (some (10, x)))], [], H) Post := by
  have e21 : jrk 21 = some (0 + 3, 300, 0) := rfl
  have t21 : T0 21 l := tT.2.1 3 0 21 l rfl tl
  have tg0 : T0 0 g := tT.2.2.2.2.1 21 0 300 0 l 0 g e21 t21 tg
  intro m
  induction m with
  | zero =>
    intro i w H T hi hM r1 r2 hT hs hu hx ho hN
    obtain rfl : i = 16 := by omega
    refine J.run0 2 rfl ?_
    try dsimp only
    exact J.icmp rfl rfl rfl ⟨⟨by decide, by decide⟩, by decide, by decide⟩ (fun _ => hnext w H T hM r1 r2 hT hs hu hx ho hN) (fun hc => absurd (show (16 : Int) ≤ (16 : Nat) by decide) hc)
  | succ m ih =>
    intro i w H T hi hM r1 r2 hT hs hu hx ho hN
    refine J.run0 2 rfl ?_
    try dsimp only
    refine J.icmp rfl rfl rfl ⟨⟨by omega, by omega⟩, by decide, by decide⟩ (fun hc => absurd (show (16 : Int) ≤ (i : Int) from hc) (by omega)) (fun _ => ?_)
    have a10 := hM _ _ h10
    have an := hM _ _ h40
    have tw : ∀ k p, T k p → w.1 k p := fun k p h => (hT.1 k p h).1
    have hk : ∀ {k p}, T k p → k ≠ 40 ∧ k ≠ 10 := fun {k p} h => by
      rcases hu k p h with h | h
      · have h9 : ∀ k, k ∈ [7, 28, 29, 30, 31, 1, 20] ++ lKs → k ≠ 40 ∧ k ≠ 10 := by decide
        exact h9 k (tk k p h)
      · have h9 : ∀ k, k ∈ [4, 6, 25, 26, 27] → k ≠ 40 ∧ k ≠ 10 := by decide
        exact h9 k h
    refine J.run 3 rfl ⟨a10, an⟩ ?_
    try dsimp only
    refine J.nw rfl rfl rfl rfl rfl rfl rfl (jstP.push trivial (jstP.push (Or.inr ((jD_w rfl).mpr an)) (jstP.of rfl))) fun H1 hN1 hwc1 => ?_
    have hf1 : ∀ k, ¬ w.1 k w.2.1 := fun k h => by have := (hwc1.2 k _ h).1; omega
    have x1 : cEx T [] H1 H := cEx.nw cEx.refl hN1 fun z => hf1 _ (tw _ _ z)
    have tT1 : cT T (jwA w 6 w.2.1 (jfn 6)) H1 := hT.same x1 fun _ _ z => Or.inl z
    have el : H1.2.2.2.2 10 0 x = l := by rw [(hN1.1 10 0 x fun z => absurd z.1 (by decide)).2.2, ho]; exact hl
    have eb : H1.2.2.2.1 21 l 0 = some g := by rw [hN1.2.2.2, (hx.2 21 l t21).2 (nn _)]; exact tg
    have l0 : 0 < l := (tT.1 _ _ tl).2
    have wl : (jwA w 6 w.2.1 (jfn 6)).1 3 l := Or.inl (hM _ _ (tT.1 _ _ tl).1)
    have wl21 : (jwA w 6 w.2.1 (jfn 6)).1 21 l := Or.inl (hM _ _ (tT.1 _ _ t21).1)
    refine J.run 4 rfl ⟨Or.inl a10, by rw [el]; exact l0⟩ ?_
    try dsimp only
    try dsimp only
    rw [el]
    refine J.invP rfl rfl rfl rfl rfl rfl ((jD_w rfl).mpr wl) rfl rfl rfl rfl (jstP.push trivial (jstP.push (Or.inl rfl) (jstP.push (Or.inl rfl) (jstP.push trivial (jstP.push (Or.inr ((jD_w rfl).mpr (Or.inl an))) (jstP.of rfl)))))) (c_genesis wl wl21 eb) ?_
    rintro r w1 H1' ⟨rfl, rfl, rfl⟩
    refine J.ini rfl rfl rfl (Or.inl rfl) rfl rfl rfl rfl rfl (jstP.push (Or.inl rfl) (jstP.push trivial (jstP.push (Or.inr ((jD_w rfl).mpr (Or.inl an))) (jstP.of rfl)))) (i_node tT1 (Or.inr ⟨rfl, rfl⟩) hwc1.1 (fun k h => by
      rcases h with h | h
      · exact absurd h (hf1 k)
      · exact h.1) (fun z => hf1 _ (tw _ _ z)) (hs _ _ tg0) (fun j => (hN1.2.1 j).1) ⟨by omega, by omega⟩) ?_
    rintro r w2 H2 ⟨rfl, hM2, c2, s2, x2, b40, o10, f10, z10, L, tT2⟩
    have hMw : jwM w w2 := fun k p h => hM2 k p (Or.inl h)
    refine J.run 3 rfl ⟨hMw _ _ an, hM2 _ _ (Or.inr ⟨rfl, rfl⟩), show (0 : Int) ≤ (i : Int) by omega, show (i : Int) < 16 by omega⟩ ?_
    try dsimp only
    refine J.gn fun H3 hH3 => ?_
    have nt : ∀ k, k = 40 → ∀ p, ¬ tNd T w.2.1 L k p := fun k hk40 p z => by
      rcases tNd.k z with z | z
      · exact (hk z).1 hk40
      · rw [hk40] at z; exact absurd z (by decide)
    have x3 : cEx (tNd T w.2.1 L) [] H3 H2 := by
      rw [hH3]
      refine cEx.oB5 ?_ (nt _ rfl _)
      exact cEx.refl
    have v3 : H3.2.2.2.1 40 x = jup (H2.2.2.2.1 40 x) (i : Int) (some w.2.1) := by rw [hH3]; exact if_pos rfl
    have v4 : H3.1 = H2.1 ∧ H3.2.2.2.2 = H2.2.2.2.2 := by rw [hH3]; exact ⟨rfl, rfl⟩
    clear hH3
    have eB : ∀ n : Int, H3.2.2.2.1 40 x n = if n = i then some w.2.1 else H.2.2.2.1 40 x n := fun n => by
      rw [v3, b40, hN1.2.2.2]
      rfl
    have fl : ∀ p, p ≠ w.2.1 → H3.1 6 10 p = H.1 6 10 p := fun p hp => by
      rw [v4.1, f10 p hp]
      exact (hN1.1 6 10 p fun z => hp z.2).1
    have ne : ∀ q, T 6 q → q ≠ w.2.1 := fun q h z => hf1 6 (z ▸ tw _ _ h)
    refine ih (i + 1) w2 H3 (tNd T w.2.1 L) (by omega) (fun k p h => hMw k p (hM k p h)) ?_ ?_ (tT2.same x3 fun _ _ z => z) (fun k p h => tNd.sub _ _ (hs k p h)) (fun k p h => ?_) ?_ ?_ ⟨fun n a b => ?_, fun n m' a b a' b' he => ?_, fun n q hq => ?_⟩
    · exact Nat.le_trans (show w2.2.1 ≤ w.2.1 + 1 + 4 from Nat.le_of_eq c2) (by clear s2 c2; omega)
    · exact Nat.le_trans (show w2.2.2 ≤ w.2.2 + 17 + 500 from s2) (by clear s2 c2; omega)
    · rcases tNd.k h with h | h
      · exact hu k p h
      · exact Or.inr h
    · refine cEx.t ?_ hx
      refine cEx.trans x3 (cEx.trans x2 (cEx.trans x1 cEx.refl hs rfl) hs rfl) (fun k p h => tNd.sub _ _ (hs k p h)) rfl
    · rw [v4.2, o10, ← ho]
      funext j p
      exact (hN1.1 10 j p fun z => absurd z.1 (by decide)).2.2
    · rw [eB n]
      by_cases hn : n = i
      · rw [if_pos hn]
        exact ⟨_, rfl, Or.inr ⟨rfl, rfl⟩, by rw [v4.1]; exact z10⟩
      · rw [if_neg hn]
        obtain ⟨q, q1, q2, q3⟩ := hN.1 n a (by omega)
        exact ⟨q, q1, tNd.sub _ _ q2, by rw [fl q (ne q q2)]; exact q3⟩
    · rw [eB n, eB m'] at he
      by_cases hn : n = i
      · by_cases hm : m' = i
        · omega
        · rw [if_pos hn, if_neg hm] at he
          exact absurd rfl (ne _ (hN.2.2 m' _ he.symm))
      · by_cases hm : m' = i
        · rw [if_neg hn, if_pos hm] at he
          exact absurd rfl (ne _ (hN.2.2 n _ he))
        · rw [if_neg hn, if_neg hm] at he
          exact hN.2.1 n m' a (by omega) a' (by omega) he
    · rw [eB n] at hq
      by_cases hn : n = i
      · rw [if_pos hn] at hq
        cases hq
        exact Or.inr ⟨rfl, rfl⟩
      · rw [if_neg hn] at hq
        exact tNd.sub _ _ (hN.2.2 n q hq)
end CN
