section JMD
variable {d : Nat} {w : jW} {H : jH}
theorem J.max {k pc ix : Nat} {q : xMt} {lv : jL} {x y : Int} {Post : jO → jW → jH → Prop} (hq : xmts[k]? = some q) (hi : xat k pc = some (.invokestatic ix, 3)) (hl : xlk xivs q.1 ix = some (1, 170)) (hx : jR x) (hy : jR y) (h : J true d k w (pc + 3, lv, [.inl (if x < y then y else x)], H) Post) : J true d k w (pc, lv, [.inl y, .inl x], H) Post := by
  intro ph hp hR
  obtain ⟨o', w', H', ph', hp', hX, hR', hE, hF, hP⟩ := h ph hp hR
  refine ⟨o', w', H', ph', hp', X.one ?_ hX, hR', hE, hF, hP⟩
  unfold xst
  rw [hq]
  try dsimp only
  rw [hi]
  try dsimp only
  have h1 : xs q.1 q.2.2.2.1 (decide (q.2.1.name = "<init>")) (.invokestatic ix) 3 (pc, jml ph lv, [Value.int (Int32.ofInt y), Value.int (Int32.ofInt x)], hp, w.2.2) = none := by
    simp only [xs, xs1, xs6, xs5, xs4, xs7, xs8, show ¬ ((3 : Nat) = 1) by decide, if_false]
  have h2 : xs9 q.1 (.invokestatic ix) 3 [Value.int (Int32.ofInt y), Value.int (Int32.ofInt x)] hp = some ([.int (Int32.ofInt (if x < y then y else x))], hp) := by
    simp only [xs9, hl]
    rw [if_pos ⟨trivial, trivial, by decide⟩]
    by_cases hlt : x < y
    · rw [if_pos ((jof_lt hx hy).mpr hlt), if_pos hlt]
    · rw [if_neg (fun z => hlt ((jof_lt hx hy).mp z)), if_neg hlt]
  show (match xs q.1 q.2.2.2.1 (decide (q.2.1.name = "<init>")) (.invokestatic ix) 3 (pc, jml ph lv, [Value.int (Int32.ofInt y), Value.int (Int32.ofInt x)], hp, w.2.2) with | some g' => some g' | none => match xs9 q.1 (.invokestatic ix) 3 [Value.int (Int32.ofInt y), Value.int (Int32.ofInt x)] hp with | some (st, hp) => some (pc + 3, jml ph lv, st, hp, w.2.2) | none => none) = _
  rw [h1, h2]
  rfl
theorem jcnt_count {g : Int → Int} {p : Nat → Bool} : ∀ (m : Nat), (∀ k : Nat, k < m → g k = if p k = true then 1 else 0) → jcnt g m = (((List.range m).countP p : Nat) : Int)
  | 0, _ => rfl
  | m + 1, h => by
    have ih := jcnt_count m fun k hk => h k (by omega)
    simp only [jcnt]
    rw [ih, h m (by omega), List.range_succ, List.countP_append]
    by_cases hp : p m = true
    · rw [if_pos hp]
      simp [List.countP_cons, hp]
    · rw [if_neg hp]
      simp [List.countP_cons, hp]
/-- what n KNOWS of its HEIGHT, in the reference's rows and in ours -/
theorem now_iff {v : zV} {ht : Nat → Nat} {n : Nat} (hN : rNd v ht H n) (Q : Int → Prop) : (∃ j, 0 ≤ j ∧ j < H.2.2.1 113 0 n ∧ Q (H.2.2.1 112 0 (6000 * (n : Int) + j))) ↔ ∃ x ∈ vNow v ht, Q (x : Int) := by
  have e1 := hN.2.2.2.2.1
  have e2 := hN.2.2.2.2.2
  refine ⟨fun ⟨j, a, b, c⟩ => ?_, fun ⟨x, hx, c⟩ => ?_⟩
  · have hlt : j.toNat < (vNow v ht).length := by omega
    have h1 := e2 j.toNat _ (List.getElem?_eq_getElem hlt)
    rw [show ((j.toNat : Nat) : Int) = j by omega] at h1
    rw [h1] at c
    exact ⟨_, List.getElem_mem hlt, c⟩
  · obtain ⟨j, hj, rfl⟩ := List.getElem_of_mem hx
    refine ⟨j, by omega, by omega, ?_⟩
    rw [e2 j _ (List.getElem?_eq_getElem hj)]
    exact c
theorem mem_vNow {v : zV} {ht : Nat → Nat} {x : Nat} : x ∈ vNow v ht ↔ x ∈ v.2.2.2.2 ∧ ht x = v.1 := by
  unfold vNow
  rw [List.mem_filter]
  simp
theorem rInv.okm {z : zT} (hz : zInv z) (hI : rInv z H) {x : Nat} (hx : x < zM z) : mOK H (x : Int) := by
  obtain ⟨h1, h2, h3, h4, h5, h6⟩ := hz.2.1 x hx
  obtain ⟨r1, r2, r3, r4, r5, r6⟩ := hI.1.2 x hx
  have hM := hz.1.1
  unfold mOK
  rw [r1, r2, r3, r4, r5, r6]
  exact ⟨by omega, by omega, by omega, by omega, by omega, by omega, by omega, by omega⟩
theorem rInv.nowm {z : zT} (hz : zInv z) (hI : rInv z H) {n : Nat} (hn : n < 16) : mNow H (n : Int) := by
  have hN := hI.2.2 n hn
  have e1 := hN.2.2.2.2.1
  have e2 := hN.2.2.2.2.2
  have hl : (vNow (z.2.2.2 n) (zh z)).length ≤ (nK z n).length := List.length_filter_le _ _
  have hl2 := nK_len hz hn
  have hM := hz.1.1
  refine ⟨by omega, by omega, fun j a b => ?_⟩
  have hlt : j.toNat < (vNow (z.2.2.2 n) (zh z)).length := by omega
  have h1 := e2 j.toNat _ (List.getElem?_eq_getElem hlt)
  rw [show ((j.toNat : Nat) : Int) = j by omega] at h1
  rw [h1]
  exact hI.okm hz ((hz.2.2.2.1 n hn).2.2.2.2.1 _ (mem_vNow.mp (List.getElem_mem hlt)).1)
theorem rInv.snd {z : zT} {H' : jH} {b : Int} (hI : rInv z H) (hz : zInv z) (hb : b < (zB z : Int)) (hS : rSnd H' H b) : rInv z H' := by
  obtain ⟨hL, hE, hd, hs1, hs2⟩ := hS
  obtain ⟨x1, x2, x3, x4, x5, x6, x7, x8, x9⟩ := hI.2.1
  refine ⟨hI.1.ex hE ⟨rfl, rfl⟩ (by decide) (by decide), ⟨?_, x2.ex hE (by decide), fun c p q => ?_, fun c p q => ?_, ?_, fun c p q => ?_, hL, ?_, hd⟩, fun m hm => ?_⟩
  · rw [hE.v 12 (by decide)]; exact x1
  · by_cases hc : c = b
    · rw [hc]; exact Or.inr hs1
    · rw [hs2 c hc]; exact x3 c p q
  · by_cases hc : c = b
    · rw [hc]; exact hs1
    · rw [hs2 c hc]; exact x4 c p q
  · by_cases hc : (0 : Int) = b
    · rw [hc]; exact hs1
    · rw [hs2 0 hc]; exact x5
  · rw [hs2 c (by omega)]; exact x6 c p q
  · rw [hE.v 4 (by decide), hE.v 45 (by decide), hE.r 57 (by decide)]; exact x8
  · have h6 := nK_len hz hm
    have hM := hz.1.1
    exact (hI.2.2 m hm).oth (rOth.ex hE (by decide)) (fun _ _ => rfl) (by show (nK z m).length ≤ 6000; omega)
theorem rInv.seen {z : zT} (hI : rInv z H) (hz : zInv z) (g : Int → Int) : rInv z (hR H 81 g) := by
  have hE : jEx [] [81] (hR H 81 g) H := (jEx.refl _ _ _).row (by decide)
  refine ⟨hI.1.ex hE ⟨rfl, rfl⟩ (by decide) (by decide), hI.2.1.ex hE rfl (by decide) (by decide), fun m hm => ?_⟩
  have h6 := nK_len hz hm
  have hM := hz.1.1
  exact (hI.2.2 m hm).oth (rOth.ex hE (by decide)) (fun _ _ => rfl) (by show (nK z m).length ≤ 6000; omega)
theorem j_isGoodZ {z : zT} {n : Nat} (hz : zInv z) (hI : rInv z H) (hn : n < 16) (hB : nh z n < zB z) :
    J true (d + 3) 135 w (0, jargs 0 [jT, .inl n, .inl (nh z n : Int)], [], H) (jN fun r w' H' => r = some (.inl 1) ∧ w' = w ∧ rInv z H' ∧ H'.2.2.1 61 0 (nh z n : Int) = 1) := by
  have hh := hI.height hz hn
  obtain ⟨x1, x2, x3, x4, x5, x6, x7, x8, x9⟩ := hI.2.1
  refine J.post (j_isGood x7 x2 (by omega) (by omega) x9 ?_ (hI.2.2 n hn).1.1) ?_
  · rcases x3 (nh z n : Int) (by omega) (by omega) with h | h
    · exact Or.inr ⟨h, by omega, x4 _ (by omega) (by omega)⟩
    · exact Or.inl h
  · rintro o w' H' ⟨r, rfl, rfl, rfl, hS⟩
    exact ⟨_, rfl, rfl, rfl, hI.snd hz (by omega) hS, hS.2.2.2.1⟩
theorem rInv.pow {z : zT} (hI : rInv z H) {n : Nat} (hn : n < 16) : mPow H (n : Int) := (hI.2.2 n hn).2.2.2.1
theorem j_isMostZ {z : zT} {n kd : Nat} (hz : zInv z) (hI : rInv z H) (hn : n < 16) (hkd : kd ≤ 2) :
    J true (d + 1) 133 w (0, jargs 0 [jT, .inl n, .inl (kd : Int), .inl 0, .inl (nh z n : Int)], [], H) (jN fun r w' H' => r = some (.inl (if 11 ≤ zcnt z n kd then 1 else 0)) ∧ w' = w ∧ rInv z H' ∧ H'.2.2.1 61 0 = H.2.2.1 61 0) := by
  have hh := hI.height hz hn
  have hN := hI.2.2 n hn
  refine J.post (j_isMost (kind := kd) (r := 0) (b := nh z n) (hI.nowm hz hn) (hI.pow hn) (by omega) (by omega) (by omega)) ?_
  rintro o w' H' ⟨r, rfl, rfl, g, rfl, hg, rfl⟩
  refine ⟨_, rfl, ?_, rfl, hI.seen hz g, rfl⟩
  have hc : jcnt g 16 = ((zcnt z n kd : Nat) : Int) := by
    refine jcnt_count 16 fun k hk => ?_
    have h1 := hg k (by omega) (by omega)
    have h2 : g k = 1 ↔ zsaid z n kd k = true := by
      rw [h1.2, now_iff hN fun x => mS H kd 0 (nh z n) x ∧ H.2.2.1 64 0 x = k]
      unfold zsaid
      rw [List.any_eq_true]
      refine ⟨fun ⟨x, hx, ⟨p1, p2, p3⟩, p4⟩ => ?_, fun ⟨x, hx, hp⟩ => ?_⟩
      · have hx2 := mem_vNow.mp hx
        obtain ⟨r1, r2, r3, r4, r5, r6⟩ := hI.1.2 x ((hz.2.2.2.1 n hn).2.2.2.2.1 _ hx2.1)
        refine ⟨x, hx2.1, ?_⟩
        simp only [Bool.and_eq_true, beq_iff_eq]
        exact ⟨⟨by omega, hx2.2⟩, by omega⟩
      · simp only [Bool.and_eq_true, beq_iff_eq] at hp
        obtain ⟨r1, r2, r3, r4, r5, r6⟩ := hI.1.2 x ((hz.2.2.2.1 n hn).2.2.2.2.1 _ hx)
        exact ⟨x, mem_vNow.mpr ⟨hx, hp.1.2⟩, ⟨by rw [r1]; omega, r4, Or.inr (by rw [r5]; omega)⟩, by rw [r2]; omega⟩
    by_cases hp : zsaid z n kd k = true
    · rw [if_pos hp]; exact h2.mpr hp
    · rw [if_neg hp]
      rcases h1.1 with h | h
      · exact h
      · exact absurd (h2.mp h) hp
  rw [hc]
  by_cases h11 : 11 ≤ zcnt z n kd
  · rw [if_pos h11, if_pos (by omega)]
  · rw [if_neg h11, if_neg (by omega)]
theorem j_isMostNone {z : zT} {n kd : Nat} (hz : zInv z) (hI : rInv z H) (hn : n < 16) (hkd : kd ≤ 2) :
    J true (d + 1) 133 w (0, jargs 0 [jT, .inl n, .inl (kd : Int), .inl 0, .inl (-1)], [], H) (jN fun r w' H' => r = some (.inl 0) ∧ w' = w ∧ rInv z H') := by
  have hN := hI.2.2 n hn
  refine J.post (j_isMost (kind := kd) (r := 0) (b := -1) (hI.nowm hz hn) (hI.pow hn) (by omega) (by omega) (by omega)) ?_
  rintro o w' H' ⟨r, rfl, rfl, g, rfl, hg, rfl⟩
  refine ⟨_, rfl, ?_, rfl, hI.seen hz g⟩
  have hc : jcnt g 16 = (((List.range 16).countP fun _ => false : Nat) : Int) := by
    refine jcnt_count 16 fun k hk => ?_
    have h1 := hg k (by omega) (by omega)
    rw [if_neg (by decide)]
    rcases h1.1 with h | h
    · exact h
    · obtain ⟨x, hx, ⟨p1, p2, p3⟩, p4⟩ := (now_iff hN fun x => mS H kd 0 (-1) x ∧ H.2.2.1 64 0 x = k).mp (h1.2.mp h)
      have hx2 := mem_vNow.mp hx
      have hxM := (hz.2.2.2.1 n hn).2.2.2.2.1 _ hx2.1
      obtain ⟨r1, r2, r3, r4, r5, r6⟩ := hI.1.2 x hxM
      have := (hz.2.1 x hxM).2.2.1
      rcases p3 with p3 | p3 <;> omega
  rw [hc, if_neg (by decide)]
theorem j_proposalZ {z : zT} {n : Nat} (hz : zInv z) (hI : rInv z H) (hn : n < 16) :
    J true (d + 2) 134 w (0, jargs 0 [jT, .inl n, .inl 0], [], H) (jN fun r w' H' => w' = w ∧ H' = H ∧ ((zprop z n = false ∧ r = some (.inl (-1))) ∨ zprop z n = true ∧ ∃ x : Nat, x < zM z ∧ r = some (.inl (x : Int)) ∧ H.2.2.1 67 0 x = (nh z n : Int) ∧ H.2.2.1 68 0 x = -1)) := by
  have hh := hI.height hz hn
  have hN := hI.2.2 n hn
  refine J.post (j_proposal (r := 0) (hI.nowm hz hn) (hI.pow hn) (by omega) hh.1 (by omega)) ?_
  rintro o w H ⟨r, rfl, rfl, rfl, hr⟩
  refine ⟨_, rfl, rfl, rfl, ?_⟩
  rw [hh.2.1, show (nh z n : Int) - 1 + 1 = (nh z n : Int) by omega, mProp_zP] at hr
  have hiff := now_iff hN fun x => mP H 0 (zP (nh z n)) x
  have hpr : (∃ x ∈ vNow (z.2.2.2 n) (zh z), mP H 0 (zP (nh z n)) (x : Int)) ↔ zprop z n = true := by
    unfold zprop
    rw [List.any_eq_true]
    refine ⟨fun ⟨x, hx, p1, p2, p3, p4⟩ => ?_, fun ⟨x, hx, hp⟩ => ?_⟩
    · have hx2 := mem_vNow.mp hx
      obtain ⟨r1, r2, r3, r4, r5, r6⟩ := hI.1.2 x ((hz.2.2.2.1 n hn).2.2.2.2.1 _ hx2.1)
      refine ⟨x, hx2.1, ?_⟩
      simp only [Bool.and_eq_true, beq_iff_eq]
      exact ⟨by omega, hx2.2⟩
    · simp only [Bool.and_eq_true, beq_iff_eq] at hp
      have hxM := (hz.2.2.2.1 n hn).2.2.2.2.1 _ hx
      obtain ⟨r1, r2, r3, r4, r5, r6⟩ := hI.1.2 x hxM
      have h2 := (hz.2.1 x hxM).2.2.2.2.2 hp.1
      exact ⟨x, mem_vNow.mpr ⟨hx, hp.2⟩, by rw [r1]; omega, r4, by rw [r5]; omega, by rw [r2, h2, hp.2]⟩
  rcases hr with ⟨rfl, hno⟩ | ⟨j, a, b, c, rfl⟩
  · refine Or.inl ⟨?_, rfl⟩
    cases hp : zprop z n with
    | false => rfl
    | true =>
      obtain ⟨j, a, b, c⟩ := hiff.mpr (hpr.mpr hp)
      exact absurd c (hno j a b)
  · refine Or.inr ⟨hpr.mp (hiff.mp ⟨j, a, b, c⟩), ?_⟩
    have e1 := hN.2.2.2.2.1
    have e2 := hN.2.2.2.2.2
    have hlt : j.toNat < (vNow (z.2.2.2 n) (zh z)).length := by omega
    have h1 := e2 j.toNat _ (List.getElem?_eq_getElem hlt)
    rw [show ((j.toNat : Nat) : Int) = j by omega] at h1
    have hx2 := mem_vNow.mp (List.getElem_mem hlt)
    have hxM := (hz.2.2.2.1 n hn).2.2.2.2.1 _ hx2.1
    obtain ⟨r1, r2, r3, r4, r5, r6⟩ := hI.1.2 _ hxM
    refine ⟨_, hxM, by rw [h1], ?_, r6⟩
    rw [r5, hx2.2]
end JMD
