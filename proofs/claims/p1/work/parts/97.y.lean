/-! the law: power; all -/
section TJ
variable {d : Nat} {ph : Nat → Nat → Nat} {w : jW} {H : jH} {hp : List xC} {F : cF} {L : Nat} {xs : Nat → Int32} {po : Nat} {g : Nat → Int64}
theorem s_power {p0 p1 : Int32} (hR : lRy ph w H hp L xs po g) (hF : fRm F) (hC : cRest F w (zc 16) H) : ∃ w' H' ph' hp', X (d + 10) 182 (0, lv_args 0 [.ref (fX F), .int p0, .int p1], [], hp, w.2.2) (.inl (some (.int (Int32.ofInt (powK p0.toInt p1.toInt)))), hp', w'.2.2) ∧ lRy ph' w' H' hp' L xs po g ∧ ph' 11 0 = ph 11 0 ∧ w'.2.1 ≤ 30000 ∧ w'.2.2 ≤ 1000000 := by
  obtain ⟨je, ⟨mp, bp, sp, hP⟩, -⟩ := hC
  have hx : w.1 10 (fX F) := hP.1.1.1
  obtain ⟨fs, h10⟩ := hR.at10 hx
  have has : ([.inr (some (10, fX F)), .inl p0.toInt, .inl p1.toInt] : List jV).map (jm ph) = [.ref (fX F), .int p0, .int p1] := by
    simp only [List.map_cons, List.map_nil, i32m]
    show Value.ref (ph 10 (fX F)) :: _ = _
    rw [hR.1.1.2.2.2.2.1 10 _ rfl]
  obtain ⟨⟨hRep, hI⟩, h0, ho, hn, hlt⟩ := hR
  obtain ⟨o, w', H', ph', hp', hX, hR', hE, hFr, hCl, ho', hw1, hw2⟩ := c_power (b := true) (d := d + 3) hF hP (i32R p0) (i32R p1) ph hp hRep
  have e := jargs_ok ph [.inr (some (10, fX F)), .inl p0.toInt, .inl p1.toInt] 0
  rw [has] at e
  rw [← e] at hX
  have hpos : ∀ k q, jD true w k q → ph k q ≠ 0 := fun k q h => Nat.pos_iff_ne_zero.mp (hRep.2.2.2.1 k q h)
  have n' : ∀ k q, jD true w' k q → ph' k q ≠ po + 1 := fun k q h => by
    rcases hE.2.1 k q h with h1 | h1
    · rw [(hE.1 k q h1).2]; exact hn k q h1
    · omega
  refine ⟨w', H', ph', hp', ?_, ⟨⟨hR', hI.cl hCl⟩, (hFr 0 hRep.2.2.2.2.2.2.2.1 hpos).trans h0, (hFr (po + 1) hlt hn).trans ho, n', Nat.lt_of_lt_of_le hlt hE.2.2⟩, (hE.1 11 0 jDr).2, hw1, hw2⟩
  unfold powK
  rcases ho' with ⟨⟨h1, h2⟩, rfl⟩ | ⟨h1, rfl⟩ | ⟨h1, h2, rfl⟩
  · rw [if_pos h1, if_pos h2]
    refine X.run 3 rfl ?_
    refine X.inv rfl rfl rfl rfl rfl h10 rfl rfl rfl rfl hX ?_
    refine X.run 2 rfl ?_
    exact X.ret (q := (xmts[182]?).get rfl) ⟨rfl, rfl, rfl, rfl⟩ rfl
  · rw [if_neg h1]
    refine X.run 3 rfl ?_
    exact X.invX rfl rfl rfl rfl rfl h10 rfl rfl rfl rfl hX rfl
  · rw [if_pos h1, if_neg h2]
    refine X.run 3 rfl ?_
    exact X.invX rfl rfl rfl rfl rfl h10 rfl rfl rfl rfl hX rfl
theorem r_power {p0 p1 : Int32} (hR : lRy ph w H hp L xs po g) : ∃ hp1 hp2, X (d + 10) 156 (0, lv_args 0 [.ref (ph 11 0), .int p0, .int p1], [], hp, w.2.2) (.inl none, hp1, w.2.2) ∧ (∃ fs, hp1[ph 11 0]? = some (.inr (11, fs))) ∧ X (d + 10) 114 (0, [(0, .ref (ph 11 0))], [], hp1, w.2.2) (.inl (some (.int (Int32.ofInt (powK p0.toInt p1.toInt)))), hp2, w.2.2) ∧ hp2[0]? = hp[0]? ∧ hp2.length = w.2.1 := by
  have has : ([jT, .inl p0.toInt, .inl p1.toInt] : List jV).map (jm ph) = [.ref (ph 11 0), .int p0, .int p1] := by
    simp only [List.map_cons, List.map_nil, i32m]
    rfl
  obtain ⟨⟨hRep, hI⟩, h0, ho, hn, hlt⟩ := hR
  obtain ⟨o, w1, H1, ph1, hp1, hX1, hR1, hE1, hF1, v, rfl, rfl, hw1, hk1⟩ := j_power_ (d := d) (w := wNo w) hI (i32R p0) (i32R p1) ph hp hRep.no
  have e := jargs_ok ph [jT, .inl p0.toInt, .inl p1.toInt] 0
  rw [has] at e
  rw [← e] at hX1
  subst hw1
  obtain ⟨o2, w2, H2, ph2, hp2, hX2, hR2, hE2, hF2, v2, rfl, rfl, hw2, rfl⟩ := j_thrown (d := d + 10) ph1 hp1 hR1
  subst hw2
  have e11 : ph1 11 0 = ph 11 0 := (hE1.1 11 0 jDr).2
  have up : ∀ {k q}, jD true (wNo w) k q → jD true w k q := fun {k q} h => (jD_c (wNo_D h).1).mpr ⟨rfl, (wNo_D h).2⟩
  have z1 : ∀ k q, jD true (wNo w) k q → ph k q ≠ 0 := fun k q h => Nat.pos_iff_ne_zero.mp (hRep.2.2.2.1 k q (up h))
  have z2 : ∀ k q, jD true (wNo w) k q → ph1 k q ≠ 0 := fun k q h => by rw [(hE1.1 k q h).2]; exact z1 k q h
  have hl0 : 0 < (wNo w).2.1 := hRep.2.2.2.2.2.2.2.1
  have hc := hR1.1 11 0 (by decide) jDr
  rw [e11] at hc
  refine ⟨hp1, hp2, hX1, ⟨_, hc⟩, ?_, (hF2 0 hl0 z2).trans (hF1 0 hl0 z1), hR2.2.2.2.2.2.1.symm⟩
  rw [← e11, ← hk1]
  exact hX2
set_option maxRecDepth 20000 in
theorem lc_power (hR : lRy ph w H hp 7 xs po g) (hF : fRm F) (hC : cRest F w (zc 16) H) : lFin (d + 11) 766 F ph w hp po := by
  obtain ⟨w', H', ph', hp', hX1, hR', e11, r1, r2⟩ := s_power (d := d) (p0 := xs ((Int32.ofInt 0 + Int32.ofInt 1).toNatClampNeg)) (p1 := xs ((Int32.ofInt 0 + Int32.ofInt 2).toNatClampNeg)) hR hF hC
  obtain ⟨hp1, hp2, hX2, ⟨fs1, h1⟩, hX3, z0, zl⟩ := r_power (d := d) (p0 := xs ((Int32.ofInt 0 + Int32.ofInt 1).toNatClampNeg)) (p1 := xs ((Int32.ofInt 0 + Int32.ofInt 2).toNatClampNeg)) hR'
  obtain ⟨fs0, h11⟩ := hR'.at11
  rw [e11] at h1 h11 hX2 hX3
  have z7 : hp2[0]? = some (.inl (0, 7, .inl xs)) := z0.trans hR'.2.1
  have h9 : ∀ (x : Nat) (a b : Int32) (hp : List xC), xs9 12 (.invokestatic 113) 3 [.int a, .int b, .ref x] hp = none := fun x a b hp => by cases x <;> rfl
  refine ⟨hp2, w'.2.2, ?_, by rw [zl]; omega, r2⟩
  refine X.run 1 rfl ?_
  refine X.run 4 rfl ?_
  refine X.ial rfl rfl hR.2.1 rfl ?_
  refine X.run 4 rfl ?_
  refine X.ial rfl rfl hR.2.1 rfl ?_
  refine X.insL rfl rfl rfl (by decide) rfl rfl (by decide) rfl rfl (h9 _ _ _ _) hX1 ?_
  refine X.run 2 rfl ?_
  refine X.run 4 rfl ?_
  refine X.ial rfl rfl hR'.2.1 rfl ?_
  refine X.run 4 rfl ?_
  refine X.ial rfl rfl hR'.2.1 rfl ?_
  refine X.inv rfl rfl rfl rfl rfl h11 rfl rfl rfl rfl hX2 ?_
  refine X.run 1 rfl ?_
  refine X.inv rfl rfl rfl rfl rfl h1 rfl rfl rfl rfl hX3 ?_
  refine X.run 1 rfl ?_
  refine X.icmp rfl rfl rfl (fun _ => ?_) (fun hc => absurd hc (by simp [xcmp]))
  refine X.run 1 rfl ?_
  exact l_end (i6 := 0) z7 _ (Or.inr (Or.inl rfl))
set_option maxRecDepth 20000 in
theorem lc_none (hR : lRy ph w H hp 7 xs po g) (hw : w.2.1 ≤ 30000 ∧ w.2.2 ≤ 1000000) : lFin (d + 11) 1334 F ph w hp po := by
  have hl : w.2.1 = hp.length := hR.1.1.2.2.2.2.2.1
  exact ⟨hp, w.2.2, l_end (i5 := 0) (i6 := 0) hR.2.1 _ (Or.inr (Or.inr rfl)), by omega, hw.2⟩
set_option maxRecDepth 20000 in
theorem x_law7 (L : Nat) (xs : Nat → Int32) (hL : L ≤ 7) : ∃ (hp' : List xC) (ks' : Nat), X 100 191 (0, [(0, .ref 0)], [], [.inl (0, L, .inl xs)], 0) (.inl (some (.int 1)), hp', ks') ∧ hp'.length - 1 ≤ 30000 ∧ ks' ≤ 1000000 := by
  obtain ⟨F, ph, w, H, hp, po, g, hR, hF, hC, hgo⟩ := l_start L xs
  have hsm : w.2.1 ≤ 30000 ∧ w.2.2 ≤ 1000000 := by
    obtain ⟨je, ⟨mp, bp, sp, hP⟩, -⟩ := hC
    have := hP.sm hF
    exact ⟨by have := this.1; omega, by have := this.2; omega⟩
  have hl : w.2.1 = hp.length := hR.1.1.2.2.2.2.2.1
  by_cases h7 : L = 7
  rotate_left
  · refine ⟨hp, w.2.2, hgo _ ?_, by omega, hsm.2⟩
    refine X.run 2 rfl ?_
    refine X.len rfl rfl hR.2.1 (by decide) ?_
    refine X.run 2 rfl ?_
    have h6 : L = 0 ∨ L = 1 ∨ L = 2 ∨ L = 3 ∨ L = 4 ∨ L = 5 ∨ L = 6 := by omega
    refine X.icmp rfl rfl rfl (fun _ => ?_) (fun hc => ?_)
    · refine X.run 1 rfl ?_
      exact X.ret (q := (xmts[191]?).get rfl) ⟨rfl, rfl, rfl, rfl⟩ rfl
    · rcases h6 with rfl | rfl | rfl | rfl | rfl | rfl | rfl
      all_goals exact absurd hc (by decide)
  subst h7
  have main : lFin 100 23 F ph w hp po := by
    have go : ∀ t, lFin 100 t F ph w hp po → (∀ x : Int32, x = (xs ((Int32.ofInt 0).toNatClampNeg) &&& (Int8.ofInt 31).toInt32) → (if x.toInt < 0 ∨ 16 < x.toInt then xj 40 1294 else match (#[84, 176, 232, 300, 380, 436, 554, 658, 726, 774, 830, 898, 966, 1034, 1114, 1182, 1238] : Array Int)[(x.toInt - 0).toNat]? with
        | some off => xj 40 off
        | none => none) = some t) → lFin 100 23 F ph w hp po := by
      intro t hfin ht
      obtain ⟨hp', ks', hX, a, b⟩ := hfin
      refine ⟨hp', ks', ?_, a, b⟩
      refine X.run 2 rfl ?_
      refine X.len rfl rfl hR.2.1 (by decide) ?_
      refine X.run 2 rfl ?_
      refine X.icmp rfl rfl rfl (fun hc => absurd hc (by decide)) (fun _ => ?_)
      refine X.run 2 rfl ?_
      refine X.ial rfl rfl hR.2.1 rfl ?_
      refine X.run 2 rfl ?_
      exact X.tsw rfl rfl rfl (ht _ rfl) hX
    obtain ⟨n, hn, hv⟩ := and31 (xs ((Int32.ofInt 0).toNatClampNeg))
    have at_ : ∀ t, lFin 100 t F ph w hp po → (if ((n : Nat) : Int) < 0 ∨ 16 < ((n : Nat) : Int) then xj 40 1294 else match (#[84, 176, 232, 300, 380, 436, 554, 658, 726, 774, 830, 898, 966, 1034, 1114, 1182, 1238] : Array Int)[(((n : Nat) : Int) - 0).toNat]? with
        | some off => xj 40 off
        | none => none) = some t → lFin 100 23 F ph w hp po := fun t h1 h2 => go t h1 fun x hx => by
      rw [hx, hv]
      exact h2
    by_cases h16 : 16 < n
    · exact at_ 1334 (lc_none (d := 89) hR hsm) (by rw [if_pos (Or.inr (by omega))]; rfl)
    have hc : n = 0 ∨ n = 1 ∨ n = 2 ∨ n = 3 ∨ n = 4 ∨ n = 5 ∨ n = 6 ∨ n = 7 ∨ n = 8 ∨ n = 9 ∨ n = 10 ∨ n = 11 ∨ n = 12 ∨ n = 13 ∨ n = 14 ∨ n = 15 ∨ n = 16 := by omega
    rcases hc with rfl | rfl | rfl | rfl | rfl | rfl | rfl | rfl | rfl | rfl | rfl | rfl | rfl | rfl | rfl | rfl | rfl
    · exact at_ 124 (lc_submit (d := 89) hR hF hC) rfl
    · exact at_ 216 (lc_fault (d := 89) hR hF hC) rfl
    · exact at_ 272 (lc_deliver (d := 89) hR hF hC) rfl
    · exact at_ 340 (lc_spread (d := 89) hR hF hC) rfl
    · exact at_ 420 (lc_expire (d := 89) hR hF hC) rfl
    · exact at_ 476 (lc_forge (d := 89) hR hF hC) rfl
    · exact at_ 594 (lc_block (d := 89) hR hF hC) rfl
    · exact at_ 698 (lc_sync (d := 89) hR hF hC) rfl
    · exact at_ 766 (lc_power (d := 89) hR hF hC) rfl
    · exact at_ 814 (lc_start (d := 89) hR hF hC) rfl
    · exact at_ 870 (lc_told (d := 89) hR hF hC) rfl
    · exact at_ 938 (lc_message (d := 89) hR hF hC) rfl
    · exact at_ 1006 (lc_of (d := 89) hR hF hC) rfl
    · exact at_ 1074 (lc_account (d := 89) hR hF hC) rfl
    · exact at_ 1154 (lc_sum (d := 89) hR hF hC) rfl
    · exact at_ 1222 (lc_follow (d := 89) hR hF hC) rfl
    · exact at_ 1278 (lc_count (d := 89) hR hF hC) rfl
  obtain ⟨hp', ks', hX, a, b⟩ := main
  exact ⟨hp', ks', hgo _ hX, a, b⟩
end TJ
