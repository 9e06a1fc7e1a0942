/-! the law: its loop -/
section TO
variable {F : cG} {L : Nat} {xs : Nat → Int32} {po a : Nat}
theorem and31 (x : Int32) : ∃ n : Nat, n < 32 ∧ (x &&& (Int8.ofInt 31).toInt32).toInt = (n : Int) := by
  refine ⟨(x &&& (Int8.ofInt 31).toInt32).toBitVec.toNat, ?_, ?_⟩
  · show (x.toBitVec &&& 31#32).toNat < 32
    rw [BitVec.toNat_and]
    exact Nat.lt_of_le_of_lt Nat.and_le_right (by decide)
  · show (x.toBitVec &&& 31#32).toInt = ((x.toBitVec &&& 31#32).toNat : Int)
    refine BitVec.toInt_eq_toNat_of_lt ?_
    rw [BitVec.toNat_and]
    have h : x.toBitVec.toNat &&& (31#32).toNat ≤ 31 := Nat.and_le_right
    omega
/-- the law's index -/
theorem lix {j : Nat} (hL : L ≤ 448) (hj : 7 * j + 7 ≤ L) (c : Int) (h0 : 0 ≤ c) (h7 : c < 7) : xin (Int32.ofInt (7 * (j : Int)) + Int32.ofInt c) L = true := by
  rw [← Int32.ofInt_add]
  exact (jin_ok (x := 7 * (j : Int) + c) (n := (L : Int)) (by omega) (by omega) (by omega)).1
theorem lgt {j : Nat} (hL : L ≤ 448) (hj : 7 * j ≤ 448) : xcmp .gt (Int32.ofInt (7 * (j : Int))) (Int32.ofNat L - (Int8.ofInt 7).toInt32) = decide ((L : Int) - 7 < 7 * (j : Int)) := by
  have e1 : Int32.ofNat L - (Int8.ofInt 7).toInt32 = Int32.ofInt ((L : Int) - 7) := by
    rw [Int32.ofInt_sub]
    rfl
  have e2 : (Int32.ofInt ((L : Int) - 7)).toInt = (L : Int) - 7 := Int32.toInt_ofInt_of_le (by omega) (by omega)
  have e3 : (Int32.ofInt (7 * (j : Int))).toInt = 7 * (j : Int) := Int32.toInt_ofInt_of_le (by omega) (by omega)
  show decide (_ < _) = _
  rw [e1]
  refine decide_eq_decide.mpr ?_
  rw [Int32.lt_iff_toInt_lt, e2, e3]
theorem lIn.room {f g' : Int → Int} {g : Nat → Int64} {C : Nat} {ph : Nat → Nat → Nat} {w : jW} {H : jH} {hp : List xC} (h : lIn F L xs po f g' g C ph w H hp) (hC : C ≤ 120000) : hp.length - 1 ≤ 600128 ∧ w.2.2 ≤ 7301098 := by
  obtain ⟨T, hT⟩ := h.1.2.2
  have hl : w.2.1 = hp.length := h.1.1.2.2.2.2.2.1
  have r1 : ((w.2.1 : Nat) : Int) - 2 * H.1 7 4 F.2.2.1 - 13 * H.1 3 1 F.2.1 - H.1 3 3 F.2.1 ≤ 2000 + (C : Int) := h.2.2.2.2.2.2.2.1
  have r2 : ((w.2.2 : Nat) : Int) - 18 * H.1 7 4 F.2.2.1 - 700 * H.1 3 1 F.2.1 - 6 * H.1 3 3 F.2.1 ≤ 500000 + 10 * (C : Int) := h.2.2.2.2.2.2.2.2
  have v1 : 0 ≤ H.1 7 4 F.2.2.1 ∧ H.1 7 4 F.2.2.1 ≤ 6000 := hT.v 7 4 _ hT.top.2.2.1
  have v2 : 1 ≤ H.1 3 1 F.2.1 ∧ H.1 3 1 F.2.1 ≤ 300 := hT.v 3 1 _ hT.top.2.1
  have v3 : 0 ≤ H.1 3 3 F.2.1 ∧ H.1 3 3 F.2.1 ≤ 1500 := hT.v 3 3 _ hT.top.2.1
  omega
set_option maxRecDepth 20000 in
theorem l_loop (hL : L ≤ 448) : ∀ (m j : Nat), 64 ≤ j + m → 7 * j ≤ L → ∀ (f : Int → Int) (g : Nat → Int64) (ph : Nat → Nat → Nat) (w : jW) (H : jH) (hp : List xC) (i : Int32) (lv : xL), lIn F L xs po f f g (1700 * j) ph w H hp → ph 11 0 = a → i = Int32.ofInt (7 * (j : Int)) → lvH F po a i lv → lFin 23 lv w hp := by
  intro m
  induction m with
  | zero =>
    intro j hm hj f g ph w H hp i lv hI e0 hi hlv
    have hr := hI.room (by omega)
    refine ⟨hp, w.2.2, ?_, hr.1, hr.2⟩
    have hg : xcmp .gt i (Int32.ofNat L - (Int8.ofInt 7).toInt32) = true := by
      rw [hi, lgt hL (by omega)]
      exact decide_eq_true (by omega)
    rcases hlv with rfl | ⟨y0, k0, rfl⟩ | ⟨k0, rfl⟩ | ⟨y0, k0, rfl⟩
    all_goals
      refine X.run 2 rfl ?_
      refine X.len rfl rfl hI.s0 (by decide) ?_
      refine X.run 2 rfl ?_
      refine X.icmp rfl rfl rfl (fun _ => ?_) (fun hc => absurd (hg.symm.trans hc) (by decide))
      refine X.run 1 rfl ?_
      exact X.ret (q := (xmts[191]?).get rfl) ⟨rfl, rfl, rfl, rfl⟩ rfl
  | succ m ih =>
    intro j hm hj f g ph w H hp i lv hI e0 hi hlv
    by_cases h7 : 7 * j + 7 ≤ L
    rotate_left
    · have hr := hI.room (by omega)
      refine ⟨hp, w.2.2, ?_, hr.1, hr.2⟩
      have hg : xcmp .gt i (Int32.ofNat L - (Int8.ofInt 7).toInt32) = true := by
        rw [hi, lgt hL (by omega)]
        exact decide_eq_true (by omega)
      rcases hlv with rfl | ⟨y0, k0, rfl⟩ | ⟨k0, rfl⟩ | ⟨y0, k0, rfl⟩
      all_goals
        refine X.run 2 rfl ?_
        refine X.len rfl rfl hI.s0 (by decide) ?_
        refine X.run 2 rfl ?_
        refine X.icmp rfl rfl rfl (fun _ => ?_) (fun hc => absurd (hg.symm.trans hc) (by decide))
        refine X.run 1 rfl ?_
        exact X.ret (q := (xmts[191]?).get rfl) ⟨rfl, rfl, rfl, rfl⟩ rfl
    have hg : xcmp .gt i (Int32.ofNat L - (Int8.ofInt 7).toInt32) = false := by
      rw [hi, lgt hL (by omega)]
      exact decide_eq_false (by omega)
    have hx : ∀ c : Int, 0 ≤ c → c < 7 → xin (i + Int32.ofInt c) L = true := by
      rw [hi]
      exact fun c h0 h1 => lix hL h7 c h0 h1
    have hx0 : xin i L = true := by
      have h9 := hx 0 (by decide) (by decide)
      rw [hi, ← Int32.ofInt_add, Int.add_zero] at h9
      rw [hi]
      exact h9
    have hgo : lGo F L xs po a i (1700 * j) := by
      intro f' g' ph' w' H' hp' lv' hI' e' h9
      have ei : i + (Int8.ofInt 7).toInt32 = Int32.ofInt (7 * ((j + 1 : Nat) : Int)) := by
        rw [hi, show (Int8.ofInt 7).toInt32 = Int32.ofInt 7 from rfl, ← Int32.ofInt_add]
        exact congrArg Int32.ofInt (by omega)
      have hI' : lIn F L xs po f' f' g' (1700 * (j + 1)) ph' w' H' hp' := by
        rw [show 1700 * (j + 1) = 1700 * j + 1700 by omega]
        exact hI'
      have go := fun lv => ih (j + 1) (by omega) (by omega) f' g' ph' w' H' hp' (i + (Int8.ofInt 7).toInt32) lv hI' e' ei
      rcases h9 with ⟨y, k, rfl⟩ | ⟨k, rfl⟩ | ⟨y, k, rfl⟩ | rfl | ⟨y, k, rfl⟩ | ⟨k, rfl⟩ | ⟨y, k, rfl⟩
      · obtain ⟨hpf, ksf, hXf, b1, b2⟩ := go _ (Or.inr (Or.inl ⟨y, k, rfl⟩))
        refine ⟨hpf, ksf, ?_, b1, b2⟩
        refine X.run 2 rfl ?_
        exact hXf
      · obtain ⟨hpf, ksf, hXf, b1, b2⟩ := go _ (Or.inr (Or.inr (Or.inl ⟨k, rfl⟩)))
        refine ⟨hpf, ksf, ?_, b1, b2⟩
        refine X.run 2 rfl ?_
        exact hXf
      · obtain ⟨hpf, ksf, hXf, b1, b2⟩ := go _ (Or.inr (Or.inr (Or.inr ⟨y, k, rfl⟩)))
        refine ⟨hpf, ksf, ?_, b1, b2⟩
        refine X.run 2 rfl ?_
        exact hXf
      · obtain ⟨hpf, ksf, hXf, b1, b2⟩ := go _ (Or.inl rfl)
        refine ⟨hpf, ksf, ?_, b1, b2⟩
        refine X.run 2 rfl ?_
        exact hXf
      · obtain ⟨hpf, ksf, hXf, b1, b2⟩ := go _ (Or.inr (Or.inl ⟨y, k, rfl⟩))
        refine ⟨hpf, ksf, ?_, b1, b2⟩
        refine X.run 2 rfl ?_
        exact hXf
      · obtain ⟨hpf, ksf, hXf, b1, b2⟩ := go _ (Or.inr (Or.inr (Or.inl ⟨k, rfl⟩)))
        refine ⟨hpf, ksf, ?_, b1, b2⟩
        refine X.run 2 rfl ?_
        exact hXf
      · obtain ⟨hpf, ksf, hXf, b1, b2⟩ := go _ (Or.inr (Or.inr (Or.inr ⟨y, k, rfl⟩)))
        refine ⟨hpf, ksf, ?_, b1, b2⟩
        refine X.run 2 rfl ?_
        exact hXf
    obtain ⟨n, hn, hv⟩ := and31 (xs (i.toNatClampNeg))
    have at_ : ∀ t, lFin t lv w hp → (if ((n : Nat) : Int) < 0 ∨ 16 < ((n : Nat) : Int) then xj 40 846 else match (#[84, 148, 176, 216, 268, 296, 386, 462, 502, 550, 578, 618, 658, 698, 750, 790, 818] : Array Int)[(((n : Nat) : Int) - 0).toNat]? with
        | some off => xj 40 off
        | none => none) = some t → lFin 23 lv w hp := by
      intro t hfin ht
      obtain ⟨hp', ks', hX, b1, b2⟩ := hfin
      refine ⟨hp', ks', ?_, b1, b2⟩
      have ht' : (if (xs (i.toNatClampNeg) &&& (Int8.ofInt 31).toInt32).toInt < 0 ∨ 16 < (xs (i.toNatClampNeg) &&& (Int8.ofInt 31).toInt32).toInt then xj 40 846 else match (#[84, 148, 176, 216, 268, 296, 386, 462, 502, 550, 578, 618, 658, 698, 750, 790, 818] : Array Int)[((xs (i.toNatClampNeg) &&& (Int8.ofInt 31).toInt32).toInt - 0).toNat]? with
        | some off => xj 40 off
        | none => none) = some t := by
        rw [hv]
        exact ht
      rcases hlv with rfl | ⟨y0, k0, rfl⟩ | ⟨k0, rfl⟩ | ⟨y0, k0, rfl⟩
      all_goals
        refine X.run 2 rfl ?_
        refine X.len rfl rfl hI.s0 (by decide) ?_
        refine X.run 2 rfl ?_
        refine X.icmp rfl rfl rfl (fun hc => absurd (hg.symm.trans hc) (by decide)) (fun _ => ?_)
        refine X.run 2 rfl ?_
        refine X.ial rfl rfl hI.s0 hx0 ?_
        refine X.run 2 rfl ?_
        exact X.tsw rfl rfl rfl ht' hX
    by_cases h16 : 16 < n
    · obtain ⟨hpf, ksf, hXf, b1, b2⟩ := hgo f g ph w H hp lv ⟨hI.1, hI.2.1, hI.2.2.1, hI.2.2.2.1, hI.2.2.2.2.1, hI.2.2.2.2.2.1, hI.2.2.2.2.2.2.1, by have := hI.2.2.2.2.2.2.2.1; omega, by have := hI.2.2.2.2.2.2.2.2; omega⟩ e0 (Or.inr (Or.inr (Or.inr hlv)))
      exact at_ 886 ⟨hpf, ksf, hXf, b1, b2⟩ (by rw [if_pos (Or.inr (by omega))]; rfl)
    have hc : n = 0 ∨ n = 1 ∨ n = 2 ∨ n = 3 ∨ n = 4 ∨ n = 5 ∨ n = 6 ∨ n = 7 ∨ n = 8 ∨ n = 9 ∨ n = 10 ∨ n = 11 ∨ n = 12 ∨ n = 13 ∨ n = 14 ∨ n = 15 ∨ n = 16 := by omega
    rcases hc with rfl | rfl | rfl | rfl | rfl | rfl | rfl | rfl | rfl | rfl | rfl | rfl | rfl | rfl | rfl | rfl | rfl
    · exact at_ 124 (lc_submit hI e0 hx hgo hlv) rfl
    · exact at_ 188 (lc_fault hI e0 hx hgo hlv) rfl
    · exact at_ 216 (lc_deliver hI e0 hx hgo hlv) rfl
    · exact at_ 256 (lc_spread hI e0 hx hgo hlv) rfl
    · exact at_ 308 (lc_expire hI e0 hx hgo hlv) rfl
    · exact at_ 336 (lc_forge hI e0 hx hgo hlv) rfl
    · exact at_ 426 (lc_block hI e0 hx hgo hlv) rfl
    · exact at_ 502 (lc_sync hI e0 hx hgo hlv) rfl
    · exact at_ 542 (lc_power hI e0 hx hgo hlv) rfl
    · exact at_ 590 (lc_start hI e0 hx hgo hlv) rfl
    · exact at_ 618 (lc_told hI e0 hx hgo hlv) rfl
    · exact at_ 658 (lc_message hI e0 hx hgo hlv) rfl
    · exact at_ 698 (lc_of hI e0 hx hgo hlv) rfl
    · exact at_ 738 (lc_account hI e0 hx hgo hlv) rfl
    · exact at_ 790 (lc_sum hI e0 hx hgo hlv) rfl
    · exact at_ 830 (lc_follow hI e0 hx hgo hlv) rfl
    · exact at_ 858 (lc_count hI e0 hx hgo hlv) rfl
end TO
