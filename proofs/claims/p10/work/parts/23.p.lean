/-- StakeChainModel.powerOf: the sum of a node's bonds -/
def psum (f : Nat → Int32) (n : Nat) : Nat → Int32
  | 0 => 0
  | a + 1 => psum f n a + f (16 * a + n)
theorem xin_nI {j N : Nat} (h : j < N) (hN : N < 2 ^ 31) : xin (nI j) N = true := by
  have h1 := vp_in_nI h hN
  unfold vp_in at h1
  unfold xin
  simp only [Bool.not_eq_true', Bool.or_eq_false_iff, decide_eq_false_iff_not]
  exact ⟨fun z => h1 (Or.inl z), fun z => h1 (Or.inr z)⟩
theorem xp_loop {d : Nat} {hp : List xC} {ks a pb n : Nat} {fs : List Value} {fb : Nat → Int32} (ha : hp[a]? = some (.inr (11, fs))) (hb : fs[50]? = some (.ref pb)) (hpb : hp[pb]? = some (.inl (0, 3200, .inl fb))) (hn : n < 16) :
    ∀ (m i : Nat), i + m = 200 → X d 117 (15, [(3, .int (nI i)), (2, .int (psum fb n i)), (0, .ref a), (1, .int (nI n))], [], hp, ks) (.inl (some (.int (psum fb n 200))), hp, ks) := by
  intro m
  induction m with
  | zero =>
    intro i hi
    obtain rfl : i = 200 := by omega
    refine X.run 3 rfl ?_
    refine X.run 1 rfl ?_
    exact X.ret (q := (xmts[117]?).get rfl) ⟨rfl, rfl, rfl, rfl⟩ rfl
  | succ m ih =>
    intro i hi
    have hlt : ¬ (nI 200 ≤ nI i) := nI_ge (by omega) (by decide)
    refine X.run 2 rfl ?_
    refine X.icmp rfl rfl rfl (fun hc => ?_) (fun _ => ?_)
    · exact absurd (of_decide_eq_true hc) hlt
    refine X.run 2 rfl ?_
    refine X.gf rfl rfl rfl ha hb ?_
    refine X.run 5 rfl ?_
    have hix : Int32.ofInt 16 * nI i + nI n = nI (16 * i + n) := by
      show nI 16 * nI i + nI n = _
      rw [pk_mul, nI_add]
    have hin : 16 * i + n < 3200 := by omega
    refine X.ial (f := fb) (n := 3200) rfl rfl hpb ?_ ?_
    · show xin (Int32.ofInt 16 * nI i + nI n) 3200 = true
      rw [hix]
      exact xin_nI hin (by decide)
    refine X.run 4 rfl ?_
    have h9 := ih (i + 1) (by omega)
    have e1 : nI i + 1 = nI (i + 1) := nI_1 i
    have e2 : psum fb n i + fb (Int32.ofInt 16 * nI i + nI n).toNatClampNeg = psum fb n (i + 1) := by
      rw [hix, nI_clamp (by omega)]
      rfl
    rw [← e1, ← e2] at h9
    exact h9
theorem X_powerOf {d : Nat} {hp : List xC} {ks a pj pb n : Nat} {fs : List Value} {fj fb : Nat → Int32} (ha : hp[a]? = some (.inr (11, fs))) (hj : fs[55]? = some (.ref pj)) (hb : fs[50]? = some (.ref pb)) (hpj : hp[pj]? = some (.inl (1, 16, .inl fj))) (hpb : hp[pb]? = some (.inl (0, 3200, .inl fb))) (hn : n < 16) :
    X d 117 (0, [(0, .ref a), (1, .int (nI n))], [], hp, ks) (.inl (some (.int (if fj n = 0 then psum fb n 200 else 0))), hp, ks) := by
  refine X.run 3 rfl ?_
  refine X.gf rfl rfl rfl ha hj ?_
  refine X.run 1 rfl ?_
  refine X.bal (f := fj) (n := 16) rfl rfl hpj (xin_nI hn (by decide)) ?_
  have e : (nI n).toNatClampNeg = n := nI_clamp (by omega)
  rw [e]
  refine X.ifc rfl rfl rfl (fun hc => ?_) (fun hc => ?_)
  · have h0 : fj n = 0 := of_decide_eq_true hc
    rw [if_pos h0]
    refine X.run 2 rfl ?_
    exact xp_loop ha hb hpb hn 200 0 rfl
  · have h0 : ¬ fj n = 0 := of_decide_eq_false hc
    rw [if_neg h0]
    refine X.run 1 rfl ?_
    exact X.ret (q := (xmts[117]?).get rfl) ⟨rfl, rfl, rfl, rfl⟩ rfl
