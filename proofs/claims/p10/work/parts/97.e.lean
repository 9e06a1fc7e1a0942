/-! switches; the picture of a new object in numbers; how calls end -/
section SK
variable {d k pc : Nat} {q : xMt} {lv : xL} {st : List Value} {hp : List xC} {ks : Nat} {r : xO × List xC × Nat}
theorem X.tsw {x : Int32} {dd lo hi : Int} {offs : Array Int} {len t : Nat} (hq : xmts[k]? = some q) (hi' : xat k pc = some (.tableswitch dd lo hi offs, len)) (hn : Nat.beq len 1 = false) (ht : (if x.toInt < lo ∨ hi < x.toInt then xj pc dd else match offs[(x.toInt - lo).toNat]? with
    | some off => xj pc off
    | none => none) = some t) (hx : X d k (t, lv, st, hp, ks) r) : X d k (pc, lv, .int x :: st, hp, ks) r := by
  refine X.one ?_ hx
  have hn' : ¬ len = 1 := fun z => by rw [z] at hn; cases hn
  have h5 : xs5 (.tableswitch dd lo hi offs) len pc (Value.int x :: st) = some (t, st) := by
    simp only [xs5]
    split at ht
    · rename_i h
      rw [if_pos h, ht]
      rfl
    · rename_i h
      rw [if_neg h]
      split at ht
      · rename_i off e
        rw [e]
        try dsimp only
        rw [ht]
        rfl
      · cases ht
  simp only [xst, hq, hi', xs, xs1, xs6, h5, hn', if_false]
end SK
section SL
variable {b : Bool} {d : Nat} {w : jW} {H : jH}
theorem J.tsw {k pc t len : Nat} {q : xMt} {lv : jL} {st : List jV} {x dd lo hi : Int} {offs : Array Int} {Post : jO → jW → jH → Prop} (hq : xmts[k]? = some q) (hi' : xat k pc = some (.tableswitch dd lo hi offs, len)) (hn : Nat.beq len 1 = false) (hx : jR x) (ht : (if x < lo ∨ hi < x then xj pc dd else match offs[(x - lo).toNat]? with
    | some off => xj pc off
    | none => none) = some t) (h : J b d k w (t, lv, st, H) Post) : J b d k w (pc, lv, .inl x :: st, H) Post := by
  intro ph hp hR
  obtain ⟨o, w', H', ph', hp', hX, h2, h3, h4, h5⟩ := h ph hp hR
  have e : (Int32.ofInt x).toInt = x := Int32.toInt_ofInt_of_le (by have := hx.1; omega) (by have := hx.2; omega)
  exact ⟨o, w', H', ph', hp', X.tsw hq hi' hn (by rw [e]; exact ht) hX, h2, h3, h4, h5⟩
/-- how a call of the class ends: k is what the law makes of it, c what it throws, a what it answers -/
def cOut (H : jH) (k : Int) (c : Nat) (a : Int) : jO → jW → jH → Prop := fun o w' H' => jCl H' H ∧ ((k = 0 ∧ o = .inl (some (.inl a))) ∨ (k ≠ 0 ∧ o = .inr c)) ∧ w'.2.1 ≤ 30000 ∧ w'.2.2 ≤ 1000000
def rOut (w : jW) (k a : Int) : Option jV → jW → jH → Prop := fun r w' H' => w' = w ∧ H'.1 11 47 0 = k ∧ ∃ y, r = some (.inl y) ∧ (k = 0 → y = a)
abbrev wSm (w : jW) : Prop := w.2.1 ≤ 20000 ∧ w.2.2 ≤ 920000
theorem c_thr {K pc ix c : Nat} {q : xMt} {lv : jL} {k a : Int} (hw : wSm w) (hk : k ≠ 0) (hq : xmts[K]? = some q) (hi : xat K pc = some (.new ix, 3)) (hl : xlk xnws q.1 ix = none) (ht : xthr K pc = some c) : J b d K w (pc, lv, [], H) (cOut H k c a) :=
  J.thr hq hi hl ht ⟨jCl.refl _, Or.inr ⟨hk, rfl⟩, by show w.2.1 + 1 ≤ 30000; have := hw.1; omega, by show w.2.2 + 6 ≤ 1000000; have := hw.2; omega⟩
/-- an answer that changes nothing of the reference's -/
theorem cOut.ok {w' : jW} {H' : jH} {c : Nat} {a : Int} (hw : wSm w') (hC : jCl H' H) : cOut H 0 c a (.inl (some (.inl a))) w' H' := ⟨hC, Or.inl ⟨rfl, rfl⟩, by have := hw.1; omega, by have := hw.2; omega⟩
theorem rEnd.out {ans : Option Int} {k a : Int} {r : Option jV} {w' : jW} {H' : jH} (h : rEnd w ans k r w' H') (ha : k = 0 → ans = some a) : rOut w k a r w' H' := by
  obtain ⟨h1, h2, y, h3, h4⟩ := h
  exact ⟨h1, h2, y, h3, fun hk => h4 a (ha hk)⟩
theorem j_thrown : J true d 114 w (0, jargs 0 [jT], [], H) (jN fun r w' H' => r = some (.inl (H.1 11 47 0)) ∧ w' = w ∧ H' = H) := by
  refine J.run0 2 rfl ?_
  try dsimp only
  exact J.reti rfl rfl rfl ⟨_, rfl, rfl, rfl, rfl⟩
set_option maxRecDepth 20000 in
/-- the reference looks at its own rows alone -/
theorem rInv.cl {z : zT} {H' : jH} (h : rInv z H) (hC : jCl H' H) : rInv z H' := by
  obtain ⟨c1, c2, -⟩ := hC
  have hE : jEx [] [] (H.1, H.2.1, H.2.2.1, H.2.2.2) H := jEx.refl _ _ _
  unfold rInv rMsg rBlk rNod rNd rB rLed mPow at h ⊢
  rw [c1]
  simp only [c2 63 (by decide), c2 64 (by decide), c2 65 (by decide), c2 66 (by decide), c2 67 (by decide), c2 68 (by decide), c2 56 (by decide), c2 55 (by decide), c2 58 (by decide), c2 60 (by decide), c2 61 (by decide), c2 57 (by decide), c2 99 (by decide), c2 100 (by decide), c2 101 (by decide), c2 105 (by decide), c2 72 (by decide), c2 73 (by decide), c2 74 (by decide), c2 75 (by decide), c2 76 (by decide), c2 77 (by decide), c2 78 (by decide), c2 84 (by decide), c2 79 (by decide), c2 80 (by decide), c2 82 (by decide), c2 83 (by decide), c2 115 (by decide), c2 71 (by decide), c2 70 (by decide), c2 114 (by decide), c2 111 (by decide), c2 110 (by decide), c2 113 (by decide), c2 112 (by decide)]
  exact h
end SL
section SM
/-- two MESSAGES of NODE 1, which has sent them; the others know and did nothing -/
def zE (z : zT) : Prop := z.1 = 2 ∧ z.2.1 0 = (0, 1, 1) ∧ z.2.1 1 = (1, 1, 1) ∧ z.2.2.1 = 2 ∧ ∀ n, z.2.2.2 n = if n = 1 then (1, 1, 0, 2, [0, 1]) else (1, 0, 0, 0, [])
theorem zE_2 : zE (zc 2) := by
  refine ⟨by decide +kernel, by decide +kernel, by decide +kernel, by decide +kernel, fun n => ?_⟩
  by_cases h1 : n = 1
  · subst h1
    rw [if_pos rfl]
    decide +kernel
  · rw [if_neg h1]
    show (zact 500 (zbegin (zc 1) 1) 1).2.2.2 n = _
    rw [zact_oth 1 n h1, zbegin_oth (zc 1) 1 n h1, zc_1, zb_0]
    by_cases h0 : n = 0
    · subst h0; rfl
    · rw [zst_oth zfresh 0 0 0 n h0]
      rfl
theorem zE_s {i : Nat} (hi : 2 ≤ i) (h : zE (zc i)) : zE (zc (i + 1)) := by
  have h9 := zc_hi i i (Nat.le_refl _)
  have e1 : zbegin (zc i) i = zst (zc i) i 0 0 := by
    unfold zbegin
    refine if_neg fun z => ?_
    have h2 := z.2.1
    unfold nh at h2
    rw [h9] at h2
    have e : zP 1 = 1 := by decide
    have h3 : zP 1 = i := h2
    omega
  have e2 : zmove (zst (zc i) i 0 0) i = none := by
    have hp : zprop (zst (zc i) i 0 0) i = false := by
      unfold zprop nK zst
      rw [zN_at]
      unfold nK
      rw [h9]
      rfl
    rw [zmove_none]
    refine ⟨fun z => ?_, fun z => ?_, fun z => ?_⟩
    · rw [hp] at z; cases z.1
    · rw [hp] at z; cases z.1
    · have := z.1; rw [hp] at this; cases this
  show zE (zact 500 (zbegin (zc i) i) i)
  rw [e1, zact_none e2]
  obtain ⟨a1, a2, a3, a4, a5⟩ := h
  refine ⟨a1, a2, a3, a4, fun n => ?_⟩
  by_cases hn : n = i
  · subst hn
    unfold zst
    rw [zN_at]
    unfold nh nr nK
    rw [h9, if_neg (by omega)]
  · rw [zst_oth (zc i) i 0 0 n hn]
    exact a5 n
theorem zE_16 : zE (zc 16) := by
  have h : ∀ m : Nat, zE (zc (m + 2)) := fun m => by
    induction m with
    | zero => exact zE_2
    | succ m ih => exact zE_s (by omega) ih
  exact h 14
theorem zM16 : zM (zc 16) = 2 := zE_16.1
theorem zB16 : zB (zc 16) = 2 := zE_16.2.2.2.1
abbrev v16 (n : Nat) : zV := if n = 1 then (1, 1, 0, 2, [0, 1]) else (1, 0, 0, 0, [])
theorem zN16 (n : Nat) : (zc 16).2.2.2 n = v16 n := zE_16.2.2.2.2 n
theorem v16_h (n : Nat) : (v16 n).1 = 1 := by
  unfold v16
  split <;> rfl
theorem v16_e (n : Nat) : (v16 n).2.2.1 = 0 := by
  unfold v16
  split <;> rfl
theorem zh16 (n : Nat) : nh (zc 16) n = 1 := by
  unfold nh
  rw [zN16]
  exact v16_h n
end SM
