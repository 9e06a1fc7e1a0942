/-! SOUND: the first BLOCK is -/
section GZ
def gZ (H : jH) : Prop := H.2.2.1 61 0 0 = 1
theorem gZ.ex {fs ks : List Nat} {H H1 : jH} (h : gZ H) (hE : jEx fs ks H1 H) (hk : 61 ∉ ks) : gZ H1 := by
  unfold gZ at h ⊢
  rw [hE.r 61 hk]
  exact h
theorem jand01 {x y : Int} (h1 : 0 ≤ x ∧ x ≤ 1) (h2 : 0 ≤ y ∧ y ≤ 1) : 0 ≤ jand x y ∧ jand x y ≤ 1 := by
  have hx : x = 0 ∨ x = 1 := by omega
  have hy : y = 0 ∨ y = 1 := by omega
  rcases hx with rfl | rfl <;> rcases hy with rfl | rfl <;> decide
theorem jand1 (x : Int) : 0 ≤ jand x 1 ∧ jand x 1 ≤ 1 := by
  unfold jand
  generalize Int32.ofInt x = y
  have e : (y &&& Int32.ofInt 1) = if y.toBitVec.getLsbD 0 = true then Int32.ofInt 1 else Int32.ofInt 0 := by
    apply Int32.toBitVec.inj
    show y.toBitVec &&& 1#32 = _
    have h := and1_ushr y.toBitVec 0
    rw [BitVec.ushiftRight_zero] at h
    rw [h]
    split <;> rfl
  rw [e]
  split <;> decide
end GZ
