section ZS
theorem zM_send (z : zT) (n kd : Nat) : zM z ≤ zM (zsend z n kd) := by
  unfold zsend
  split
  · exact Nat.le_refl _
  · show z.1 ≤ z.1 + 1
    omega
theorem zM_begin (z : zT) (n : Nat) : zM z ≤ zM (zbegin z n) := by
  unfold zbegin
  split
  · exact zM_send (z.1, z.2.1, z.2.2.1 + 1, va_up z.2.2.2 n (nh z n, 0, 0, nr z n, nK z n)) n 0
  · exact Nat.le_refl _
theorem zM_move {z z' : zT} {n : Nat} (h : zmove z n = some z') : zM z ≤ zM z' := by
  unfold zmove at h
  split at h
  · cases h
    exact zM_begin (zN z n (nh z n + 1, ns z n, ne z n, 0, nK z n)) n
  · split at h
    · cases h
      exact zM_send (zst z n 1 (ne z n)) n 1
    · split at h
      · cases h
        split
        · exact zM_send (zst z n 2 1) n 2
        · exact Nat.le_refl _
      · cases h
theorem zM_act (n : Nat) : ∀ (f : Nat) (z : zT), zM z ≤ zM (zact f z n)
  | 0, z => Nat.le_refl _
  | f + 1, z => by
    unfold zact
    split
    · split
      · rename_i z' hz
        exact Nat.le_trans (zM_move hz) (zM_act n f z')
      · exact Nat.le_refl _
    · exact Nat.le_refl _
theorem zM_came (z : zT) (m n : Nat) : zM z ≤ zM (zcame z m n) := by
  unfold zcame
  split
  · exact Nat.le_refl _
  · exact zM_act n 500 (zknow z n m)
/-- bit n of a mask -/
def mb (mask : Int) (n : Nat) : Bool := (Int32.ofInt mask).toBitVec.getLsbD n
/-- MESSAGE m comes to the first k NODES of the mask -/
def zrow (mask : Int) (m : Nat) : Nat → zT → zT
  | 0, z => z
  | k + 1, z => if mb mask k = true then zcame (zrow mask m k z) m k else zrow mask m k z
theorem zM_row (mask : Int) (m : Nat) : ∀ (k : Nat) (z : zT), zM z ≤ zM (zrow mask m k z)
  | 0, z => Nat.le_refl _
  | k + 1, z => by
    unfold zrow
    split
    · exact Nat.le_trans (zM_row mask m k z) (zM_came _ m k)
    · exact zM_row mask m k z
theorem zInv.row {z : zT} (h : zInv z) (mask : Int) {m : Nat} (hm : m < zM z) : ∀ k : Nat, k ≤ 16 → zInv (zrow mask m k z)
  | 0, _ => h
  | k + 1, hk => by
    unfold zrow
    have ih := h.row mask hm k (by omega)
    split
    · exact ih.came (by omega) (Nat.lt_of_lt_of_le hm (zM_row mask m k z))
    · exact ih
/-- spread: how many came, and what stands then -/
def zspr (mask : Int) (m : Nat) : Nat → Nat → zT → Nat × zT
  | 0, k, z => (k, z)
  | f + 1, k, z => if m + k < zM z then zspr mask m f (k + 1) (zrow mask (m + k) 16 z) else (k, z)
theorem mb_or (x y : Int) (k : Nat) : mb (jor x y) k = (mb x k || mb y k) := by
  unfold mb jor
  rw [Int32.ofInt_toInt]
  show (((Int32.ofInt x).toBitVec ||| (Int32.ofInt y).toBitVec)).getLsbD k = _
  rw [BitVec.getLsbD_or]
set_option maxRecDepth 20000 in
theorem mb_shl_all : ((List.range 32).all fun s => (List.range 32).all fun k => decide (mb (jshl 1 (s : Nat)) k = decide (k = s))) = true := by decide +kernel
theorem mb_shl {s k : Nat} (hs : s < 32) (hk : k < 32) : mb (jshl 1 s) k = decide (k = s) := of_decide_eq_true (List.all_eq_true.mp (List.all_eq_true.mp mb_shl_all s (List.mem_range.mpr hs)) k (List.mem_range.mpr hk))
theorem and1_ushr (v : BitVec 32) (s : Nat) : (v >>> s) &&& 1#32 = if v.getLsbD s = true then 1#32 else 0#32 := by
  apply BitVec.eq_of_getLsbD_eq
  intro j hj
  rw [BitVec.getLsbD_and, BitVec.getLsbD_ushiftRight, BitVec.getLsbD_one]
  by_cases h0 : j = 0
  · subst h0
    cases h : v.getLsbD s <;> simp [h]
  · have h9 : (decide (0 < 32) && decide (j = 0)) = false := by simp [h0]
    rw [h9, Bool.and_false]
    split
    · rw [BitVec.getLsbD_one, h9]
    · simp
theorem and1_sshr (v : BitVec 32) {s : Nat} (hs : s < 32) : (v.sshiftRight s) &&& 1#32 = if v.getLsbD s = true then 1#32 else 0#32 := by
  apply BitVec.eq_of_getLsbD_eq
  intro j hj
  rw [BitVec.getLsbD_and, BitVec.getLsbD_sshiftRight, BitVec.getLsbD_one]
  by_cases h0 : j = 0
  · subst h0
    cases h : v.getLsbD s <;> simp [h, hs]
  · have h9 : (decide (0 < 32) && decide (j = 0)) = false := by simp [h0]
    rw [h9, Bool.and_false]
    split
    · rw [BitVec.getLsbD_one, h9]
    · simp
set_option maxRecDepth 20000 in
theorem jsh_all : ((List.range 32).all fun s => decide (((Int32.ofInt (s : Nat)).toUInt32 &&& Int32.toUInt32 31) = UInt32.ofNat s ∧ (UInt32.ofNat s).toBitVec % 32#32 = BitVec.ofNat 32 s ∧ (Int32.ofInt (s : Nat) &&& 31).toBitVec.smod 32#32 = BitVec.ofNat 32 s)) = true := by decide +kernel
theorem jsh_at {s : Nat} (hs : s < 32) : ((Int32.ofInt (s : Nat)).toUInt32 &&& Int32.toUInt32 31) = UInt32.ofNat s ∧ (UInt32.ofNat s).toBitVec % 32#32 = BitVec.ofNat 32 s ∧ (Int32.ofInt (s : Nat) &&& 31).toBitVec.smod 32#32 = BitVec.ofNat 32 s := of_decide_eq_true (List.all_eq_true.mp jsh_all s (List.mem_range.mpr hs))
theorem mb_ushr (x : Int) {s : Nat} (hs : s < 32) : jand (jushr x s) 1 = if mb x s = true then 1 else 0 := by
  have h := jsh_at hs
  unfold jand jushr mb
  rw [Int32.ofInt_toInt, h.1]
  generalize Int32.ofInt x = y
  have e : ((y.toUInt32 >>> UInt32.ofNat s).toInt32 &&& Int32.ofInt 1) = if y.toBitVec.getLsbD s = true then Int32.ofInt 1 else Int32.ofInt 0 := by
    apply Int32.toBitVec.inj
    show (y.toBitVec >>> ((UInt32.ofNat s).toBitVec % 32#32)) &&& 1#32 = _
    rw [h.2.1, BitVec.ushiftRight_eq', BitVec.toNat_ofNat, Nat.mod_eq_of_lt (by omega), and1_ushr]
    split <;> rfl
  rw [e]
  split <;> rfl
theorem mb_shr (x : Int) {s : Nat} (hs : s < 32) : jand (jshr x s) 1 = if mb x s = true then 1 else 0 := by
  have h := jsh_at hs
  unfold jand jshr mb
  rw [Int32.ofInt_toInt]
  generalize Int32.ofInt x = y
  have e : ((y >>> (Int32.ofInt (s : Nat) &&& 31)) &&& Int32.ofInt 1) = if y.toBitVec.getLsbD s = true then Int32.ofInt 1 else Int32.ofInt 0 := by
    apply Int32.toBitVec.inj
    show (y.toBitVec.sshiftRight' ((Int32.ofInt (s : Nat) &&& 31).toBitVec.smod 32#32)) &&& 1#32 = _
    rw [h.2.2]
    show (y.toBitVec.sshiftRight (BitVec.ofNat 32 s).toNat) &&& 1#32 = _
    rw [BitVec.toNat_ofNat, Nat.mod_eq_of_lt (by omega), and1_sshr _ hs]
    split <;> rfl
  rw [e]
  split <;> rfl
theorem jidx {i : Nat} (hi : i < 6000) : jushr i 5 = ((i / 32 : Nat) : Int) ∧ jand i 31 = ((i % 32 : Nat) : Int) := by
  have h := jsh_at (s := 5) (by omega)
  have two : (2 : Nat) ^ 32 = 4294967296 := by decide
  have lo : Int32.minValue.toInt ≤ -1 := by decide
  have hi9 : (6000 : Int) ≤ Int32.maxValue.toInt := by decide
  refine ⟨?_, ?_⟩
  · unfold jushr
    rw [show Int32.ofInt 5 = Int32.ofInt ((5 : Nat) : Int) from rfl, h.1]
    have e : ((Int32.ofInt (i : Int)).toUInt32 >>> UInt32.ofNat 5).toInt32 = Int32.ofInt ((i / 32 : Nat) : Int) := by
      apply Int32.toBitVec.inj
      show (BitVec.ofInt 32 (i : Int)) >>> ((UInt32.ofNat 5).toBitVec % 32#32) = BitVec.ofInt 32 ((i / 32 : Nat) : Int)
      rw [h.2.1, BitVec.ushiftRight_eq', BitVec.ofInt_natCast, BitVec.ofInt_natCast]
      apply BitVec.eq_of_toNat_eq
      rw [BitVec.toNat_ushiftRight, BitVec.toNat_ofNat, BitVec.toNat_ofNat, BitVec.toNat_ofNat, Nat.shiftRight_eq_div_pow, show (5 : Nat) % 2 ^ 32 = 5 by decide, show (2 : Nat) ^ 5 = 32 by decide]
      omega
    rw [e, Int32.toInt_ofInt_of_le (by omega) (by omega)]
  · unfold jand
    have e : (Int32.ofInt (i : Int) &&& Int32.ofInt 31) = Int32.ofInt ((i % 32 : Nat) : Int) := by
      apply Int32.toBitVec.inj
      show (BitVec.ofInt 32 (i : Int)) &&& (BitVec.ofNat 32 31) = BitVec.ofInt 32 ((i % 32 : Nat) : Int)
      rw [BitVec.ofInt_natCast, BitVec.ofInt_natCast]
      apply BitVec.eq_of_toNat_eq
      rw [BitVec.toNat_and, BitVec.toNat_ofNat, BitVec.toNat_ofNat, BitVec.toNat_ofNat]
      have h5 := Nat.and_two_pow_sub_one_eq_mod (i % 2 ^ 32) 5
      rw [show (31 : Nat) % 2 ^ 32 = 2 ^ 5 - 1 by decide, h5]
      omega
    rw [e, Int32.toInt_ofInt_of_le (by omega) (by omega)]
end ZS
