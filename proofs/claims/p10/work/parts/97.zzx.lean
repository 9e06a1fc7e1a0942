/-! the law's cases (printed by gen_law.py) -/
/-- the law's locals at its loop's head -/
def lvH (F : cG) (po a : Nat) (i : Int32) (lv : xL) : Prop :=
  lv = [(4, .int i), (3, .ref (po + 1)), (2, .ref a), (1, .ref F.1), (0, .ref 0)] ∨ (∃ y k : Int32, lv = [(4, .int i), (6, .int y), (5, .int k), (3, .ref (po + 1)), (2, .ref a), (1, .ref F.1), (0, .ref 0)]) ∨ (∃ k : Int32, lv = [(4, .int i), (5, .int k), (3, .ref (po + 1)), (2, .ref a), (1, .ref F.1), (0, .ref 0)]) ∨ (∃ y k : Int32, lv = [(4, .int i), (5, .int k), (6, .int y), (3, .ref (po + 1)), (2, .ref a), (1, .ref F.1), (0, .ref 0)])
/-- behind a case -/
def lv9 (F : cG) (po a : Nat) (i : Int32) (lv : xL) : Prop :=
  (∃ y k : Int32, lv = [(6, .int y), (5, .int k), (4, .int i), (3, .ref (po + 1)), (2, .ref a), (1, .ref F.1), (0, .ref 0)]) ∨ (∃ k : Int32, lv = [(5, .int k), (4, .int i), (3, .ref (po + 1)), (2, .ref a), (1, .ref F.1), (0, .ref 0)]) ∨ (∃ y k : Int32, lv = [(5, .int k), (4, .int i), (6, .int y), (3, .ref (po + 1)), (2, .ref a), (1, .ref F.1), (0, .ref 0)]) ∨ lvH F po a i lv
def lFin (pc : Nat) (lv : xL) (w : jW) (hp : List xC) : Prop := ∃ (hp' : List xC) (ks' : Nat), X 650 191 (pc, lv, [], hp, w.2.2) (.inl (some (.int 1)), hp', ks') ∧ hp'.length - 1 ≤ 600128 ∧ ks' ≤ 7301098
/-- how it goes on behind a case -/
def lGo (F : cG) (L : Nat) (xs : Nat → Int32) (po a : Nat) (i : Int32) (C : Nat) : Prop := ∀ (f : Int → Int) (g : Nat → Int64) (ph : Nat → Nat → Nat) (w : jW) (H : jH) (hp : List xC) (lv : xL), lIn F L xs po f f g (C + 1700) ph w H hp → ph 11 0 = a → lv9 F po a i lv → lFin 886 lv w hp
-- M: lc_submit
section TN
variable {ph : Nat → Nat → Nat} {w : jW} {H : jH} {hp : List xC} {F : cG} {L : Nat} {xs : Nat → Int32} {po : Nat} {f : Int → Int} {g : Nat → Int64} {C : Nat} {i : Int32} {a : Nat}
set_option maxRecDepth 20000 in
theorem lc_submit (hI : lIn F L xs po f f g C ph w H hp) (e0 : ph 11 0 = a) (hx : ∀ c : Int, 0 ≤ c → c < 7 → xin (i + Int32.ofInt c) L = true) (hgo : lGo F L xs po a i C) {lv : xL} (hlv : lvH F po a i lv) : lFin 124 lv w hp := by
  obtain ⟨k, w', H', ph', hp', g', hX1, hI', e11⟩ := s_submit (p0 := xs ((i + Int32.ofInt 1).toNatClampNeg)) (p1 := xs ((i + Int32.ofInt 2).toNatClampNeg)) (p2 := xs ((i + Int32.ofInt 3).toNatClampNeg)) (p3 := xs ((i + Int32.ofInt 4).toNatClampNeg)) hI
  obtain ⟨y, H2, hp2, hX2, hI2⟩ := r_submit (p0 := xs ((i + Int32.ofInt 1).toNatClampNeg)) (p1 := xs ((i + Int32.ofInt 2).toNatClampNeg)) (p2 := xs ((i + Int32.ofInt 3).toNatClampNeg)) (p3 := xs ((i + Int32.ofInt 4).toNatClampNeg)) hI'
  obtain ⟨fs0, h11⟩ := hI'.at11
  have e1 := e11.trans e0
  rw [e1] at h11 hX2
  obtain ⟨hpf, ksf, hXf, b1, b2⟩ := hgo _ _ _ _ _ _ _ hI2 e1 (Or.inl ⟨_, _, rfl⟩)
  refine ⟨hpf, ksf, ?_, b1, b2⟩
  rcases hlv with rfl | ⟨y0, k0, rfl⟩ | ⟨k0, rfl⟩ | ⟨y0, k0, rfl⟩
  all_goals
    refine X.run 4 rfl ?_
    refine X.run 1 rfl ?_
    refine X.ial rfl rfl hI.s0 (hx 1 (by decide) (by decide)) ?_
    refine X.run 4 rfl ?_
    refine X.ial rfl rfl hI.s0 (hx 2 (by decide) (by decide)) ?_
    refine X.run 4 rfl ?_
    refine X.ial rfl rfl hI.s0 (hx 3 (by decide) (by decide)) ?_
    refine X.run 4 rfl ?_
    refine X.ial rfl rfl hI.s0 (hx 4 (by decide) (by decide)) ?_
    refine X.run 1 rfl ?_
    refine X.insL rfl rfl rfl (by decide) rfl rfl (by decide) rfl rfl rfl hX1 ?_
    refine X.run 4 rfl ?_
    refine X.run 2 rfl ?_
    refine X.ial rfl rfl hI'.s0 (hx 1 (by decide) (by decide)) ?_
    refine X.run 4 rfl ?_
    refine X.ial rfl rfl hI'.s0 (hx 2 (by decide) (by decide)) ?_
    refine X.run 4 rfl ?_
    refine X.ial rfl rfl hI'.s0 (hx 3 (by decide) (by decide)) ?_
    refine X.run 4 rfl ?_
    refine X.ial rfl rfl hI'.s0 (hx 4 (by decide) (by decide)) ?_
    refine X.inv rfl rfl rfl rfl rfl h11 rfl rfl rfl rfl hX2 ?_
    refine X.run 2 rfl ?_
    exact hXf
end TN
-- M: lc_fault
section TN
variable {ph : Nat → Nat → Nat} {w : jW} {H : jH} {hp : List xC} {F : cG} {L : Nat} {xs : Nat → Int32} {po : Nat} {f : Int → Int} {g : Nat → Int64} {C : Nat} {i : Int32} {a : Nat}
set_option maxRecDepth 20000 in
theorem lc_fault (hI : lIn F L xs po f f g C ph w H hp) (e0 : ph 11 0 = a) (hx : ∀ c : Int, 0 ≤ c → c < 7 → xin (i + Int32.ofInt c) L = true) (hgo : lGo F L xs po a i C) {lv : xL} (hlv : lvH F po a i lv) : lFin 188 lv w hp := by
  obtain ⟨k, w', H', ph', hp', g', hX1, hI', e11, hk⟩ := s_fault (p0 := xs ((i + Int32.ofInt 1).toNatClampNeg)) hI
  obtain ⟨y, H2, hp2, hX2, hI2, hy⟩ := r_fault (p0 := xs ((i + Int32.ofInt 1).toNatClampNeg)) hI'
  obtain ⟨fs0, h11⟩ := hI'.at11
  have e1 := e11.trans e0
  rw [e1] at h11 hX2
  obtain ⟨hpf, ksf, hXf, b1, b2⟩ := hgo _ _ _ _ _ _ _ hI2 e1 (Or.inl ⟨_, _, rfl⟩)
  refine ⟨hpf, ksf, ?_, b1, b2⟩
  rcases hlv with rfl | ⟨y0, k0, rfl⟩ | ⟨k0, rfl⟩ | ⟨y0, k0, rfl⟩
  all_goals
    refine X.run 4 rfl ?_
    refine X.run 1 rfl ?_
    refine X.ial rfl rfl hI.s0 (hx 1 (by decide) (by decide)) ?_
    refine X.run 1 rfl ?_
    refine X.insL rfl rfl rfl (by decide) rfl rfl (by decide) rfl rfl rfl hX1 ?_
    refine X.run 4 rfl ?_
    refine X.run 2 rfl ?_
    refine X.ial rfl rfl hI'.s0 (hx 1 (by decide) (by decide)) ?_
    refine X.inv rfl rfl rfl rfl rfl h11 rfl rfl rfl rfl hX2 ?_
    refine X.run 2 rfl ?_
    exact hXf
end TN
-- M: lc_deliver
section TN
variable {ph : Nat → Nat → Nat} {w : jW} {H : jH} {hp : List xC} {F : cG} {L : Nat} {xs : Nat → Int32} {po : Nat} {f : Int → Int} {g : Nat → Int64} {C : Nat} {i : Int32} {a : Nat}
set_option maxRecDepth 20000 in
theorem lc_deliver (hI : lIn F L xs po f f g C ph w H hp) (e0 : ph 11 0 = a) (hx : ∀ c : Int, 0 ≤ c → c < 7 → xin (i + Int32.ofInt c) L = true) (hgo : lGo F L xs po a i C) {lv : xL} (hlv : lvH F po a i lv) : lFin 216 lv w hp := by
  obtain ⟨k, w', H', ph', hp', g', hX1, hI', e11⟩ := s_deliver (p0 := xs ((i + Int32.ofInt 1).toNatClampNeg)) (p1 := xs ((i + Int32.ofInt 2).toNatClampNeg)) hI
  obtain ⟨y, H2, hp2, hX2, hI2⟩ := r_deliver (p0 := xs ((i + Int32.ofInt 1).toNatClampNeg)) (p1 := xs ((i + Int32.ofInt 2).toNatClampNeg)) hI'
  obtain ⟨fs0, h11⟩ := hI'.at11
  have e1 := e11.trans e0
  rw [e1] at h11 hX2
  obtain ⟨hpf, ksf, hXf, b1, b2⟩ := hgo _ _ _ _ _ _ _ hI2 e1 (Or.inl ⟨_, _, rfl⟩)
  refine ⟨hpf, ksf, ?_, b1, b2⟩
  rcases hlv with rfl | ⟨y0, k0, rfl⟩ | ⟨k0, rfl⟩ | ⟨y0, k0, rfl⟩
  all_goals
    refine X.run 4 rfl ?_
    refine X.run 1 rfl ?_
    refine X.ial rfl rfl hI.s0 (hx 1 (by decide) (by decide)) ?_
    refine X.run 4 rfl ?_
    refine X.ial rfl rfl hI.s0 (hx 2 (by decide) (by decide)) ?_
    refine X.run 1 rfl ?_
    refine X.insL rfl rfl rfl (by decide) rfl rfl (by decide) rfl rfl rfl hX1 ?_
    refine X.run 4 rfl ?_
    refine X.run 2 rfl ?_
    refine X.ial rfl rfl hI'.s0 (hx 1 (by decide) (by decide)) ?_
    refine X.run 4 rfl ?_
    refine X.ial rfl rfl hI'.s0 (hx 2 (by decide) (by decide)) ?_
    refine X.inv rfl rfl rfl rfl rfl h11 rfl rfl rfl rfl hX2 ?_
    refine X.run 2 rfl ?_
    exact hXf
end TN
-- M: lc_spread
section TN
variable {ph : Nat → Nat → Nat} {w : jW} {H : jH} {hp : List xC} {F : cG} {L : Nat} {xs : Nat → Int32} {po : Nat} {f : Int → Int} {g : Nat → Int64} {C : Nat} {i : Int32} {a : Nat}
set_option maxRecDepth 20000 in
theorem lc_spread (hI : lIn F L xs po f f g C ph w H hp) (e0 : ph 11 0 = a) (hx : ∀ c : Int, 0 ≤ c → c < 7 → xin (i + Int32.ofInt c) L = true) (hgo : lGo F L xs po a i C) {lv : xL} (hlv : lvH F po a i lv) : lFin 256 lv w hp := by
  obtain ⟨k, w', H', ph', hp', g', hX1, hI', e11⟩ := s_spread (p0 := xs ((i + Int32.ofInt 1).toNatClampNeg)) (p1 := xs ((i + Int32.ofInt 2).toNatClampNeg)) (p2 := xs ((i + Int32.ofInt 3).toNatClampNeg)) hI
  obtain ⟨y, H2, hp2, hX2, hI2⟩ := r_spread (p0 := xs ((i + Int32.ofInt 1).toNatClampNeg)) (p1 := xs ((i + Int32.ofInt 2).toNatClampNeg)) (p2 := xs ((i + Int32.ofInt 3).toNatClampNeg)) hI'
  obtain ⟨fs0, h11⟩ := hI'.at11
  have e1 := e11.trans e0
  rw [e1] at h11 hX2
  obtain ⟨hpf, ksf, hXf, b1, b2⟩ := hgo _ _ _ _ _ _ _ hI2 e1 (Or.inl ⟨_, _, rfl⟩)
  refine ⟨hpf, ksf, ?_, b1, b2⟩
  rcases hlv with rfl | ⟨y0, k0, rfl⟩ | ⟨k0, rfl⟩ | ⟨y0, k0, rfl⟩
  all_goals
    refine X.run 4 rfl ?_
    refine X.run 1 rfl ?_
    refine X.ial rfl rfl hI.s0 (hx 1 (by decide) (by decide)) ?_
    refine X.run 4 rfl ?_
    refine X.ial rfl rfl hI.s0 (hx 2 (by decide) (by decide)) ?_
    refine X.run 4 rfl ?_
    refine X.ial rfl rfl hI.s0 (hx 3 (by decide) (by decide)) ?_
    refine X.run 1 rfl ?_
    refine X.insL rfl rfl rfl (by decide) rfl rfl (by decide) rfl rfl rfl hX1 ?_
    refine X.run 4 rfl ?_
    refine X.run 2 rfl ?_
    refine X.ial rfl rfl hI'.s0 (hx 1 (by decide) (by decide)) ?_
    refine X.run 4 rfl ?_
    refine X.ial rfl rfl hI'.s0 (hx 2 (by decide) (by decide)) ?_
    refine X.run 4 rfl ?_
    refine X.ial rfl rfl hI'.s0 (hx 3 (by decide) (by decide)) ?_
    refine X.inv rfl rfl rfl rfl rfl h11 rfl rfl rfl rfl hX2 ?_
    refine X.run 2 rfl ?_
    exact hXf
end TN
-- M: lc_expire
section TN
variable {ph : Nat → Nat → Nat} {w : jW} {H : jH} {hp : List xC} {F : cG} {L : Nat} {xs : Nat → Int32} {po : Nat} {f : Int → Int} {g : Nat → Int64} {C : Nat} {i : Int32} {a : Nat}
set_option maxRecDepth 20000 in
theorem lc_expire (hI : lIn F L xs po f f g C ph w H hp) (e0 : ph 11 0 = a) (hx : ∀ c : Int, 0 ≤ c → c < 7 → xin (i + Int32.ofInt c) L = true) (hgo : lGo F L xs po a i C) {lv : xL} (hlv : lvH F po a i lv) : lFin 308 lv w hp := by
  obtain ⟨k, w', H', ph', hp', g', hX1, hI', e11⟩ := s_expire (p0 := xs ((i + Int32.ofInt 1).toNatClampNeg)) hI
  obtain ⟨y, H2, hp2, hX2, hI2⟩ := r_expire (p0 := xs ((i + Int32.ofInt 1).toNatClampNeg)) hI'
  obtain ⟨fs0, h11⟩ := hI'.at11
  have e1 := e11.trans e0
  rw [e1] at h11 hX2
  obtain ⟨hpf, ksf, hXf, b1, b2⟩ := hgo _ _ _ _ _ _ _ hI2 e1 (Or.inl ⟨_, _, rfl⟩)
  refine ⟨hpf, ksf, ?_, b1, b2⟩
  rcases hlv with rfl | ⟨y0, k0, rfl⟩ | ⟨k0, rfl⟩ | ⟨y0, k0, rfl⟩
  all_goals
    refine X.run 4 rfl ?_
    refine X.run 1 rfl ?_
    refine X.ial rfl rfl hI.s0 (hx 1 (by decide) (by decide)) ?_
    refine X.run 1 rfl ?_
    refine X.insL rfl rfl rfl (by decide) rfl rfl (by decide) rfl rfl rfl hX1 ?_
    refine X.run 4 rfl ?_
    refine X.run 2 rfl ?_
    refine X.ial rfl rfl hI'.s0 (hx 1 (by decide) (by decide)) ?_
    refine X.inv rfl rfl rfl rfl rfl h11 rfl rfl rfl rfl hX2 ?_
    refine X.run 2 rfl ?_
    exact hXf
end TN
-- M: lc_forge
section TN
variable {ph : Nat → Nat → Nat} {w : jW} {H : jH} {hp : List xC} {F : cG} {L : Nat} {xs : Nat → Int32} {po : Nat} {f : Int → Int} {g : Nat → Int64} {C : Nat} {i : Int32} {a : Nat}
set_option maxRecDepth 20000 in
theorem lc_forge (hI : lIn F L xs po f f g C ph w H hp) (e0 : ph 11 0 = a) (hx : ∀ c : Int, 0 ≤ c → c < 7 → xin (i + Int32.ofInt c) L = true) (hgo : lGo F L xs po a i C) {lv : xL} (hlv : lvH F po a i lv) : lFin 336 lv w hp := by
  have hx6 : xin (i + (Int8.ofInt 6).toInt32) L = true := hx 6 (by decide) (by decide)
  obtain ⟨k, w', H', ph', hp', g', hX1, hI', e11⟩ := s_forge (p0 := xs ((i + Int32.ofInt 1).toNatClampNeg)) (p1 := xs ((i + Int32.ofInt 2).toNatClampNeg)) (p2 := xs ((i + Int32.ofInt 3).toNatClampNeg)) (p3 := xs ((i + Int32.ofInt 4).toNatClampNeg)) (p4 := xs ((i + Int32.ofInt 5).toNatClampNeg)) (p5 := xs ((i + (Int8.ofInt 6).toInt32).toNatClampNeg)) hI
  obtain ⟨y, H2, hp2, hX2, hI2⟩ := r_forge (p0 := xs ((i + Int32.ofInt 1).toNatClampNeg)) (p1 := xs ((i + Int32.ofInt 2).toNatClampNeg)) (p2 := xs ((i + Int32.ofInt 3).toNatClampNeg)) (p3 := xs ((i + Int32.ofInt 4).toNatClampNeg)) (p4 := xs ((i + Int32.ofInt 5).toNatClampNeg)) (p5 := xs ((i + (Int8.ofInt 6).toInt32).toNatClampNeg)) hI'
  obtain ⟨fs0, h11⟩ := hI'.at11
  have e1 := e11.trans e0
  rw [e1] at h11 hX2
  obtain ⟨hpf, ksf, hXf, b1, b2⟩ := hgo _ _ _ _ _ _ _ hI2 e1 (Or.inl ⟨_, _, rfl⟩)
  refine ⟨hpf, ksf, ?_, b1, b2⟩
  rcases hlv with rfl | ⟨y0, k0, rfl⟩ | ⟨k0, rfl⟩ | ⟨y0, k0, rfl⟩
  all_goals
    refine X.run 4 rfl ?_
    refine X.run 1 rfl ?_
    refine X.ial rfl rfl hI.s0 (hx 1 (by decide) (by decide)) ?_
    refine X.run 4 rfl ?_
    refine X.ial rfl rfl hI.s0 (hx 2 (by decide) (by decide)) ?_
    refine X.run 4 rfl ?_
    refine X.ial rfl rfl hI.s0 (hx 3 (by decide) (by decide)) ?_
    refine X.run 4 rfl ?_
    refine X.ial rfl rfl hI.s0 (hx 4 (by decide) (by decide)) ?_
    refine X.run 4 rfl ?_
    refine X.ial rfl rfl hI.s0 (hx 5 (by decide) (by decide)) ?_
    refine X.run 4 rfl ?_
    refine X.ial rfl rfl hI.s0 hx6 ?_
    refine X.run 1 rfl ?_
    refine X.insL rfl rfl rfl (by decide) rfl rfl (by decide) rfl rfl rfl hX1 ?_
    refine X.run 4 rfl ?_
    refine X.run 2 rfl ?_
    refine X.ial rfl rfl hI'.s0 (hx 1 (by decide) (by decide)) ?_
    refine X.run 4 rfl ?_
    refine X.ial rfl rfl hI'.s0 (hx 2 (by decide) (by decide)) ?_
    refine X.run 4 rfl ?_
    refine X.ial rfl rfl hI'.s0 (hx 3 (by decide) (by decide)) ?_
    refine X.run 4 rfl ?_
    refine X.ial rfl rfl hI'.s0 (hx 4 (by decide) (by decide)) ?_
    refine X.run 4 rfl ?_
    refine X.ial rfl rfl hI'.s0 (hx 5 (by decide) (by decide)) ?_
    refine X.run 4 rfl ?_
    refine X.ial rfl rfl hI'.s0 hx6 ?_
    refine X.inv rfl rfl rfl rfl rfl h11 rfl rfl rfl rfl hX2 ?_
    refine X.run 2 rfl ?_
    exact hXf
end TN
-- M: lc_block
section TN
variable {ph : Nat → Nat → Nat} {w : jW} {H : jH} {hp : List xC} {F : cG} {L : Nat} {xs : Nat → Int32} {po : Nat} {f : Int → Int} {g : Nat → Int64} {C : Nat} {i : Int32} {a : Nat}
set_option maxRecDepth 20000 in
theorem lc_block (hI : lIn F L xs po f f g C ph w H hp) (e0 : ph 11 0 = a) (hx : ∀ c : Int, 0 ≤ c → c < 7 → xin (i + Int32.ofInt c) L = true) (hgo : lGo F L xs po a i C) {lv : xL} (hlv : lvH F po a i lv) : lFin 426 lv w hp := by
  obtain ⟨k, w', H', ph', hp', g', hX1, hI', e11⟩ := s_block (p0 := xs ((i + Int32.ofInt 1).toNatClampNeg)) (p1 := xs ((i + Int32.ofInt 2).toNatClampNeg)) (p2 := xs ((i + Int32.ofInt 3).toNatClampNeg)) (p3 := xs ((i + Int32.ofInt 4).toNatClampNeg)) (p4 := xs ((i + Int32.ofInt 5).toNatClampNeg)) hI
  obtain ⟨y, H2, hp2, hX2, hI2⟩ := r_block (p0 := xs ((i + Int32.ofInt 1).toNatClampNeg)) (p1 := xs ((i + Int32.ofInt 2).toNatClampNeg)) (p2 := xs ((i + Int32.ofInt 3).toNatClampNeg)) (p3 := xs ((i + Int32.ofInt 4).toNatClampNeg)) (p4 := xs ((i + Int32.ofInt 5).toNatClampNeg)) hI'
  obtain ⟨fs0, h11⟩ := hI'.at11
  have e1 := e11.trans e0
  rw [e1] at h11 hX2
  obtain ⟨hpf, ksf, hXf, b1, b2⟩ := hgo _ _ _ _ _ _ _ hI2 e1 (Or.inl ⟨_, _, rfl⟩)
  refine ⟨hpf, ksf, ?_, b1, b2⟩
  rcases hlv with rfl | ⟨y0, k0, rfl⟩ | ⟨k0, rfl⟩ | ⟨y0, k0, rfl⟩
  all_goals
    refine X.run 4 rfl ?_
    refine X.run 1 rfl ?_
    refine X.ial rfl rfl hI.s0 (hx 1 (by decide) (by decide)) ?_
    refine X.run 4 rfl ?_
    refine X.ial rfl rfl hI.s0 (hx 2 (by decide) (by decide)) ?_
    refine X.run 4 rfl ?_
    refine X.ial rfl rfl hI.s0 (hx 3 (by decide) (by decide)) ?_
    refine X.run 4 rfl ?_
    refine X.ial rfl rfl hI.s0 (hx 4 (by decide) (by decide)) ?_
    refine X.run 4 rfl ?_
    refine X.ial rfl rfl hI.s0 (hx 5 (by decide) (by decide)) ?_
    refine X.run 1 rfl ?_
    refine X.insL rfl rfl rfl (by decide) rfl rfl (by decide) rfl rfl rfl hX1 ?_
    refine X.run 4 rfl ?_
    refine X.run 2 rfl ?_
    refine X.ial rfl rfl hI'.s0 (hx 1 (by decide) (by decide)) ?_
    refine X.run 4 rfl ?_
    refine X.ial rfl rfl hI'.s0 (hx 2 (by decide) (by decide)) ?_
    refine X.run 4 rfl ?_
    refine X.ial rfl rfl hI'.s0 (hx 3 (by decide) (by decide)) ?_
    refine X.run 4 rfl ?_
    refine X.ial rfl rfl hI'.s0 (hx 4 (by decide) (by decide)) ?_
    refine X.run 4 rfl ?_
    refine X.ial rfl rfl hI'.s0 (hx 5 (by decide) (by decide)) ?_
    refine X.inv rfl rfl rfl rfl rfl h11 rfl rfl rfl rfl hX2 ?_
    refine X.run 2 rfl ?_
    exact hXf
end TN
-- M: lc_sync
section TN
variable {ph : Nat → Nat → Nat} {w : jW} {H : jH} {hp : List xC} {F : cG} {L : Nat} {xs : Nat → Int32} {po : Nat} {f : Int → Int} {g : Nat → Int64} {C : Nat} {i : Int32} {a : Nat}
set_option maxRecDepth 20000 in
theorem lc_sync (hI : lIn F L xs po f f g C ph w H hp) (e0 : ph 11 0 = a) (hx : ∀ c : Int, 0 ≤ c → c < 7 → xin (i + Int32.ofInt c) L = true) (hgo : lGo F L xs po a i C) {lv : xL} (hlv : lvH F po a i lv) : lFin 502 lv w hp := by
  obtain ⟨k, w', H', ph', hp', g', hX1, hI', e11⟩ := s_sync (p0 := xs ((i + Int32.ofInt 1).toNatClampNeg)) (p1 := xs ((i + Int32.ofInt 2).toNatClampNeg)) hI
  obtain ⟨y, H2, hp2, hX2, hI2⟩ := r_sync (p0 := xs ((i + Int32.ofInt 1).toNatClampNeg)) (p1 := xs ((i + Int32.ofInt 2).toNatClampNeg)) hI'
  obtain ⟨fs0, h11⟩ := hI'.at11
  have e1 := e11.trans e0
  rw [e1] at h11 hX2
  obtain ⟨hpf, ksf, hXf, b1, b2⟩ := hgo _ _ _ _ _ _ _ hI2 e1 (Or.inl ⟨_, _, rfl⟩)
  refine ⟨hpf, ksf, ?_, b1, b2⟩
  rcases hlv with rfl | ⟨y0, k0, rfl⟩ | ⟨k0, rfl⟩ | ⟨y0, k0, rfl⟩
  all_goals
    refine X.run 4 rfl ?_
    refine X.run 1 rfl ?_
    refine X.ial rfl rfl hI.s0 (hx 1 (by decide) (by decide)) ?_
    refine X.run 4 rfl ?_
    refine X.ial rfl rfl hI.s0 (hx 2 (by decide) (by decide)) ?_
    refine X.run 1 rfl ?_
    refine X.insL rfl rfl rfl (by decide) rfl rfl (by decide) rfl rfl rfl hX1 ?_
    refine X.run 4 rfl ?_
    refine X.run 2 rfl ?_
    refine X.ial rfl rfl hI'.s0 (hx 1 (by decide) (by decide)) ?_
    refine X.run 4 rfl ?_
    refine X.ial rfl rfl hI'.s0 (hx 2 (by decide) (by decide)) ?_
    refine X.inv rfl rfl rfl rfl rfl h11 rfl rfl rfl rfl hX2 ?_
    refine X.run 2 rfl ?_
    exact hXf
end TN
-- M: lc_power
section TN
variable {ph : Nat → Nat → Nat} {w : jW} {H : jH} {hp : List xC} {F : cG} {L : Nat} {xs : Nat → Int32} {po : Nat} {f : Int → Int} {g : Nat → Int64} {C : Nat} {i : Int32} {a : Nat}
set_option maxRecDepth 20000 in
theorem lc_power (hI : lIn F L xs po f f g C ph w H hp) (e0 : ph 11 0 = a) (hx : ∀ c : Int, 0 ≤ c → c < 7 → xin (i + Int32.ofInt c) L = true) (hgo : lGo F L xs po a i C) {lv : xL} (hlv : lvH F po a i lv) : lFin 542 lv w hp := by
  have h9 : ∀ (x : Nat) (a b : Int32) (hp : List xC), xs9 12 (.invokestatic 109) 3 [.int a, .int b, .ref x] hp = none := fun x a b hp => by cases x <;> rfl
  obtain ⟨k, w', H', ph', hp', g', hX1, hI', e11, hk⟩ := s_power (p0 := xs ((i + Int32.ofInt 1).toNatClampNeg)) (p1 := xs ((i + Int32.ofInt 2).toNatClampNeg)) hI
  obtain ⟨H2, hp2, hX2, hI2, hy⟩ := r_power (p0 := xs ((i + Int32.ofInt 1).toNatClampNeg)) (p1 := xs ((i + Int32.ofInt 2).toNatClampNeg)) hI'
  obtain ⟨fs0, h11⟩ := hI'.at11
  have e1 := e11.trans e0
  rw [e1] at h11 hX2
  obtain ⟨H3, hp3, hX3, hI3⟩ := r_thrown hI2
  obtain ⟨fs1, h12⟩ := hI2.at11
  rw [e1] at h12 hX3
  rcases hlv with rfl | ⟨y0, k0, rfl⟩ | ⟨k0, rfl⟩ | ⟨y0, k0, rfl⟩
  · obtain ⟨hpf, ksf, hXf, b1, b2⟩ := hgo _ _ _ _ _ _ _ hI3 e1 (Or.inr (Or.inl ⟨_, rfl⟩))
    refine ⟨hpf, ksf, ?_, b1, b2⟩
    refine X.run 4 rfl ?_
    refine X.run 1 rfl ?_
    refine X.ial rfl rfl hI.s0 (hx 1 (by decide) (by decide)) ?_
    refine X.run 4 rfl ?_
    refine X.ial rfl rfl hI.s0 (hx 2 (by decide) (by decide)) ?_
    refine X.insL rfl rfl rfl (by decide) rfl rfl (by decide) rfl rfl (h9 _ _ _ _) hX1 ?_
    refine X.run 4 rfl ?_
    refine X.run 2 rfl ?_
    refine X.ial rfl rfl hI'.s0 (hx 1 (by decide) (by decide)) ?_
    refine X.run 4 rfl ?_
    refine X.ial rfl rfl hI'.s0 (hx 2 (by decide) (by decide)) ?_
    refine X.inv rfl rfl rfl rfl rfl h11 rfl rfl rfl rfl hX2 ?_
    refine X.run 1 rfl ?_
    refine X.inv rfl rfl rfl rfl rfl h12 rfl rfl rfl rfl hX3 ?_
    refine X.run 1 rfl ?_
    refine X.icmp rfl rfl rfl (fun _ => ?_) (fun hc => absurd hc (by rw [hk, hy]; simp [xcmp]))
    refine X.run 1 rfl ?_
    exact hXf
  · obtain ⟨hpf, ksf, hXf, b1, b2⟩ := hgo _ _ _ _ _ _ _ hI3 e1 (Or.inr (Or.inr (Or.inl ⟨_, _, rfl⟩)))
    refine ⟨hpf, ksf, ?_, b1, b2⟩
    refine X.run 4 rfl ?_
    refine X.run 1 rfl ?_
    refine X.ial rfl rfl hI.s0 (hx 1 (by decide) (by decide)) ?_
    refine X.run 4 rfl ?_
    refine X.ial rfl rfl hI.s0 (hx 2 (by decide) (by decide)) ?_
    refine X.insL rfl rfl rfl (by decide) rfl rfl (by decide) rfl rfl (h9 _ _ _ _) hX1 ?_
    refine X.run 4 rfl ?_
    refine X.run 2 rfl ?_
    refine X.ial rfl rfl hI'.s0 (hx 1 (by decide) (by decide)) ?_
    refine X.run 4 rfl ?_
    refine X.ial rfl rfl hI'.s0 (hx 2 (by decide) (by decide)) ?_
    refine X.inv rfl rfl rfl rfl rfl h11 rfl rfl rfl rfl hX2 ?_
    refine X.run 1 rfl ?_
    refine X.inv rfl rfl rfl rfl rfl h12 rfl rfl rfl rfl hX3 ?_
    refine X.run 1 rfl ?_
    refine X.icmp rfl rfl rfl (fun _ => ?_) (fun hc => absurd hc (by rw [hk, hy]; simp [xcmp]))
    refine X.run 1 rfl ?_
    exact hXf
  · obtain ⟨hpf, ksf, hXf, b1, b2⟩ := hgo _ _ _ _ _ _ _ hI3 e1 (Or.inr (Or.inl ⟨_, rfl⟩))
    refine ⟨hpf, ksf, ?_, b1, b2⟩
    refine X.run 4 rfl ?_
    refine X.run 1 rfl ?_
    refine X.ial rfl rfl hI.s0 (hx 1 (by decide) (by decide)) ?_
    refine X.run 4 rfl ?_
    refine X.ial rfl rfl hI.s0 (hx 2 (by decide) (by decide)) ?_
    refine X.insL rfl rfl rfl (by decide) rfl rfl (by decide) rfl rfl (h9 _ _ _ _) hX1 ?_
    refine X.run 4 rfl ?_
    refine X.run 2 rfl ?_
    refine X.ial rfl rfl hI'.s0 (hx 1 (by decide) (by decide)) ?_
    refine X.run 4 rfl ?_
    refine X.ial rfl rfl hI'.s0 (hx 2 (by decide) (by decide)) ?_
    refine X.inv rfl rfl rfl rfl rfl h11 rfl rfl rfl rfl hX2 ?_
    refine X.run 1 rfl ?_
    refine X.inv rfl rfl rfl rfl rfl h12 rfl rfl rfl rfl hX3 ?_
    refine X.run 1 rfl ?_
    refine X.icmp rfl rfl rfl (fun _ => ?_) (fun hc => absurd hc (by rw [hk, hy]; simp [xcmp]))
    refine X.run 1 rfl ?_
    exact hXf
  · obtain ⟨hpf, ksf, hXf, b1, b2⟩ := hgo _ _ _ _ _ _ _ hI3 e1 (Or.inr (Or.inr (Or.inl ⟨_, _, rfl⟩)))
    refine ⟨hpf, ksf, ?_, b1, b2⟩
    refine X.run 4 rfl ?_
    refine X.run 1 rfl ?_
    refine X.ial rfl rfl hI.s0 (hx 1 (by decide) (by decide)) ?_
    refine X.run 4 rfl ?_
    refine X.ial rfl rfl hI.s0 (hx 2 (by decide) (by decide)) ?_
    refine X.insL rfl rfl rfl (by decide) rfl rfl (by decide) rfl rfl (h9 _ _ _ _) hX1 ?_
    refine X.run 4 rfl ?_
    refine X.run 2 rfl ?_
    refine X.ial rfl rfl hI'.s0 (hx 1 (by decide) (by decide)) ?_
    refine X.run 4 rfl ?_
    refine X.ial rfl rfl hI'.s0 (hx 2 (by decide) (by decide)) ?_
    refine X.inv rfl rfl rfl rfl rfl h11 rfl rfl rfl rfl hX2 ?_
    refine X.run 1 rfl ?_
    refine X.inv rfl rfl rfl rfl rfl h12 rfl rfl rfl rfl hX3 ?_
    refine X.run 1 rfl ?_
    refine X.icmp rfl rfl rfl (fun _ => ?_) (fun hc => absurd hc (by rw [hk, hy]; simp [xcmp]))
    refine X.run 1 rfl ?_
    exact hXf
end TN
-- M: lc_start
section TN
variable {ph : Nat → Nat → Nat} {w : jW} {H : jH} {hp : List xC} {F : cG} {L : Nat} {xs : Nat → Int32} {po : Nat} {f : Int → Int} {g : Nat → Int64} {C : Nat} {i : Int32} {a : Nat}
set_option maxRecDepth 20000 in
theorem lc_start (hI : lIn F L xs po f f g C ph w H hp) (e0 : ph 11 0 = a) (hx : ∀ c : Int, 0 ≤ c → c < 7 → xin (i + Int32.ofInt c) L = true) (hgo : lGo F L xs po a i C) {lv : xL} (hlv : lvH F po a i lv) : lFin 590 lv w hp := by
  obtain ⟨k, w', H', ph', hp', g', hX1, hI', e11⟩ := s_start (p0 := xs ((i + Int32.ofInt 1).toNatClampNeg)) hI
  obtain ⟨y, H2, hp2, hX2, hI2⟩ := r_start (p0 := xs ((i + Int32.ofInt 1).toNatClampNeg)) hI'
  obtain ⟨fs0, h11⟩ := hI'.at11
  have e1 := e11.trans e0
  rw [e1] at h11 hX2
  obtain ⟨hpf, ksf, hXf, b1, b2⟩ := hgo _ _ _ _ _ _ _ hI2 e1 (Or.inl ⟨_, _, rfl⟩)
  refine ⟨hpf, ksf, ?_, b1, b2⟩
  rcases hlv with rfl | ⟨y0, k0, rfl⟩ | ⟨k0, rfl⟩ | ⟨y0, k0, rfl⟩
  all_goals
    refine X.run 4 rfl ?_
    refine X.run 1 rfl ?_
    refine X.ial rfl rfl hI.s0 (hx 1 (by decide) (by decide)) ?_
    refine X.run 1 rfl ?_
    refine X.insL rfl rfl rfl (by decide) rfl rfl (by decide) rfl rfl rfl hX1 ?_
    refine X.run 4 rfl ?_
    refine X.run 2 rfl ?_
    refine X.ial rfl rfl hI'.s0 (hx 1 (by decide) (by decide)) ?_
    refine X.inv rfl rfl rfl rfl rfl h11 rfl rfl rfl rfl hX2 ?_
    refine X.run 2 rfl ?_
    exact hXf
end TN
-- M: lc_told
section TN
variable {ph : Nat → Nat → Nat} {w : jW} {H : jH} {hp : List xC} {F : cG} {L : Nat} {xs : Nat → Int32} {po : Nat} {f : Int → Int} {g : Nat → Int64} {C : Nat} {i : Int32} {a : Nat}
set_option maxRecDepth 20000 in
theorem lc_told (hI : lIn F L xs po f f g C ph w H hp) (e0 : ph 11 0 = a) (hx : ∀ c : Int, 0 ≤ c → c < 7 → xin (i + Int32.ofInt c) L = true) (hgo : lGo F L xs po a i C) {lv : xL} (hlv : lvH F po a i lv) : lFin 618 lv w hp := by
  obtain ⟨k, w', H', ph', hp', g', hX1, hI', e11⟩ := s_told (p0 := xs ((i + Int32.ofInt 1).toNatClampNeg)) (p1 := xs ((i + Int32.ofInt 2).toNatClampNeg)) hI
  obtain ⟨y, H2, hp2, hX2, hI2⟩ := r_told (p0 := xs ((i + Int32.ofInt 1).toNatClampNeg)) (p1 := xs ((i + Int32.ofInt 2).toNatClampNeg)) hI'
  obtain ⟨fs0, h11⟩ := hI'.at11
  have e1 := e11.trans e0
  rw [e1] at h11 hX2
  obtain ⟨hpf, ksf, hXf, b1, b2⟩ := hgo _ _ _ _ _ _ _ hI2 e1 (Or.inl ⟨_, _, rfl⟩)
  refine ⟨hpf, ksf, ?_, b1, b2⟩
  rcases hlv with rfl | ⟨y0, k0, rfl⟩ | ⟨k0, rfl⟩ | ⟨y0, k0, rfl⟩
  all_goals
    refine X.run 4 rfl ?_
    refine X.run 1 rfl ?_
    refine X.ial rfl rfl hI.s0 (hx 1 (by decide) (by decide)) ?_
    refine X.run 4 rfl ?_
    refine X.ial rfl rfl hI.s0 (hx 2 (by decide) (by decide)) ?_
    refine X.run 1 rfl ?_
    refine X.insL rfl rfl rfl (by decide) rfl rfl (by decide) rfl rfl rfl hX1 ?_
    refine X.run 4 rfl ?_
    refine X.run 2 rfl ?_
    refine X.ial rfl rfl hI'.s0 (hx 1 (by decide) (by decide)) ?_
    refine X.run 4 rfl ?_
    refine X.ial rfl rfl hI'.s0 (hx 2 (by decide) (by decide)) ?_
    refine X.inv rfl rfl rfl rfl rfl h11 rfl rfl rfl rfl hX2 ?_
    refine X.run 2 rfl ?_
    exact hXf
end TN
-- M: lc_message
section TN
variable {ph : Nat → Nat → Nat} {w : jW} {H : jH} {hp : List xC} {F : cG} {L : Nat} {xs : Nat → Int32} {po : Nat} {f : Int → Int} {g : Nat → Int64} {C : Nat} {i : Int32} {a : Nat}
set_option maxRecDepth 20000 in
theorem lc_message (hI : lIn F L xs po f f g C ph w H hp) (e0 : ph 11 0 = a) (hx : ∀ c : Int, 0 ≤ c → c < 7 → xin (i + Int32.ofInt c) L = true) (hgo : lGo F L xs po a i C) {lv : xL} (hlv : lvH F po a i lv) : lFin 658 lv w hp := by
  obtain ⟨k, w', H', ph', hp', g', hX1, hI', e11⟩ := s_message (p0 := xs ((i + Int32.ofInt 1).toNatClampNeg)) (p1 := xs ((i + Int32.ofInt 2).toNatClampNeg)) hI
  obtain ⟨y, H2, hp2, hX2, hI2⟩ := r_message (p0 := xs ((i + Int32.ofInt 1).toNatClampNeg)) (p1 := xs ((i + Int32.ofInt 2).toNatClampNeg)) hI'
  obtain ⟨fs0, h11⟩ := hI'.at11
  have e1 := e11.trans e0
  rw [e1] at h11 hX2
  obtain ⟨hpf, ksf, hXf, b1, b2⟩ := hgo _ _ _ _ _ _ _ hI2 e1 (Or.inl ⟨_, _, rfl⟩)
  refine ⟨hpf, ksf, ?_, b1, b2⟩
  rcases hlv with rfl | ⟨y0, k0, rfl⟩ | ⟨k0, rfl⟩ | ⟨y0, k0, rfl⟩
  all_goals
    refine X.run 4 rfl ?_
    refine X.run 1 rfl ?_
    refine X.ial rfl rfl hI.s0 (hx 1 (by decide) (by decide)) ?_
    refine X.run 4 rfl ?_
    refine X.ial rfl rfl hI.s0 (hx 2 (by decide) (by decide)) ?_
    refine X.run 1 rfl ?_
    refine X.insL rfl rfl rfl (by decide) rfl rfl (by decide) rfl rfl rfl hX1 ?_
    refine X.run 4 rfl ?_
    refine X.run 2 rfl ?_
    refine X.ial rfl rfl hI'.s0 (hx 1 (by decide) (by decide)) ?_
    refine X.run 4 rfl ?_
    refine X.ial rfl rfl hI'.s0 (hx 2 (by decide) (by decide)) ?_
    refine X.inv rfl rfl rfl rfl rfl h11 rfl rfl rfl rfl hX2 ?_
    refine X.run 2 rfl ?_
    exact hXf
end TN
-- M: lc_of
section TN
variable {ph : Nat → Nat → Nat} {w : jW} {H : jH} {hp : List xC} {F : cG} {L : Nat} {xs : Nat → Int32} {po : Nat} {f : Int → Int} {g : Nat → Int64} {C : Nat} {i : Int32} {a : Nat}
set_option maxRecDepth 20000 in
theorem lc_of (hI : lIn F L xs po f f g C ph w H hp) (e0 : ph 11 0 = a) (hx : ∀ c : Int, 0 ≤ c → c < 7 → xin (i + Int32.ofInt c) L = true) (hgo : lGo F L xs po a i C) {lv : xL} (hlv : lvH F po a i lv) : lFin 698 lv w hp := by
  obtain ⟨k, w', H', ph', hp', g', hX1, hI', e11⟩ := s_of (p0 := xs ((i + Int32.ofInt 1).toNatClampNeg)) (p1 := xs ((i + Int32.ofInt 2).toNatClampNeg)) hI
  obtain ⟨y, H2, hp2, hX2, hI2⟩ := r_of (p0 := xs ((i + Int32.ofInt 1).toNatClampNeg)) (p1 := xs ((i + Int32.ofInt 2).toNatClampNeg)) hI'
  obtain ⟨fs0, h11⟩ := hI'.at11
  have e1 := e11.trans e0
  rw [e1] at h11 hX2
  obtain ⟨hpf, ksf, hXf, b1, b2⟩ := hgo _ _ _ _ _ _ _ hI2 e1 (Or.inl ⟨_, _, rfl⟩)
  refine ⟨hpf, ksf, ?_, b1, b2⟩
  rcases hlv with rfl | ⟨y0, k0, rfl⟩ | ⟨k0, rfl⟩ | ⟨y0, k0, rfl⟩
  all_goals
    refine X.run 4 rfl ?_
    refine X.run 1 rfl ?_
    refine X.ial rfl rfl hI.s0 (hx 1 (by decide) (by decide)) ?_
    refine X.run 4 rfl ?_
    refine X.ial rfl rfl hI.s0 (hx 2 (by decide) (by decide)) ?_
    refine X.run 1 rfl ?_
    refine X.insL rfl rfl rfl (by decide) rfl rfl (by decide) rfl rfl rfl hX1 ?_
    refine X.run 4 rfl ?_
    refine X.run 2 rfl ?_
    refine X.ial rfl rfl hI'.s0 (hx 1 (by decide) (by decide)) ?_
    refine X.run 4 rfl ?_
    refine X.ial rfl rfl hI'.s0 (hx 2 (by decide) (by decide)) ?_
    refine X.inv rfl rfl rfl rfl rfl h11 rfl rfl rfl rfl hX2 ?_
    refine X.run 2 rfl ?_
    exact hXf
end TN
-- M: lc_account
section TN
variable {ph : Nat → Nat → Nat} {w : jW} {H : jH} {hp : List xC} {F : cG} {L : Nat} {xs : Nat → Int32} {po : Nat} {f : Int → Int} {g : Nat → Int64} {C : Nat} {i : Int32} {a : Nat}
set_option maxRecDepth 20000 in
theorem lc_account (hI : lIn F L xs po f f g C ph w H hp) (e0 : ph 11 0 = a) (hx : ∀ c : Int, 0 ≤ c → c < 7 → xin (i + Int32.ofInt c) L = true) (hgo : lGo F L xs po a i C) {lv : xL} (hlv : lvH F po a i lv) : lFin 738 lv w hp := by
  obtain ⟨k, w', H', ph', hp', g', hX1, hI', e11⟩ := s_account (p0 := xs ((i + Int32.ofInt 1).toNatClampNeg)) (p1 := xs ((i + Int32.ofInt 2).toNatClampNeg)) (p2 := xs ((i + Int32.ofInt 3).toNatClampNeg)) hI
  obtain ⟨y, H2, hp2, hX2, hI2⟩ := r_account (p0 := xs ((i + Int32.ofInt 1).toNatClampNeg)) (p1 := xs ((i + Int32.ofInt 2).toNatClampNeg)) (p2 := xs ((i + Int32.ofInt 3).toNatClampNeg)) hI'
  obtain ⟨fs0, h11⟩ := hI'.at11
  have e1 := e11.trans e0
  rw [e1] at h11 hX2
  obtain ⟨hpf, ksf, hXf, b1, b2⟩ := hgo _ _ _ _ _ _ _ hI2 e1 (Or.inl ⟨_, _, rfl⟩)
  refine ⟨hpf, ksf, ?_, b1, b2⟩
  rcases hlv with rfl | ⟨y0, k0, rfl⟩ | ⟨k0, rfl⟩ | ⟨y0, k0, rfl⟩
  all_goals
    refine X.run 4 rfl ?_
    refine X.run 1 rfl ?_
    refine X.ial rfl rfl hI.s0 (hx 1 (by decide) (by decide)) ?_
    refine X.run 4 rfl ?_
    refine X.ial rfl rfl hI.s0 (hx 2 (by decide) (by decide)) ?_
    refine X.run 4 rfl ?_
    refine X.ial rfl rfl hI.s0 (hx 3 (by decide) (by decide)) ?_
    refine X.run 1 rfl ?_
    refine X.insL rfl rfl rfl (by decide) rfl rfl (by decide) rfl rfl rfl hX1 ?_
    refine X.run 4 rfl ?_
    refine X.run 2 rfl ?_
    refine X.ial rfl rfl hI'.s0 (hx 1 (by decide) (by decide)) ?_
    refine X.run 4 rfl ?_
    refine X.ial rfl rfl hI'.s0 (hx 2 (by decide) (by decide)) ?_
    refine X.run 4 rfl ?_
    refine X.ial rfl rfl hI'.s0 (hx 3 (by decide) (by decide)) ?_
    refine X.inv rfl rfl rfl rfl rfl h11 rfl rfl rfl rfl hX2 ?_
    refine X.run 2 rfl ?_
    exact hXf
end TN
-- M: lc_sum
section TN
variable {ph : Nat → Nat → Nat} {w : jW} {H : jH} {hp : List xC} {F : cG} {L : Nat} {xs : Nat → Int32} {po : Nat} {f : Int → Int} {g : Nat → Int64} {C : Nat} {i : Int32} {a : Nat}
set_option maxRecDepth 20000 in
theorem lc_sum (hI : lIn F L xs po f f g C ph w H hp) (e0 : ph 11 0 = a) (hx : ∀ c : Int, 0 ≤ c → c < 7 → xin (i + Int32.ofInt c) L = true) (hgo : lGo F L xs po a i C) {lv : xL} (hlv : lvH F po a i lv) : lFin 790 lv w hp := by
  obtain ⟨k, w', H', ph', hp', g', hX1, hI', e11⟩ := s_sum (p0 := xs ((i + Int32.ofInt 1).toNatClampNeg)) (p1 := xs ((i + Int32.ofInt 2).toNatClampNeg)) hI
  obtain ⟨y, H2, hp2, hX2, hI2⟩ := r_sum (p0 := xs ((i + Int32.ofInt 1).toNatClampNeg)) (p1 := xs ((i + Int32.ofInt 2).toNatClampNeg)) hI'
  obtain ⟨fs0, h11⟩ := hI'.at11
  have e1 := e11.trans e0
  rw [e1] at h11 hX2
  obtain ⟨hpf, ksf, hXf, b1, b2⟩ := hgo _ _ _ _ _ _ _ hI2 e1 (Or.inl ⟨_, _, rfl⟩)
  refine ⟨hpf, ksf, ?_, b1, b2⟩
  rcases hlv with rfl | ⟨y0, k0, rfl⟩ | ⟨k0, rfl⟩ | ⟨y0, k0, rfl⟩
  all_goals
    refine X.run 4 rfl ?_
    refine X.run 1 rfl ?_
    refine X.ial rfl rfl hI.s0 (hx 1 (by decide) (by decide)) ?_
    refine X.run 4 rfl ?_
    refine X.ial rfl rfl hI.s0 (hx 2 (by decide) (by decide)) ?_
    refine X.run 1 rfl ?_
    refine X.insL rfl rfl rfl (by decide) rfl rfl (by decide) rfl rfl rfl hX1 ?_
    refine X.run 4 rfl ?_
    refine X.run 2 rfl ?_
    refine X.ial rfl rfl hI'.s0 (hx 1 (by decide) (by decide)) ?_
    refine X.run 4 rfl ?_
    refine X.ial rfl rfl hI'.s0 (hx 2 (by decide) (by decide)) ?_
    refine X.inv rfl rfl rfl rfl rfl h11 rfl rfl rfl rfl hX2 ?_
    refine X.run 2 rfl ?_
    exact hXf
end TN
-- M: lc_follow
section TN
variable {ph : Nat → Nat → Nat} {w : jW} {H : jH} {hp : List xC} {F : cG} {L : Nat} {xs : Nat → Int32} {po : Nat} {f : Int → Int} {g : Nat → Int64} {C : Nat} {i : Int32} {a : Nat}
set_option maxRecDepth 20000 in
theorem lc_follow (hI : lIn F L xs po f f g C ph w H hp) (e0 : ph 11 0 = a) (hx : ∀ c : Int, 0 ≤ c → c < 7 → xin (i + Int32.ofInt c) L = true) (hgo : lGo F L xs po a i C) {lv : xL} (hlv : lvH F po a i lv) : lFin 830 lv w hp := by
  obtain ⟨k, w', H', ph', hp', g', hX1, hI', e11⟩ := s_follow (p0 := xs ((i + Int32.ofInt 1).toNatClampNeg)) hI
  obtain ⟨y, H2, hp2, hX2, hI2⟩ := r_follow (p0 := xs ((i + Int32.ofInt 1).toNatClampNeg)) hI'
  obtain ⟨fs0, h11⟩ := hI'.at11
  have e1 := e11.trans e0
  rw [e1] at h11 hX2
  obtain ⟨hpf, ksf, hXf, b1, b2⟩ := hgo _ _ _ _ _ _ _ hI2 e1 (Or.inl ⟨_, _, rfl⟩)
  refine ⟨hpf, ksf, ?_, b1, b2⟩
  rcases hlv with rfl | ⟨y0, k0, rfl⟩ | ⟨k0, rfl⟩ | ⟨y0, k0, rfl⟩
  all_goals
    refine X.run 4 rfl ?_
    refine X.run 1 rfl ?_
    refine X.ial rfl rfl hI.s0 (hx 1 (by decide) (by decide)) ?_
    refine X.run 1 rfl ?_
    refine X.insL rfl rfl rfl (by decide) rfl rfl (by decide) rfl rfl rfl hX1 ?_
    refine X.run 4 rfl ?_
    refine X.run 2 rfl ?_
    refine X.ial rfl rfl hI'.s0 (hx 1 (by decide) (by decide)) ?_
    refine X.inv rfl rfl rfl rfl rfl h11 rfl rfl rfl rfl hX2 ?_
    refine X.run 2 rfl ?_
    exact hXf
end TN
-- M: lc_count
section TN
variable {ph : Nat → Nat → Nat} {w : jW} {H : jH} {hp : List xC} {F : cG} {L : Nat} {xs : Nat → Int32} {po : Nat} {f : Int → Int} {g : Nat → Int64} {C : Nat} {i : Int32} {a : Nat}
set_option maxRecDepth 20000 in
theorem lc_count (hI : lIn F L xs po f f g C ph w H hp) (e0 : ph 11 0 = a) (hx : ∀ c : Int, 0 ≤ c → c < 7 → xin (i + Int32.ofInt c) L = true) (hgo : lGo F L xs po a i C) {lv : xL} (hlv : lvH F po a i lv) : lFin 858 lv w hp := by
  obtain ⟨k, w', H', ph', hp', g', hX1, hI', e11⟩ := s_count (p0 := xs ((i + Int32.ofInt 1).toNatClampNeg)) hI
  obtain ⟨y, H2, hp2, hX2, hI2⟩ := r_count (p0 := xs ((i + Int32.ofInt 1).toNatClampNeg)) hI'
  obtain ⟨fs0, h11⟩ := hI'.at11
  have e1 := e11.trans e0
  rw [e1] at h11 hX2
  obtain ⟨hpf, ksf, hXf, b1, b2⟩ := hgo _ _ _ _ _ _ _ hI2 e1 (Or.inl ⟨_, _, rfl⟩)
  refine ⟨hpf, ksf, ?_, b1, b2⟩
  rcases hlv with rfl | ⟨y0, k0, rfl⟩ | ⟨k0, rfl⟩ | ⟨y0, k0, rfl⟩
  all_goals
    refine X.run 4 rfl ?_
    refine X.run 1 rfl ?_
    refine X.ial rfl rfl hI.s0 (hx 1 (by decide) (by decide)) ?_
    refine X.run 1 rfl ?_
    refine X.insL rfl rfl rfl (by decide) rfl rfl (by decide) rfl rfl rfl hX1 ?_
    refine X.run 4 rfl ?_
    refine X.run 2 rfl ?_
    refine X.ial rfl rfl hI'.s0 (hx 1 (by decide) (by decide)) ?_
    refine X.inv rfl rfl rfl rfl rfl h11 rfl rfl rfl rfl hX2 ?_
    refine X.run 2 rfl ?_
    exact hXf
end TN
