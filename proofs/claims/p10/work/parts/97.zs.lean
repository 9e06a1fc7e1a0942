/-! SOUND, all the way down -/
section GSo
variable {d : Nat} {w : jW}
theorem g_isSound_all : ∀ (N : Nat) {b : Int} {H : jH}, b < N → gT H → gP H → gX H → gL H → gZ H → 0 ≤ b ∧ b < 300 → b < H.1 11 12 0 → J true (d + N + 2) 125 w (0, jargs 0 [jT, .inl b], [], H) (jN fun v w' H' => w' = w ∧ gT H' ∧ jEx [48, 56, 57] [108, 99, 100, 101, 105, 102, 103, 104, 61] H' H ∧ gP H' ∧ gX H' ∧ gL H' ∧ gZ H' ∧ ∃ x, v = some (.inl x) ∧ 0 ≤ x ∧ x ≤ 1) := by
  intro N
  induction N with
  | zero =>
    intro b H h1 _ _ _ _ _ h2
    exfalso
    omega
  | succ N ih =>
    intro b H h1 hT h2 h3 h4 h5 h6 h7
    exact g_isSound_step (d := d + N) (ihS_ := trivial) (fun hb a1 a2 a3 a4 a5 a6 a7 => ih (by omega) a1 a2 a3 a4 a5 a6 a7) hT h2 h3 h4 h5 h6 h7
theorem g_isSound {b : Int} {H : jH} (hT : gT H) (h2 : gP H) (h3 : gX H) (h4 : gL H) (h5 : gZ H) (h6 : 0 ≤ b ∧ b < 300) (h7 : b < H.1 11 12 0) : J true (d + 302) 125 w (0, jargs 0 [jT, .inl b], [], H) (jN fun v w' H' => w' = w ∧ gT H' ∧ jEx [48, 56, 57] [108, 99, 100, 101, 105, 102, 103, 104, 61] H' H ∧ gP H' ∧ gX H' ∧ gL H' ∧ gZ H' ∧ ∃ x, v = some (.inl x) ∧ 0 ≤ x ∧ x ≤ 1) := g_isSound_all 300 (by omega) hT h2 h3 h4 h5 h6 h7
end GSo
