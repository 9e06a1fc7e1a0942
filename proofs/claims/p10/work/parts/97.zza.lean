/-! the light client, all the way -/
section GFo
variable {d : Nat} {w : jW}
theorem g_follows_all : ∀ (N : Nat) {b : Int} {H : jH}, H.2.2.1 56 0 b - H.2.2.1 56 0 (H.1 11 45 0) ≤ N → gT H → gP H → gX H → gL H → gZ H → gQ H → gB H → gK H → gN H → gW H (H.1 11 19 0) → 0 ≤ b ∧ b < 300 → b < H.1 11 12 0 → J true (d + N + 306) 167 w (0, jargs 0 [jT, .inl b], [], H) (jN fun v w' H' => w' = w ∧ gT H' ∧ jEx [48, 56, 57, 46, 45] [108, 99, 100, 101, 105, 102, 103, 104, 61, 81] H' H ∧ gP H' ∧ gX H' ∧ gL H' ∧ gZ H' ∧ gQ H' ∧ gB H' ∧ gK H' ∧ gN H' ∧ gW H' (H'.1 11 19 0) ∧ ∃ x, v = some (.inl x) ∧ (x = 0 ∨ x = 1) ∧ (x = 1 → H'.1 11 45 0 = b)) := by
  intro N
  induction N with
  | zero =>
    intro b H h1 hT a1 a2 a3 a4 a5 a6 a7 a8 a9 h2 h3
    exact g_follows_step (d := d) (K := 0) (fun hb => by exfalso; omega) hT a1 a2 a3 a4 a5 a6 a7 a8 a9 h2 h3 h1
  | succ N ih =>
    intro b H h1 hT a1 a2 a3 a4 a5 a6 a7 a8 a9 h2 h3
    exact g_follows_step (d := d + N + 1) (K := ((N + 1 : Nat) : Int)) (fun hb b0 b1 b2 b3 b4 b5 b6 b7 b8 b9 c1 c2 => ih (by omega) b0 b1 b2 b3 b4 b5 b6 b7 b8 b9 c1 c2) hT a1 a2 a3 a4 a5 a6 a7 a8 a9 h2 h3 h1
theorem g_follows {b : Int} {H : jH} (hT : gT H) (a1 : gP H) (a2 : gX H) (a3 : gL H) (a4 : gZ H) (a5 : gQ H) (a6 : gB H) (a7 : gK H) (a8 : gN H) (a9 : gW H (H.1 11 19 0)) (h2 : 0 ≤ b ∧ b < 300) (h3 : b < H.1 11 12 0) : J true (d + 606) 167 w (0, jargs 0 [jT, .inl b], [], H) (jN fun v w' H' => w' = w ∧ gT H' ∧ jEx [48, 56, 57, 46, 45] [108, 99, 100, 101, 105, 102, 103, 104, 61, 81] H' H ∧ gP H' ∧ gX H' ∧ gL H' ∧ gZ H' ∧ gQ H' ∧ gB H' ∧ gK H' ∧ gN H' ∧ gW H' (H'.1 11 19 0) ∧ ∃ x, v = some (.inl x) ∧ (x = 0 ∨ x = 1) ∧ (x = 1 → H'.1 11 45 0 = b)) := by
  have y1 : 0 ≤ H.2.2.1 56 0 b ∧ H.2.2.1 56 0 b ≤ 300 := hT.1 56 b
  have y2 : 0 ≤ H.2.2.1 56 0 (H.1 11 45 0) ∧ H.2.2.1 56 0 (H.1 11 45 0) ≤ 300 := hT.1 56 _
  exact g_follows_all (d := d) 300 (by omega) hT a1 a2 a3 a4 a5 a6 a7 a8 a9 h2 h3
end GFo
