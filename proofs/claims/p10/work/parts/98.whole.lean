/-- every script of at most N ints: the small machine's law says 1 -/
def xLaw (N : Nat) : Prop := ∀ (L : Nat) (xs : Nat → Int32), L ≤ N → ∃ (hp' : List xC) (ks' : Nat), X 650 191 (0, [(0, .ref 0)], [], [.inl (0, L, .inl xs)], 0) (.inl (some (.int 1)), hp', ks') ∧ hp'.length - 1 ≤ 600128 ∧ ks' ≤ 7301098
theorem x_laws : xLaw 448 := x_law448
theorem whole_start {p : Program} {e : Env} {s : State} {m : MethodId} {below : List Frame} {meth : Method} {c : Code} (l : Launch) (hl0 : l.stackTraces = false) (htab : c.exceptionTable.toList = []) {b L : Nat} {xs : Nat → Int32} (hL : L ≤ 448) (C0 : lw_At p s m meth c b L xs) : W p l e room_1 s m #[Value.ref b] below meth c s.heap [] 0 0 (lw_Z below #[Value.ref b] s) (entryFrame m ([Value.ref b] : List Value).toArray 7) := by
  obtain ⟨hp', ks', h1, h2, h3⟩ := x_laws L xs hL
  exact x_lawR l hl0 htab C0 ⟨by decide, by decide⟩ h1 h2 h3
