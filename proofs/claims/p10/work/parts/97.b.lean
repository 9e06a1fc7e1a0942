/-! a cell outside the picture -/
section SH
theorem jRep.skip {b : Bool} {ph : Nat → Nat → Nat} {w : jW} {H : jH} {hp : List xC} (hR : jRep b ph w H hp) (x : xC) (s : Nat) : jRep b ph (w.1, w.2.1 + 1, s) H (hp ++ [x]) := by
  have hlt : ∀ {k p}, jD b w k p → ph k p < hp.length := fun h => jRep.lt hR h
  obtain ⟨r1, r2, r3, r4, r5, r6, r7, r8⟩ := hR
  refine ⟨fun c p hc hD => ?_, fun k p t n tk hk hD => ?_, r3, r4, r5, ?_, r7, Nat.succ_pos _, fun k p h => ⟨Nat.lt_succ_of_lt (r8.2 k p h).1, (r8.2 k p h).2⟩⟩
  · rw [List.getElem?_append_left (hlt hD)]
    exact r1 c p hc hD
  · rw [List.getElem?_append_left (hlt hD)]
    exact r2 k p t n tk hk hD
  · rw [List.length_append, ← r6]
    rfl
/-- the picture of the script alone -/
theorem jRep.one (x : xC) (H : jH) (s : Nat) : jRep false (fun _ p => p) (fun _ _ => False, 1, s) H [x] := by
  have no : ∀ {k p}, ¬ jD false ((fun _ _ => False, 1, s) : jW) k p := fun {k p} h => by
    unfold jD at h
    split at h
    · cases h.1
    · exact h
  exact ⟨fun c p _ h => absurd h no, fun k p t n tk _ h => absurd h no, fun k p k' p' h => absurd h no, fun k p h => absurd h no, fun k p _ => rfl, rfl, fun p h => absurd h (fun z => z), Nat.one_pos, fun k p h => absurd h (fun z => z)⟩
end SH
