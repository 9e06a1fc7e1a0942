section XT
variable {p : Program} {l : Launch} {e : Env} {R : Room} {s : State} {m : MethodId} {args : Array Value} {below : List Frame} {meth : Method} {c : Code} {H : Heap} {locs : List Loc} {cells slots : Nat} {Q : State → Prop}
variable {D : va_G} {dA : Nat → ClassId} {b : xS} {B oc nL : Nat} {ini : Bool} {cc : ByteArray} {pc : Nat} {ls : Array Slot} {lv : xL} {st : List Value} {hp : List xC} {ks : Nat}
/-- one instruction that calls nothing -/
theorem xs_sound (hT : xTab) (M : xM p s m args meth c D dA b B oc nL ini cc) {i : Instr} {len : Nat} {pc' : Nat} {lv' : xL} {st' : List Value} {hp' : List xC} {ks' : Nat} (h : xs oc nL ini i len (pc, lv, st, hp, ks) = some (pc', lv', st', hp', ks')) (hd : decode cc pc = .ok (i, len))
    (hl : lv_has ls nL (lv.map (xm b B))) (hP : xP b B D dA hp H) (hS : va_S (fun q => B ≤ q) s.heap H locs) (hc : cells + (hp'.length - hp.length) ≤ R.cells) (hs : slots + (ks' - ks) ≤ R.slots)
    (kk : ∀ (H1 : Heap) (locs1 : List Loc) (ls' : Array Slot), xP b B D dA hp' H1 → va_S (fun q => B ≤ q) s.heap H1 locs1 → lv_has ls' nL (lv'.map (xm b B)) → W p l e R s m args below meth c H1 locs1 (cells + (hp'.length - hp.length)) (slots + (ks' - ks)) Q (F0 m pc' ls' (st'.map (xv b B)))) :
    W p l e R s m args below meth c H locs cells slots Q (F0 m pc ls (st.map (xv b B))) := by
  unfold xs at h
  dsimp only at h
  split at h
  · rename_i v h1
    cases h
    simp only [Nat.sub_self, Nat.add_zero] at kk
    exact xs1_sound hT M h1 hd hl (kk H locs ls hP hS hl)
  split at h
  · rename_i v h1
    cases h
    simp only [Nat.sub_self, Nat.add_zero] at kk
    exact xs6_sound hT M h1 hd hP hS (kk H locs ls hP hS hl)
  split at h
  · rename_i v h1
    cases h
    simp only [Nat.sub_self, Nat.add_zero] at kk
    split at h1
    · rename_i hn
      subst hn
      exact xs3_sound M h1 hd (kk H locs ls hP hS hl)
    · cases h1
  split at h
  · rename_i t v h1
    cases h
    simp only [Nat.sub_self, Nat.add_zero] at kk
    exact xs5_sound M h1 hd (kk H locs ls hP hS hl)
  split at h
  · rename_i t v h1
    cases h
    simp only [Nat.sub_self, Nat.add_zero] at kk
    exact xs4_sound M h1 hd hl (fun ls' hl' => kk H locs ls' hP hS hl')
  split at h
  · rename_i t v h1
    cases h
    have hlen : hp'.length - hp.length = 0 := by
      have hz : hp'.length = hp.length := by
        unfold xs7 at h1
        split at h1 <;> (try (cases h1; done)) <;> split at h1 <;> (try (cases h1; done)) <;> split at h1 <;> (try (cases h1; done)) <;> split at h1 <;> (try (cases h1; done)) <;> (try (split at h1 <;> (try (cases h1; done)))) <;> cases h1 <;> simp
      omega
    rw [hlen] at kk
    simp only [Nat.sub_self, Nat.add_zero] at kk
    exact xs7_sound hT M h1 hd hP hS (fun H1 locs1 hP1 hS1 => kk H1 locs1 ls hP1 hS1 hl)
  split at h
  · rename_i t q n h1
    cases h
    simp only [List.length_append, List.length_cons, List.length_nil, Nat.add_sub_cancel_left] at kk hc hs
    exact xs8_sound hT M h1 hd hP hS hc hs (fun H1 hP1 hS1 => kk H1 locs ls hP1 hS1 hl)
  · cases h
theorem xs_mono {i : Instr} {len : Nat} {pc' : Nat} {lv' : xL} {st' : List Value} {hp' : List xC} {ks' : Nat} (h : xs oc nL ini i len (pc, lv, st, hp, ks) = some (pc', lv', st', hp', ks')) : hp.length ≤ hp'.length ∧ ks ≤ ks' := by
  unfold xs at h
  dsimp only at h
  split at h
  · cases h; exact ⟨Nat.le_refl _, Nat.le_refl _⟩
  split at h
  · cases h; exact ⟨Nat.le_refl _, Nat.le_refl _⟩
  split at h
  · cases h; exact ⟨Nat.le_refl _, Nat.le_refl _⟩
  split at h
  · cases h; exact ⟨Nat.le_refl _, Nat.le_refl _⟩
  split at h
  · cases h; exact ⟨Nat.le_refl _, Nat.le_refl _⟩
  split at h
  · rename_i t v h1
    cases h
    refine ⟨Nat.le_of_eq ?_, Nat.le_refl _⟩
    unfold xs7 at h1
    split at h1 <;> (try (cases h1; done)) <;> split at h1 <;> (try (cases h1; done)) <;> split at h1 <;> (try (cases h1; done)) <;> split at h1 <;> (try (cases h1; done)) <;> (try (split at h1 <;> (try (cases h1; done)))) <;> cases h1 <;> simp
  split at h
  · cases h
    exact ⟨by simp, by omega⟩
  · cases h
theorem xs9_len {i : Instr} {len : Nat} {st' : List Value} {hp' : List xC} (h : xs9 oc i len st hp = some (st', hp')) : hp'.length = hp.length := by
  unfold xs9 at h
  split at h <;> (try (cases h; done)) <;> split at h <;> (try (cases h; done))
  · cases h; rfl
  · split at h <;> (try (cases h; done))
    split at h <;> (try (cases h; done))
    cases h
    simp
  · cases h; rfl
  · split at h <;> (try (cases h; done))
    cases h; rfl
theorem xrun_mono : ∀ (n d k : Nat) (g : xG) (o : xO) (hp' : List xC) (ks' : Nat), xrun n d k g = some (o, hp', ks') → g.2.2.2.1.length ≤ hp'.length ∧ g.2.2.2.2 ≤ ks' := by
  intro n
  induction n with
  | zero => intro d k g o hp' ks' h; simp [xrun] at h
  | succ n ih =>
    intro d k g o hp' ks' h
    obtain ⟨pc, lv, st, hp, ks⟩ := g
    unfold xrun at h
    dsimp only at h
    split at h <;> (try (cases h; done))
    split at h <;> (try (cases h; done))
    split at h
    · rename_i g' h1
      obtain ⟨pc1, lv1, st1, hp1, ks1⟩ := g'
      have q1 := xs_mono h1
      have q2 := ih _ _ _ _ _ _ h
      exact ⟨Nat.le_trans q1.1 q2.1, Nat.le_trans q1.2 q2.2⟩
    split at h
    · rename_i st1 hp1 h1
      have q2 := ih _ _ _ _ _ _ h
      have q1 := xs9_len h1
      exact ⟨by rw [← q1]; exact q2.1, q2.2⟩
    split at h
    · cases h; exact ⟨Nat.le_refl _, Nat.le_refl _⟩
    split at h
    · split at h <;> (try (cases h; done))
      split at h <;> (try (cases h; done))
      split at h <;> (try (cases h; done))
      · rename_i v hp1 ks1 h1
        have q1 := ih _ _ _ _ _ _ h1
        have q2 := ih _ _ _ _ _ _ h
        exact ⟨Nat.le_trans q1.1 q2.1, Nat.le_trans q1.2 q2.2⟩
      · rename_i ci hp1 ks1 h1
        have q1 := ih _ _ _ _ _ _ h1
        obtain ⟨r, hr, h⟩ := Option.map_eq_some_iff.mp h
        cases h
        exact q1
    · split at h
      · split at h <;> (try (cases h; done))
        cases h
        exact ⟨by simp, Nat.le_add_right _ _⟩
      · split at h <;> (try (cases h; done))
        have q2 := ih _ _ _ _ _ _ h
        dsimp only at q2
        rw [List.length_append] at q2
        exact ⟨Nat.le_trans (Nat.le_add_right _ _) q2.1, Nat.le_trans (Nat.le_add_right _ _) q2.2⟩
end XT
