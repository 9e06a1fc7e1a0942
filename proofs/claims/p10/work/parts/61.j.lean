/-! new rows, copies of rows, static calls of nest mates -/
section JN2
variable {b : Bool} {ph : Nat → Nat → Nat} {w : jW} {H : jH} {hp : List xC} {Post : jO → jW → jH → Prop} {d k pc : Nat} {q : xMt} {lv : jL} {st : List jV}
/-- whose row a kind is -/
def jko (k : Nat) : Option (Nat × Nat) := ((List.range 12).flatMap fun c => (List.range (jfn c)).map fun j => (c, j)).find? fun z => match jft z.1 z.2 with
  | some (1, k') => Nat.beq k' k
  | _ => false
set_option maxRecDepth 20000 in
theorem jko_all : ((List.range 12).all fun c => (List.range (jfn c)).all fun j => match jft c j with
  | some (1, k) => decide (jko k = some (c, j))
  | _ => true) = true := by decide +kernel
theorem jko_ok {c j k : Nat} (h : jft c j = some (1, k)) : jko k = some (c, j) := by
  have hl := jft_lt h
  have h1 := List.all_eq_true.mp (List.all_eq_true.mp jko_all c (List.mem_range.mpr hl.1)) j (List.mem_range.mpr hl.2)
  rw [h] at h1
  exact of_decide_eq_true h1
theorem jclamp {n : Int} (h0 : 0 ≤ n) (h1 : n ≤ 1000000) : ¬ (Int32.ofInt n) < 0 ∧ (Int32.ofInt n).toNatClampNeg = n.toNat := by
  have h2 := jin_ok (x := n) (n := n + 1) h0 (by omega) (by omega)
  refine ⟨fun z => ?_, ?_⟩
  · have h3 := h2.1
    unfold xin at h3
    simp [z] at h3
  · have h3 := h2.2
    omega
/-- a row is made and put into a field -/
theorem J.nrow {ix c j kr p tk t len sz : Nat} {n : Int} {row : xC} {H' : jH} (hq : xmts[k]? = some q) (hstep : ∀ (lv' : xL) (st' : List Value) (hp' : List xC) (ks' : Nat), xst k (pc, lv', .int (Int32.ofInt n) :: st', hp', ks') = some (pc + len, lv', .ref hp'.length :: st', hp' ++ [row], ks' + sz)) (hi2 : xat k (pc + len) = some (.putfield ix, 3)) (hl : xlk xfls q.1 ix = some (c, j)) (hft : jft c j = some (1, kr)) (hrk : jrk kr = some (t, n, tk)) (hfin : (jfin c j && !(xinis.contains k && Nat.beq q.1 c)) = false) (hc : Nat.ble c 10 = true) (hcn : jcn kr = false) (hdr : jdr kr = false) (hD : w.1 c p) (hnew : ¬ w.1 kr p) (hst : jstP b w lv st)
    (hH1 : H'.1 = H.1 ∧ H'.2.1 = H.2.1 ∧ H'.2.2.2.2 = H.2.2.2.2) (hH2 : ∀ k' p', ¬ (k' = kr ∧ p' = p) → H'.2.2.1 k' p' = H.2.2.1 k' p' ∧ H'.2.2.2.1 k' p' = H.2.2.2.1 k' p') (hrow : ∀ ph' : Nat → Nat → Nat, jrw ph' H' kr p t n tk = row)
    (hx : J b d k (jwA w kr p sz) (pc + len + 3, lv, st, H') Post) : J b d k w (pc, lv, .inl n :: .inr (some (c, p)) :: st, H) Post := by
  intro ph hp hR
  have hR : jRep b ph w H hp := hR
  have hwc := hR.2.2.2.2.2.2.2
  have hle := hR.2.2.2.2.2.1
  have hc12 : c < 12 := by have := Nat.le_of_ble_eq_true hc; omega
  have hDc : jD b w c p := (jD_w (jcn_lo hc)).mpr hD
  have hlt := hR.lt hDc
  have hpos := hR.2.2.2.1 c p hDc
  have hcell := hR.1 c p hc12 hDc
  have hkr12 := (jrk_small hrk).2
  have hlj := jft_lt hft
  have hlpos : 0 < hp.length := by omega
  have hko := jko_ok hft
  generalize hph' : (fun k' p' => if k' = kr ∧ p' = p then hp.length else ph k' p' : Nat → Nat → Nat) = ph'
  have hne : ∀ k' p', ¬ (k' = kr ∧ p' = p) → ph' k' p' = ph k' p' := fun k' p' h => by
    rw [← hph']
    exact if_neg h
  have hat : ph' kr p = hp.length := by
    rw [← hph']
    exact if_pos ⟨rfl, rfl⟩
  have hold : ∀ {k' p'}, jD b w k' p' → ¬ (k' = kr ∧ p' = p) := fun {k' p'} h e => by
    rw [e.1, e.2] at h
    exact hnew ((jD_w hcn).mp h)
  have hdrs : ∀ k', jdr k' = true → ph' k' = ph k' := fun k' h => by
    funext p'
    refine hne k' p' fun e => ?_
    rw [e.1, hdr] at h
    cases h
  have hfs : ((List.range (jfn c)).map (jfv ph H c p)).set j (.ref hp.length) = (List.range (jfn c)).map (jfv ph' H' c p) := by
    refine jfs_set ?_ fun j' hj' => ?_
    · unfold jfv
      rw [hft]
      show va_z (ph' kr p) = _
      rw [hat]
      obtain ⟨a, ha⟩ : ∃ a, hp.length = a + 1 := ⟨hp.length - 1, by omega⟩
      rw [ha]
      rfl
    · unfold jfv
      rw [hH1.1, hH1.2.1, hH1.2.2]
      cases hf : jft c j' with
      | none => rfl
      | some z =>
        have hT := jT2_at hf
        rw [hf] at hT
        obtain ⟨t', k'⟩ := z
        match t', hf, hT with
        | 0, hf, hT => rfl
        | 1, hf, hT =>
          show va_z (ph' k' p) = va_z (ph k' p)
          rw [hne k' p fun e => ?_]
          rw [e.1] at hf
          have := (jko_ok hf).symm.trans hko
          cases this
          exact hj' rfl
        | 2, hf, hT =>
          show va_rf ((H.2.1 c j' p).map (ph' k')) = va_rf ((H.2.1 c j' p).map (ph k'))
          rw [hdrs k' hT]
        | t' + 3, hf, hT =>
          show (match H.2.2.2.2 c j' p with | 0 => Value.null | q + 1 => .ref (ph' k' (q + 1))) = (match H.2.2.2.2 c j' p with | 0 => Value.null | q + 1 => .ref (ph k' (q + 1)))
          rw [hdrs k' hT]
  have hgl : ∀ (y : xC) (a : Nat), a < hp.length → a ≠ ph c p → ((hp ++ [row]).set (ph c p) y)[a]? = hp[a]? := fun y a h1 h2 => by
    rw [List.getElem?_set_ne (Ne.symm h2), List.getElem?_append_left h1]
  have hadd := hR.add (kd := kr) (p0 := p) (s := sz) (hp' := (hp ++ [row]).set (ph c p) (.inr (c, ((List.range (jfn c)).map (jfv ph H c p)).set j (.ref hp.length)))) (H' := H') (ph' := ph') (by unfold jkd; rw [hcn, hrk]; simp) hcn (Nat.le_of_lt (hwc.2 c p hD).1) hat (fun k' p' h => hne k' p' (hold h)) (fun k' h _ => hdrs k' h) (fun h => by rw [hdr] at h; cases h) (by rw [List.length_set, List.length_append]; rfl) ?_ ?_ ?_ ?_ ?_
  · obtain ⟨hR', hE⟩ := hadd
    obtain ⟨o, w2, H2, ph2, hp2, hX, hR2, hE2, hF2, hP⟩ := hx ph' _ hR'
    have hF : jF b ph w hp ((hp ++ [row]).set (ph c p) (.inr (c, ((List.range (jfn c)).map (jfv ph H c p)).set j (.ref hp.length)))) := fun a h1 h2 => hgl _ a (by omega) fun e => h2 c p hDc e.symm
    refine ⟨o, w2, H2, ph2, hp2, ?_, hR2, hE.trans hE2, jF.trans hE hF hF2, hP⟩
    have hs := jstP_ok hR hR' hE hst
    obtain ⟨ty, hty⟩ : ∃ ty, xtys[c]? = some ty := ⟨_, List.getElem?_eq_getElem (show c < xtys.length from hc12)⟩
    have h3 := jtok_ok hft
    unfold jtok at h3
    rw [hty, hft] at h3
    unfold jfin at hfin
    cases hz : xcl[c]? with
    | none =>
      have := List.getElem?_eq_none_iff.mp hz
      have h15 : xcl.length = 15 := by decide
      omega
    | some r =>
      rw [hz] at hfin
      dsimp only at hfin
      have hfin' : (r.2.1 j).2.2.2 = false ∨ decide (q.2.1.name = "<init>") = true ∧ some (r.2.1 j).1 = xowns[q.1]? := by
        cases hff : (r.2.1 j).2.2.2 with
        | false => exact Or.inl rfl
        | true =>
          rw [hff] at hfin
          simp only [Bool.true_and, Bool.not_eq_false', Bool.and_eq_true] at hfin
          have hoc : q.1 = c := Nat.eq_of_beq_eq_true hfin.2
          refine Or.inr ⟨by rw [← xinis_ok hq]; exact hfin.1, ?_⟩
          rw [hoc]
          exact jown_ok hz hc12 hlj.2
      refine X.one (hstep (jml ph lv) (Value.ref (ph c p) :: st.map (jm ph)) hp w.2.2) ?_
      have hpf := xs_pf (hp := hp ++ [row]) (nL := q.2.2.2.1) (pc := pc + len) (ks := w.2.2 + sz) (ini := decide (q.2.1.name = "<init>")) (lv := jml ph lv) (st := st.map (jm ph)) (v := .ref hp.length) hl hz hty hfin' (by rw [List.getElem?_append_left hlt]; exact hcell) hpos (by rw [List.length_map, List.length_range]; exact hlj.2) (jtr_ok h3 (Or.inr ⟨_, rfl⟩))
      refine X.one (g' := (pc + len + 3, jml ph lv, st.map (jm ph), (hp ++ [row]).set (ph c p) (.inr (c, ((List.range (jfn c)).map (jfv ph H c p)).set j (.ref hp.length))), w.2.2 + sz)) ?_ ?_
      · simp only [xst, hq, hi2, hpf]
      · have := hX
        dsimp only at this
        rw [hs.1, hs.2] at this
        exact this
  · intro c' p' hc' hD'
    by_cases he : c' = c ∧ p' = p
    · obtain ⟨rfl, rfl⟩ := he
      rw [List.getElem?_set_self (by rw [List.length_append]; exact Nat.lt_succ_of_lt hlt), hfs]
    · have hpl : ph c' p' ≠ ph c p := fun z => he (hR.2.2.1 _ _ _ _ hD' hDc z)
      rw [hgl _ _ (hR.lt hD') hpl, hR.1 c' p' hc' hD']
      have e : jfv ph' H' c' p' = jfv ph H c' p' := by
        refine jfv_eq (fun j => by rw [hH1.1, hH1.2.1, hH1.2.2]; exact ⟨rfl, rfl, rfl⟩) (fun j' k' hf => hne k' p' fun e => ?_) hdrs
        rw [e.1] at hf
        have := (jko_ok hf).symm.trans hko
        cases this
        exact he ⟨rfl, e.2⟩
      rw [e]
  · intro k' p' t' n' tk' hk' hD'
    have h12 := (jrk_small hk').2
    have hpl : ph k' p' ≠ ph c p := fun z => by have := (hR.2.2.1 _ _ _ _ hD' hDc z).1; omega
    rw [hgl _ _ (hR.lt hD') hpl, hR.2.1 k' p' t' n' tk' hk' hD', jrw_eq hk' ⟨by rw [hH1.1], hH2 k' p' (hold hD')⟩ hdrs]
  · intro h; omega
  · intro t' n' tk' hk'
    rw [hrk] at hk'
    cases hk'
    rw [List.getElem?_set_ne (by omega), List.getElem?_append_right (Nat.le_refl _), Nat.sub_self, hrow]
    rfl
  · rintro p' (h | ⟨h, _⟩)
    · rw [hH1.1]; exact hR.2.2.2.2.2.2.1 p' h
    · rw [← h] at hdr; cases hdr
theorem J.nri {ix c j kr p tk : Nat} {n : Int} (hq : xmts[k]? = some q) (hi : xat k pc = some (.newarray .int, 2)) (hi2 : xat k (pc + 2) = some (.putfield ix, 3)) (hl : xlk xfls q.1 ix = some (c, j)) (hft : jft c j = some (1, kr)) (hrk : jrk kr = some (0, n, tk)) (hfin : (jfin c j && !(xinis.contains k && Nat.beq q.1 c)) = false) (hc : Nat.ble c 10 = true) (hcn : jcn kr = false) (hdr : jdr kr = false) (h0 : 0 ≤ n ∧ n ≤ 1000000) (hD : w.1 c p) (hnew : ¬ w.1 kr p) (hst : jstP b w lv st)
    (hx : J b d k (jwA w kr p n.toNat) (pc + 5, lv, st, H.1, H.2.1, jsetR H.2.2.1 kr p (fun _ => 0), H.2.2.2) Post) : J b d k w (pc, lv, .inl n :: .inr (some (c, p)) :: st, H) Post := by
  have hcl := jclamp h0.1 h0.2
  refine J.nrow (len := 2) (sz := n.toNat) (row := .inl (0, n.toNat, .inl fun _ => 0)) (H' := (H.1, H.2.1, jsetR H.2.2.1 kr p (fun _ => 0), H.2.2.2)) hq (fun lv' st' hp' ks' => ?_) hi2 hl hft hrk hfin hc hcn hdr hD hnew hst ⟨rfl, rfl, rfl⟩ (fun k' p' h => ⟨jsetR_ne h, rfl⟩) (fun ph' => ?_) hx
  · simp only [xst, hq, hi, xs, xs1, xs6, xs5, xs4, xs7, xs8, show ¬ ((2 : Nat) = 1) by decide, if_false]
    rw [if_pos ⟨trivial, hcl.1, by rw [hcl.2]; omega⟩]
    try dsimp only
    rw [hcl.2]
  · unfold jrw jlen
    try dsimp only
    rw [jsetR_eq]
    have h42 : Nat.beq kr 42 = false := by
      cases h : Nat.beq kr 42 with
      | false => rfl
      | true => rw [Nat.eq_of_beq_eq_true h] at hdr; cases hdr
    rw [h42]
    rfl
theorem J.nrr {ix ix2 c j kr p tk t : Nat} {n : Int} (hq : xmts[k]? = some q) (hi : xat k pc = some (.anewarray ix2, 3)) (hl2 : xlk xans q.1 ix2 = some (t + 3)) (ht : Nat.ble (t + 1) xovs.length = true) (hi2 : xat k (pc + 3) = some (.putfield ix, 3)) (hl : xlk xfls q.1 ix = some (c, j)) (hft : jft c j = some (1, kr)) (hrk : jrk kr = some (t + 3, n, tk)) (hfin : (jfin c j && !(xinis.contains k && Nat.beq q.1 c)) = false) (hc : Nat.ble c 10 = true) (hcn : jcn kr = false) (hdr : jdr kr = false) (h0 : 0 ≤ n ∧ n ≤ 1000000) (hD : w.1 c p) (hnew : ¬ w.1 kr p) (hst : jstP b w lv st)
    (hx : J b d k (jwA w kr p n.toNat) (pc + 6, lv, st, H.1, H.2.1, H.2.2.1, jsetR H.2.2.2.1 kr p (fun _ => none), H.2.2.2.2) Post) : J b d k w (pc, lv, .inl n :: .inr (some (c, p)) :: st, H) Post := by
  have hcl := jclamp h0.1 h0.2
  have ht' : t < xovs.length := Nat.le_of_ble_eq_true ht
  refine J.nrow (len := 3) (sz := n.toNat) (row := .inl (t + 3, n.toNat, .inr (.inr (.inr (.inr fun _ => none))))) (H' := (H.1, H.2.1, H.2.2.1, jsetR H.2.2.2.1 kr p (fun _ => none), H.2.2.2.2)) hq (fun lv' st' hp' ks' => ?_) hi2 hl hft hrk hfin hc hcn hdr hD hnew hst ⟨rfl, rfl, rfl⟩ (fun k' p' h => ⟨rfl, jsetR_ne h⟩) (fun ph' => ?_) hx
  · simp only [xst, hq, hi, xs, xs1, xs6, xs5, xs4, xs7, xs8, hl2, show ¬ ((3 : Nat) = 1) by decide, if_false]
    rw [if_pos ⟨trivial, hcl.1, by rw [hcl.2]; omega⟩]
    simp only [ht', if_true]
    rw [hcl.2]
  · have h42 : Nat.beq kr 42 = false := by
      cases h : Nat.beq kr 42 with
      | false => rfl
      | true => rw [Nat.eq_of_beq_eq_true h] at hdr; cases hdr
    unfold jrw jlen
    try dsimp only
    rw [jsetR_eq, h42]
    rfl
/-- the same but for a new row that is known by its own place -/
def jNd (H' H : jH) (kd p : Nat) (n : Int) : Prop := (∀ c j p', ¬ (c = 42 ∧ p' = p) → H'.1 c j p' = H.1 c j p') ∧ (kd = 42 → H'.1 42 0 p = n) ∧ H'.2.1 = H.2.1 ∧ H'.2.2.2.2 = H.2.2.2.2 ∧ H'.2.2.2.1 = H.2.2.2.1 ∧ (∀ k' p', ¬ (k' = kd ∧ p' = p) → H'.2.2.1 k' p' = H.2.2.1 k' p') ∧ ∀ i, H'.2.2.1 kd p i = 0
theorem J.nd {kd : Nat} {n : Int} (hq : xmts[k]? = some q) (hi : xat k pc = some (.newarray .int, 2)) (hkd : kd = 42 ∨ (kd = 43 ∧ n = 16)) (h0 : 0 ≤ n ∧ n ≤ 1000000) (hst : jstP b w lv st)
    (hx : ∀ H', jNd H' H kd w.2.1 n → jwc w → J b d k (jwA w kd w.2.1 n.toNat) (pc + 2, lv, .inr (some (kd, w.2.1)) :: st, H') Post) : J b d k w (pc, lv, .inl n :: st, H) Post := by
  intro ph hp hR
  have hR : jRep b ph w H hp := hR
  have hwc := hR.2.2.2.2.2.2.2
  have hle := hR.2.2.2.2.2.1
  have hcl := jclamp h0.1 h0.2
  have hcn : jcn kd = false := by rcases hkd with rfl | ⟨rfl, _⟩ <;> rfl
  have hdr : jdr kd = true := by rcases hkd with rfl | ⟨rfl, _⟩ <;> rfl
  have hkk : jkd kd = true := by rcases hkd with rfl | ⟨rfl, _⟩ <;> rfl
  have hN : jNd ((if kd = 42 then jupF H.1 42 0 w.2.1 n else H.1), H.2.1, jsetR H.2.2.1 kd w.2.1 (fun _ => 0), H.2.2.2) H kd w.2.1 n := by
    refine ⟨fun c j p' h => ?_, fun h => ?_, rfl, rfl, rfl, fun k' p' h => jsetR_ne h, fun i => ?_⟩
    · dsimp only
      split
      · exact jupF_ne fun z => h ⟨z.1, z.2.2⟩
      · rfl
    · dsimp only
      rw [if_pos h]
      exact jupF_eq
    · show jsetR H.2.2.1 kd w.2.1 (fun _ => 0) kd w.2.1 i = 0
      rw [jsetR_eq]
  generalize hH' : ((if kd = 42 then jupF H.1 42 0 w.2.1 n else H.1), H.2.1, jsetR H.2.2.1 kd w.2.1 (fun _ => 0), H.2.2.2) = H' at hN
  have hpc : ph kd w.2.1 = hp.length := by rw [hR.2.2.2.2.1 kd _ hdr, hle]
  have hold : ∀ {k' p'}, jD b w k' p' → ¬ (k' = kd ∧ p' = w.2.1) := fun {k' p'} h e => by
    have := (hwc.2 k' p' ((jD_w (by rw [e.1]; exact hcn)).mp h)).1
    omega
  have hrow : ∀ t m tk, jrk kd = some (t, m, tk) → jrw ph H' kd w.2.1 t m tk = .inl (0, n.toNat, .inl fun _ => 0) := by
    intro t m tk hk
    have ez : (fun i : Nat => Int32.ofInt (H'.2.2.1 kd w.2.1 i)) = fun _ => 0 := by
      funext i
      rw [hN.2.2.2.2.2.2 i]
      rfl
    rcases hkd with rfl | ⟨rfl, rfl⟩
    · cases hk
      show Sum.inl (0, (H'.1 42 0 w.2.1).toNat, Sum.inl fun i : Nat => Int32.ofInt (H'.2.2.1 42 w.2.1 i)) = _
      rw [ez, hN.2.1 rfl]
    · cases hk
      show Sum.inl (0, (16 : Int).toNat, Sum.inl fun i : Nat => Int32.ofInt (H'.2.2.1 43 w.2.1 i)) = _
      rw [ez]
  have hadd := hR.add (kd := kd) (p0 := w.2.1) (s := n.toNat) (hp' := hp ++ [.inl (0, n.toNat, .inl fun _ => 0)]) (H' := H') (ph' := ph) hkk hcn (Nat.le_refl _) hpc (fun _ _ _ => rfl) (fun _ _ _ => rfl) (fun _ => hle) (by rw [List.length_append]; rfl) ?_ ?_ ?_ ?_ ?_
  · obtain ⟨hR', hE⟩ := hadd
    obtain ⟨o, w2, H2, ph2, hp2, hX, hR2, hE2, hF2, hP⟩ := hx H' hN hwc ph _ hR'
    have hF : jF b ph w hp (hp ++ [.inl (0, n.toNat, .inl fun _ => 0)]) := fun p hp0 _ => List.getElem?_append_left (by rw [← hle]; exact hp0)
    refine ⟨o, w2, H2, ph2, hp2, ?_, hR2, hE.trans hE2, jF.trans hE hF hF2, hP⟩
    refine X.nai hq hi hcl.1 (by rw [hcl.2]; omega) ?_
    rw [hcl.2, ← hpc]
    exact hX
  · intro c' p' hc' hD
    rw [List.getElem?_append_left (hR.lt hD), hR.1 c' p' hc' hD]
    have e : jfv ph H' c' p' = jfv ph H c' p' := jfv_eq (fun j => ⟨hN.1 c' j p' fun z => by omega, by rw [hN.2.2.1], by rw [hN.2.2.2.1]⟩) (fun _ _ _ => rfl) (fun _ _ => rfl)
    rw [e]
  · intro k' p' t m tk hk hD
    rw [List.getElem?_append_left (hR.lt hD), hR.2.1 k' p' t m tk hk hD]
    by_cases h42 : k' = 42
    · have hp' : ¬ p' = w.2.1 := fun e => by
        rw [h42] at hD
        have := (hwc.2 42 p' ((jD_w rfl).mp hD)).1
        omega
      rw [jrw_eq hk ⟨hN.1 42 0 p' fun z => hp' z.2, hN.2.2.2.2.2.1 k' p' (hold hD), by rw [hN.2.2.2.2.1]⟩ (fun _ _ => rfl)]
    · have e1 : Nat.beq k' 42 = false := by
        cases h : Nat.beq k' 42 with
        | false => rfl
        | true => exact absurd (Nat.eq_of_beq_eq_true h) h42
      unfold jrw jlen
      rw [e1, hN.2.2.2.2.2.1 k' p' (hold hD), hN.2.2.2.2.1]
  · intro h; rcases hkd with rfl | ⟨rfl, _⟩ <;> omega
  · intro t m tk hk
    rw [List.getElem?_append_right (Nat.le_refl _), Nat.sub_self, hrow t m tk hk]
    rfl
  · rintro p (h | ⟨h, h2⟩)
    · have hlt := (hwc.2 42 p h).1
      rw [hN.1 42 0 p fun z => by omega]
      exact hR.2.2.2.2.2.2.1 p h
    · rw [h2, hN.2.1 h.symm]
      omega
def jcpy (f g : Int → Int) (sp dp n : Int) : Int → Int := fun i => if dp ≤ i ∧ i < dp + n then f (sp + (i - dp)) else g i
/-- System.arraycopy of ints -/
theorem J.cpy {ix k1 p1 k2 p2 tk1 tk2 : Nat} {n n1 n2 sp dp : Int} (hq : xmts[k]? = some q) (hi : xat k pc = some (.invokestatic ix, 3)) (hl : xlk xivs q.1 ix = some (7, 0)) (h1 : jrk k1 = some (0, n1, tk1)) (h2 : jrk k2 = some (0, n2, tk2)) (hne : ¬ (k1 = k2 ∧ p1 = p2)) (hr : Nat.ble st.length 8 = true) (hD1 : jD b w k1 p1) (hD2 : jD b w k2 p2) (h0 : 0 ≤ sp ∧ 0 ≤ dp ∧ 0 ≤ n) (hs : sp + n ≤ jlen H k1 p1 n1) (hd : dp + n ≤ jlen H k2 p2 n2)
    (hx : J b d k w (pc + 3, lv, st, H.1, H.2.1, jsetR H.2.2.1 k2 p2 (jcpy (H.2.2.1 k1 p1) (H.2.2.1 k2 p2) sp dp n), H.2.2.2) Post) : J b d k w (pc, lv, .inl n :: .inl dp :: .inr (some (k2, p2)) :: .inl sp :: .inr (some (k1, p1)) :: st, H) Post := by
  intro ph hp hR
  have hR : jRep b ph w H hp := hR
  have c1 := hR.2.1 k1 p1 0 n1 tk1 h1 hD1
  have c2 := hR.2.1 k2 p2 0 n2 tk2 h2 hD2
  have s1 := jlen_small hR h1 hD1
  have s2 := jlen_small hR h2 hD2
  have g1 := hR.2.2.2.1 k1 p1 hD1
  have g2 := hR.2.2.2.1 k2 p2 hD2
  have hpl : ph k1 p1 ≠ ph k2 p2 := fun z => hne (hR.2.2.1 _ _ _ _ hD1 hD2 z)
  have cl : ∀ x : Int, 0 ≤ x → x ≤ 2147483647 → ¬ (Int32.ofInt x) < 0 ∧ ((Int32.ofInt x).toNatClampNeg : Int) = x := fun x a b => by
    have e := jof_lt (x := x) (y := 0) ⟨by omega, b⟩ ⟨by decide, by decide⟩
    have hnn : ¬ (Int32.ofInt x) < 0 := fun z => by have := e.mp z; omega
    refine ⟨hnn, ?_⟩
    have ht : (Int32.ofInt x).toInt = x := Int32.toInt_ofInt_of_le (by omega) (by omega)
    have : (Int32.ofInt x).toNatClampNeg = (Int32.ofInt x).toInt.toNat := rfl
    rw [this, ht]
    omega
  have a1 := cl sp h0.1 (by omega)
  have a2 := cl dp h0.2.1 (by omega)
  have a3 := cl n h0.2.2 (by omega)
  have hrw : jrw ph (H.1, H.2.1, jsetR H.2.2.1 k2 p2 (jcpy (H.2.2.1 k1 p1) (H.2.2.1 k2 p2) sp dp n), H.2.2.2) k2 p2 0 n2 tk2 = .inl (0, (jlen H k2 p2 n2).toNat, .inl (va_cpy (fun i => Int32.ofInt (H.2.2.1 k1 p1 i)) (fun i => Int32.ofInt (H.2.2.1 k2 p2 i)) (Int32.ofInt sp).toNatClampNeg (Int32.ofInt dp).toNatClampNeg (Int32.ofInt n).toNatClampNeg)) := by
    show Sum.inl (0, (jlen H k2 p2 n2).toNat, Sum.inl fun i : Nat => Int32.ofInt (jsetR H.2.2.1 k2 p2 (jcpy (H.2.2.1 k1 p1) (H.2.2.1 k2 p2) sp dp n) k2 p2 i)) = _
    rw [jsetR_eq]
    have e : (fun i : Nat => Int32.ofInt (jcpy (H.2.2.1 k1 p1) (H.2.2.1 k2 p2) sp dp n i)) = va_cpy (fun i : Nat => Int32.ofInt (H.2.2.1 k1 p1 i)) (fun i : Nat => Int32.ofInt (H.2.2.1 k2 p2 i)) (Int32.ofInt sp).toNatClampNeg (Int32.ofInt dp).toNatClampNeg (Int32.ofInt n).toNatClampNeg := by
      funext i
      unfold jcpy va_cpy
      by_cases hc : dp ≤ (i : Int) ∧ (i : Int) < dp + n
      · rw [if_pos hc, if_pos (by omega)]
        rw [show (sp + ((i : Int) - dp)) = (((Int32.ofInt sp).toNatClampNeg + (i - (Int32.ofInt dp).toNatClampNeg) : Nat) : Int) by omega]
      · rw [if_neg hc, if_neg (by omega)]
    rw [e]
  have hnew := jrow_ok hR h2 hD2 (H' := (H.1, H.2.1, jsetR H.2.2.1 k2 p2 (jcpy (H.2.2.1 k1 p1) (H.2.2.1 k2 p2) sp dp n), H.2.2.2)) ⟨rfl, rfl, rfl⟩ hrw (fun k' p' h => ⟨jsetR_ne h, rfl⟩)
  obtain ⟨o, w', H', ph', hp', hX, r2, r3, r4, r5⟩ := hx ph _ hnew.1
  refine ⟨o, w', H', ph', hp', X.one ?_ hX, r2, r3, jF.trans (jE.refl _ _ _) hnew.2 r4, r5⟩
  obtain ⟨y1, e1⟩ : ∃ y, ph k1 p1 = y + 1 := ⟨ph k1 p1 - 1, by omega⟩
  obtain ⟨y2, e2⟩ : ∃ y, ph k2 p2 = y + 1 := ⟨ph k2 p2 - 1, by omega⟩
  show xst k (pc, jml ph lv, Value.int (Int32.ofInt n) :: .int (Int32.ofInt dp) :: .ref (ph k2 p2) :: .int (Int32.ofInt sp) :: .ref (ph k1 p1) :: st.map (jm ph), hp, w.2.2) = some (pc + 3, jml ph lv, st.map (jm ph), hp.set (ph k2 p2) _, w.2.2)
  rw [e1] at c1 hpl ⊢
  rw [e2] at c2 hpl ⊢
  have x1 : xs q.1 q.2.2.2.1 (decide (q.2.1.name = "<init>")) (.invokestatic ix) 3 (pc, jml ph lv, Value.int (Int32.ofInt n) :: .int (Int32.ofInt dp) :: .ref (y2 + 1) :: .int (Int32.ofInt sp) :: .ref (y1 + 1) :: st.map (jm ph), hp, w.2.2) = none := by
    simp only [xs, xs1, xs6, xs5, xs4, xs7, xs8, show ¬ ((3 : Nat) = 1) by decide, if_false]
  have x9 : xs9 q.1 (.invokestatic ix) 3 (Value.int (Int32.ofInt n) :: .int (Int32.ofInt dp) :: .ref (y2 + 1) :: .int (Int32.ofInt sp) :: .ref (y1 + 1) :: st.map (jm ph)) hp = some (st.map (jm ph), hp.set (y2 + 1) (.inl (0, (jlen H k2 p2 n2).toNat, .inl (va_cpy (fun i => Int32.ofInt (H.2.2.1 k1 p1 i)) (fun i => Int32.ofInt (H.2.2.1 k2 p2 i)) (Int32.ofInt sp).toNatClampNeg (Int32.ofInt dp).toNatClampNeg (Int32.ofInt n).toNatClampNeg)))) := by
    have c1' : hp[y1 + 1]? = some (.inl (0, (jlen H k1 p1 n1).toNat, .inl fun i : Nat => Int32.ofInt (H.2.2.1 k1 p1 i))) := c1
    have c2' : hp[y2 + 1]? = some (.inl (0, (jlen H k2 p2 n2).toNat, .inl fun i : Nat => Int32.ofInt (H.2.2.1 k2 p2 i))) := c2
    simp only [xs9, hl]
    rw [if_pos ⟨trivial, trivial, fun z => hpl (by rw [z]), by rw [jcat_ok]; exact Nat.le_of_ble_eq_true hr⟩]
    simp only [c1', c2']
    rw [if_pos ⟨a1.1, a2.1, a3.1, by omega, by omega⟩]
  simp only [xst, hq, hi, x1, x9]
/-- a static method of a nest mate -/
theorem J.ins4 {k' ix kd : Nat} {q' : xMt} {as rest : List jV} {Q : Option jV → jW → jH → Prop} (hq : xmts[k]? = some q) (hi : xat k pc = some (.invokestatic ix, 3)) (hl : xlk xivs q.1 ix = some (kd, k')) (hkd : kd = 1 ∨ kd = 4 ∨ kd = 8) (hq' : xmts[k']? = some q') (htk : jtk q'.2.2.2.2.2 st = some (as, rest)) (hk : Nat.ble 170 k' = false) (hr : Nat.ble rest.length 8 = true) (hw : Nat.ble as.length q'.2.2.2.1 = true) (hst : jstP b w lv rest)
    (h1 : J b d k' w (0, jargs 0 as, [], H) (jN Q)) (h2 : ∀ v w' H', Q v w' H' → J b (d + 1) k w' (pc + 3, lv, v.toList ++ rest, H') Post) : J b (d + 1) k w (pc, lv, st, H) Post := by
  intro ph hp hR
  obtain ⟨o, w1, H1, ph1, hp1, hX1, hR1, hE1, hF1, v, rfl, hQ⟩ := h1 ph hp hR
  obtain ⟨o2, w2, H2, ph2, hp2, hX2, hR2, hE2, hF2, hP2⟩ := h2 v w1 H1 hQ ph1 hp1 hR1
  refine ⟨o2, w2, H2, ph2, hp2, ?_, hR2, hE1.trans hE2, jF.trans hE1 hF1 hF2, hP2⟩
  have hs := jstP_ok hR hR1 hE1 hst
  have hX1' : X d k' (0, lv_args 0 (as.map (jm ph)), [], hp, w.2.2) (.inl (v.map (jm ph1)), hp1, w1.2.2) := by
    rw [jargs_ok ph as 0]
    exact hX1
  have e2 : (v.toList ++ rest).map (jm ph1) = (v.map (jm ph1)).toList ++ rest.map (jm ph) := by
    rw [List.map_append, hs.2]
    cases v <;> rfl
  have hX2' : X (d + 1) k (pc + 3, jml ph lv, (v.map (jm ph1)).toList ++ rest.map (jm ph), hp1, w1.2.2) (jmo ph2 o2, hp2, w2.2.2) := by
    rw [← hs.1, ← e2]
    exact hX2
  have hk' : ¬ (k' = 170 ∨ k' = 171) := fun z => by
    have : 170 ≤ k' := by omega
    rw [Nat.ble_eq_true_of_le this] at hk
    cases hk
  have hc : xcall q.1 (.invokestatic ix) 3 (st.map (jm ph)) hp = some (k', as.map (jm ph), rest.map (jm ph)) := by
    simp only [xcall, hl, hq', jtk_ok ph htk]
    rw [if_pos ⟨trivial, hkd, hk', by rw [jcat_ok]; exact Nat.le_of_ble_eq_true hr⟩]
  refine X.call (g := (pc, jml ph lv, st.map (jm ph), hp, w.2.2)) (q := q) ⟨hq, hi, ?_, ?_⟩ ?_ hc hq' (by rw [jcat_ok]; exact Nat.le_of_ble_eq_true hw) hX1' hX2'
  · simp only [xs, xs1, xs6, xs5, xs4, xs7, xs8, show ¬ ((3 : Nat) = 1) by decide, if_false]
  · have e7 : ¬ (xlk xivs q.1 ix = some (7, 0)) := by
      rw [hl]
      intro z
      cases z
      omega
    have e1 : ¬ (xlk xivs q.1 ix = some (1, 170)) := by
      rw [hl]
      intro z
      cases z
      exact hk' (Or.inl rfl)
    have e3 : ¬ (xlk xivs q.1 ix = some (1, 171)) := by
      rw [hl]
      intro z
      cases z
      exact hk' (Or.inr rfl)
    try dsimp only
    unfold xs9
    split
    · rename_i he _; cases he
    · rename_i he _; cases he
      rw [if_neg fun z => e7 z.2.1]
    · rename_i he _; cases he
      rw [if_neg fun z => e1 z.2.1, if_neg fun z => e3 z.2.1]
    · rfl
  · simp only [xret]
end JN2
