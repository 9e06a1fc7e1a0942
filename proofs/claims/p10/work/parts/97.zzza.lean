/-! the small machine's soundness, two frames a depth (printed by gen_room.py) -/
section RRM
def xRoomr (d : Nat) (R : Room) : Prop := 2 * d + 8 ≤ R.frames ∧ 96 * d + 128 ≤ R.locals
theorem xRoomr.z {d : Nat} {R : Room} (h : xRoomr d R) : xRoom 0 R := ⟨by have := h.1; omega, by have := h.2; omega⟩
def xOKr (n : Nat) : Prop := ∀ (d k : Nat) (g : xG) (o : xO) (hp' : List xC) (ks' : Nat), xrun n d k g = some (o, hp', ks') → ∀ q : xMt, xmts[k]? = some q →
  ∀ (p : Program) (l : Launch) (e : Env) (R : Room) (s : State) (m : MethodId) (args : Array Value) (below : List Frame) (meth : Method) (c : Code) (H : Heap) (locs : List Loc) (ls : Array Slot) (D : va_G) (dA : Nat → ClassId) (b : xS) (B len0 ks0 : Nat),
    xM p s m args meth c D dA b B q.1 q.2.2.2.1 (decide (q.2.1.name = "<init>")) q.2.2.1 → meth.sig.returnType = q.2.2.2.2.1 → xN l b B s c k → lv_has ls q.2.2.2.1 (g.2.1.map (xm b B)) → xP b B D dA g.2.2.2.1 H → va_S (fun q => B ≤ q) s.heap H locs →
    len0 ≤ g.2.2.2.1.length → ks0 ≤ g.2.2.2.2 → xRoomr d R → hp'.length - len0 ≤ R.cells → ks' - ks0 ≤ R.slots →
    W p l e R s m args below meth c H locs (g.2.2.2.1.length - len0) (g.2.2.2.2 - ks0) (vx_MQ below (xQc b B D dA o hp') (xXC b B D dA o hp') args s (hp'.length - len0) (ks' - ks0) (fun q => B ≤ q)) (F0 m g.1 ls (g.2.2.1.map (xv b B)))
variable {p : Program} {l : Launch} {e : Env} {R : Room} {s : State} {m : MethodId} {args : Array Value} {below : List Frame} {meth : Method} {c : Code} {H : Heap} {locs : List Loc} {cells slots : Nat} {Q : State → Prop}
variable {D : va_G} {dA : Nat → ClassId} {b : xS} {B oc nL : Nat} {ini : Bool} {cc : ByteArray} {pc : Nat} {ls : Array Slot} {lv : xL} {st : List Value} {hp : List xC} {ks : Nat}
theorem xMetr (hT2 : xTab2) {n d k : Nat} (ih : xOKr n) {o : xO} {as : List Value} {hp' : List xC} {ks' : Nat} {q : xMt} (h : xrun n d k (0, lv_args 0 as, [], hp, ks) = some (o, hp', ks')) (hq : xmts[k]? = some q) (hpn : plainName q.2.1.cls = true) (hk : xtb k = []) (hst : l.stackTraces = false) (hcat : xcat as ≤ q.2.2.2.1) :
    vx_Met l q.2.1 (xws q) { frames := 2 * d + 8, cells := hp'.length - hp.length, slots := ks' - ks, locals := 96 * d + 128 } (xPc b B D dA hp as) (xQc b B D dA o hp') (xXC b B D dA o hp') (hp'.length - hp.length) (ks' - ks) (fun q => B ≤ q) := by
  refine vx_ofW (cc := q.2.2.1) (maxL := q.2.2.2.1) (ret := q.2.2.2.2.1) hpn rfl ?_
  intro p e s m args below meth c s₁ B0 hml htab hv
  obtain ⟨rfl, hP, hK, hbB, hE⟩ := hv
  have hts : ∀ w ∈ xwl, w.before (as.map (xv b B)).toArray s = true := fun w hw => atoms_spec (ws := xws q) B0.pre w (List.mem_cons_of_mem _ hw)
  have hown : s.vm.findClass q.2.1.cls = some m.cls := findClass_of_methodNamed B0.named
  have hnm : meth.name = q.2.1.name := (name_of_methodNamed B0.named B0.method).1
  have hl := lv_entry (as.map (xv b B)) (n := q.2.2.2.1) (by rw [lg_len, xcat_map]; exact hcat)
  rw [lg_entry_eq]
  generalize (lg_sl (as.map (xv b B)) ++ List.replicate (q.2.2.2.1 - (lg_sl (as.map (xv b B))).length) Slot.unset).toArray = ls at hl ⊢
  have hsz : B ≤ s.heap.size := by have := hP.1; have := hP.2.1; omega
  have M : xM p s m (as.map (xv b B)).toArray meth c D dA b B q.1 q.2.2.2.1 (decide (q.2.1.name = "<init>")) q.2.2.1 :=
    ⟨B0.exec, B0.bytes, ⟨_, (hT2.2.1 _ _ hq).1, hown⟩, hts, hK, hbB, hsz, hml, fun z => hnm.trans (of_decide_eq_true z), B0.notSynchronized, hE.2.2.2.1, hE.2.2.2.2.2⟩
  have hw := ih d k (0, lv_args 0 as, [], hp, ks) o hp' ks' h q hq p l e ({ frames := 2 * d + 8, cells := hp'.length - hp.length, slots := ks' - ks, locals := 96 * d + 128 }) s m (as.map (xv b B)).toArray below meth c s.heap [] ls D dA b B hp.length ks
    M B0.returns ⟨hst, hE, by rw [hk]; exact List.eq_nil_iff_forall_not_mem.mpr fun x hx => htab x hx⟩ (by rw [lv_args_map]; exact hl) hP va_S.rf (Nat.le_refl _) (Nat.le_refl _) ⟨Nat.le_refl _, Nat.le_refl _⟩ (Nat.le_refl _) (Nat.le_refl _)
  simp only [Nat.sub_self] at hw
  exact hw
theorem xMetHr (hT2 : xTab2) {n d k : Nat} (ih : xOKr n) {o : xO} {as : List Value} {hp' : List xC} {ks' : Nat} {q : xMt} (h : xrun n d k (0, lv_args 0 as, [], hp, ks) = some (o, hp', ks')) (hq : xmts[k]? = some q) (hpn : plainName q.2.1.cls = true) (hst : l.stackTraces = false) (hcat : xcat as ≤ q.2.2.2.1) :
    vx_Met l q.2.1 (Cond.codeWith q.2.1 q.2.2.1 q.2.2.2.1 q.2.2.2.2.1 (xtb k) :: xwl) { frames := 2 * d + 8, cells := hp'.length - hp.length, slots := ks' - ks, locals := 96 * d + 128 } (xPc b B D dA hp as) (xQc b B D dA o hp') (xXC b B D dA o hp') (hp'.length - hp.length) (ks' - ks) (fun q => B ≤ q) := by
  refine vx_ofWH (cc := q.2.2.1) (maxL := q.2.2.2.1) (ret := q.2.2.2.2.1) (hh := xtb k) hpn rfl ?_
  intro p e s m args below meth c s₁ B0 hml hv
  obtain ⟨rfl, hP, hK, hbB, hE⟩ := hv
  have hts : ∀ w ∈ xwl, w.before (as.map (xv b B)).toArray s = true := fun w hw => atoms_spec (ws := Cond.codeWith q.2.1 q.2.2.1 q.2.2.2.1 q.2.2.2.2.1 (xtb k) :: xwl) B0.pre w (List.mem_cons_of_mem _ hw)
  have htab := vx_table (x := q.2.1) B0 (atoms_spec (ws := Cond.codeWith q.2.1 q.2.2.1 q.2.2.2.1 q.2.2.2.2.1 (xtb k) :: xwl) B0.pre _ List.mem_cons_self)
  have hown : s.vm.findClass q.2.1.cls = some m.cls := findClass_of_methodNamed B0.named
  have hnm : meth.name = q.2.1.name := (name_of_methodNamed B0.named B0.method).1
  have hl := lv_entry (as.map (xv b B)) (n := q.2.2.2.1) (by rw [lg_len, xcat_map]; exact hcat)
  rw [lg_entry_eq]
  generalize (lg_sl (as.map (xv b B)) ++ List.replicate (q.2.2.2.1 - (lg_sl (as.map (xv b B))).length) Slot.unset).toArray = ls at hl ⊢
  have hsz : B ≤ s.heap.size := by have := hP.1; have := hP.2.1; omega
  have M : xM p s m (as.map (xv b B)).toArray meth c D dA b B q.1 q.2.2.2.1 (decide (q.2.1.name = "<init>")) q.2.2.1 :=
    ⟨B0.exec, B0.bytes, ⟨_, (hT2.2.1 _ _ hq).1, hown⟩, hts, hK, hbB, hsz, hml, fun z => hnm.trans (of_decide_eq_true z), B0.notSynchronized, hE.2.2.2.1, hE.2.2.2.2.2⟩
  have hw := ih d k (0, lv_args 0 as, [], hp, ks) o hp' ks' h q hq p l e ({ frames := 2 * d + 8, cells := hp'.length - hp.length, slots := ks' - ks, locals := 96 * d + 128 }) s m (as.map (xv b B)).toArray below meth c s.heap [] ls D dA b B hp.length ks
    M B0.returns ⟨hst, hE, htab⟩ (by rw [lv_args_map]; exact hl) hP va_S.rf (Nat.le_refl _) (Nat.le_refl _) ⟨Nat.le_refl _, Nat.le_refl _⟩ (Nat.le_refl _) (Nat.le_refl _)
  simp only [Nat.sub_self] at hw
  exact hw
theorem xcallr (hT2 : xTab2) (hT3 : xTab3) {n d k k' : Nat} (ih : xOKr n) (M : xM p s m args meth c D dA b B oc nL ini cc) (N : xN l b B s c k) {i : Instr} {len : Nat} {as rest : List Value} (h : xcall oc i len st hp = some (k', as, rest)) (hd : decode cc pc = .ok (i, len)) {q' : xMt} (hq' : xmts[k']? = some q') {v : Option Value} {hp' : List xC} {ks' : Nat}
    (hrun : xrun n d k' (0, lv_args 0 as, [], hp, ks) = some (.inl v, hp', ks')) (hcat : xcat as ≤ q'.2.2.2.1) (hsz : ls.size = nL) (hP : xP b B D dA hp H) (hS : va_S (fun q => B ≤ q) s.heap H locs) (hR : xRoomr (d + 1) R) (hc : cells + (hp'.length - hp.length) ≤ R.cells) (hs : slots + (ks' - ks) ≤ R.slots)
    (kk : ∀ (H1 : Heap) (locs1 : List Loc), xP b B D dA hp' H1 → va_S (fun q => B ≤ q) s.heap H1 locs1 → W p l e R s m args below meth c H1 locs1 (cells + (hp'.length - hp.length)) (slots + (ks' - ks)) Q (F0 m (pc + 3) ls ((v.toList ++ rest).map (xv b B)))) : W p l e R s m args below meth c H locs cells slots Q (F0 m pc ls (st.map (xv b B))) := by
  have hpre := xpre M N hP hS as
  obtain ⟨hx, hb, ⟨own, ho1, ho2⟩, hts, hK, hbB, hBs, hnL, hini, hlocks, hBw, hXs⟩ := M
  obtain ⟨hst, hE, htab⟩ := N
  have hmx := (hT2.2.1 _ _ hq').2.1
  have hR1 : 2 * d + 8 + 1 ≤ R.frames := by have := hR.1; omega
  have hR2 : 8 + (q'.2.2.2.1 + 11) + (96 * d + 128) ≤ R.locals := by have := hR.2; omega
  have kk' : ∀ (H1 : Heap) (locs1 : List Loc), xP b B D dA hp' H1 → va_S (fun q => B ≤ q) s.heap H1 locs1 → W p l e R s m args below meth c H1 locs1 (cells + (hp'.length - hp.length)) (slots + (ks' - ks)) Q (F0 m (pc + 3) ls ((v.map (xv b B)).toList ++ rest.map (xv b B))) := by
    have e : (v.map (xv b B)).toList ++ rest.map (xv b B) = (v.toList ++ rest).map (xv b B) := by cases v <;> rfl
    rw [e]
    exact kk
  have hS0 : CallFix p m c cc nL s args xwl own := ⟨hx, hb, hnL, ho2, hts⟩
  unfold xcall at h
  split at h
  · rename_i ix
    split at h <;> (try (cases h; done))
    rename_i kd k0 h1
    split at h <;> (try (cases h; done))
    rename_i q0 hq0
    split at h <;> (try (cases h; done))
    rename_i as0 a rest0 htk
    split at h <;> (try (cases h; done))
    rename_i ci fs hcell
    split at h <;> (try (cases h; done))
    rename_i hn
    obtain ⟨rfl, hkd, hmm, rfl, hci, hrc⟩ := hn
    cases h
    cases Option.some.inj (hq0.symm.trans hq')
    obtain ⟨hstk, hlen⟩ := xtk_spec htk
    have hkd6 : kd < 6 := by omega
    obtain ⟨own', w1, w2, w3, w4, w5, w6, w7, w8, -, -⟩ := hT2.2.2.2.1 _ _ _ _ _ h1 hkd6 hmm hq0
    cases Option.some.inj (ho1.symm.trans w1)
    obtain ⟨w9, w10, w11⟩ := w8 hkd
    have hM := xMet_in (xMetr (b := b) (B := B) (D := D) (dA := dA) hT2 ih hrun hq0 w4 (hT3.1 _ _ _ _ h1 hkd6 hmm) hst hcat)
    obtain ⟨r, hr1, hr2, -⟩ : ∃ r : vw_C, xcl[q'.1]? = some r ∧ r.1 = q'.2.1.cls ∧ True := by
      obtain ⟨r, hr, -⟩ := hP.obj hcell
      exact ⟨r, hr, Option.some.inj ((hT2.2.2.1 _ _ hci hr).symm.trans (hT2.2.1 _ _ hq0).1), trivial⟩
    have hrecv : ∃ cellB : Cell, H[xa b B a]? = some cellB ∧ cellB.vm.isStatics = false ∧ s.vm.findClass q'.2.1.cls = some cellB.cls := by
      rw [← hr2]
      exact va_recv hK (hP.oneO hcell) hr1 (q0 := 0) rfl
    have hstack : (F0 m pc ls (st.map (xv b B))).stack = (as0.map (xv b B)).reverse ++ .ref (xa b B a) :: rest.map (xv b B) := by
      show st.map (xv b B) = _
      rw [hstk]
      simp [xv]
    rcases hkd with rfl | rfl
    · refine x_after (va_runV hS0 hM (C := q'.2.1.cls) (index := ix) (bytes := q'.2.2.1) (maxL := q'.2.2.2.1) (ret := q'.2.2.2.2.1) (n := q'.2.2.2.2.2 - 1) (b := xa b B a) (As := as0.map (xv b B)) (rest := rest.map (xv b B)) ⟨⟨rfl, rfl, hR1, hR2, pay_in hts (xws_good hT2 w2), List.mem_cons_self, hts _ w2, hts _ w3, w5, x_par w11, hts _ (w6 (by decide))⟩, hts _ w9, hts _ w10⟩ ⟨hpre.1, hrecv, hpre.2⟩ rfl (by rw [List.length_map]; exact hlen) hsz hstack (by show 2 * 0 + _ ≤ _; rw [xcat_map]; omega) hd ⟨hc, hs⟩) hS kk'
    · obtain ⟨host, hho⟩ := w7 (by decide)
      refine x_after (va_runVN hS0 hM (C := q'.2.1.cls) (host := host) (index := ix) (bytes := q'.2.2.1) (maxL := q'.2.2.2.1) (ret := q'.2.2.2.2.1) (n := q'.2.2.2.2.2 - 1) (b := xa b B a) (As := as0.map (xv b B)) (rest := rest.map (xv b B)) ⟨⟨⟨rfl, rfl, hR1, hR2, pay_in hts (xws_good hT2 w2), List.mem_cons_self⟩, hts _ w2, hts _ w3, w5, x_par w11, va_Nw.use rfl (hBw _ hho rfl)⟩, hts _ w9, hts _ w10⟩ ⟨hpre.1, hrecv, hpre.2⟩ rfl (by rw [List.length_map]; exact hlen) hsz hstack (by show 2 * 0 + _ ≤ _; rw [xcat_map]; omega) hd ⟨hc, hs⟩) hS kk'
  · rename_i ix
    split at h <;> (try (cases h; done))
    rename_i kd k0 h1
    split at h <;> (try (cases h; done))
    rename_i q0 hq0
    split at h <;> (try (cases h; done))
    rename_i as0 rest0 htk
    split at h <;> (try (cases h; done))
    rename_i hn
    obtain ⟨rfl, hkd, hmm, hrc⟩ := hn
    cases h
    cases Option.some.inj (hq0.symm.trans hq')
    obtain ⟨hstk, hlen⟩ := xtk_spec htk
    have hstack : (F0 m pc ls (st.map (xv b B))).stack = (as.map (xv b B)).reverse ++ rest.map (xv b B) := by
      show st.map (xv b B) = _
      rw [hstk]
      simp
    by_cases h8 : kd = 8
    · subst h8
      obtain ⟨own', w1, w2, w3, w4, w5, w6, w7, w11⟩ := hT3.2 _ _ _ _ h1 hq0
      cases Option.some.inj (ho1.symm.trans w1)
      have hM := xMet_in (xMetHr (b := b) (B := B) (D := D) (dA := dA) hT2 ih hrun hq0 w4 hst hcat)
      have hG : GoodIn xwl (Cond.codeWith q'.2.1 q'.2.2.1 q'.2.2.2.1 q'.2.2.2.2.1 (xtb k') :: xwl) := by
        intro w hw
        rcases List.mem_cons.mp hw with rfl | hw
        · exact ⟨w2, hT2.1 _ w2⟩
        · exact ⟨hw, hT2.1 _ hw⟩
      exact x_after (vx_runSW hS0 hM (hh := xtb k') (index := ix) (bytes := q'.2.2.1) (maxL := q'.2.2.2.1) (ret := q'.2.2.2.2.1) (n := q'.2.2.2.2.2) (As := as.map (xv b B)) (rest := rest.map (xv b B)) ⟨⟨rfl, rfl, hR1, hR2, pay_in hts hG, List.mem_cons_self⟩, hts _ w2, hts _ w3, w5, x_par w11, hts _ w6, hts _ w7⟩ hpre rfl (by rw [List.length_map]; exact hlen) hsz hstack (by show 2 * 0 + _ ≤ _; rw [xcat_map]; omega) hd ⟨hc, hs⟩) hS kk'
    · have hkd' : kd = 1 ∨ kd = 4 := by omega
      have hkd6 : kd < 6 := by omega
      obtain ⟨own', w1, w2, w3, w4, w5, w6, w7, -, w8, -⟩ := hT2.2.2.2.1 _ _ _ _ _ h1 hkd6 hmm hq0
      cases Option.some.inj (ho1.symm.trans w1)
      obtain ⟨w9, w11⟩ := w8 hkd'
      have hM := xMet_in (xMetr (b := b) (B := B) (D := D) (dA := dA) hT2 ih hrun hq0 w4 (hT3.1 _ _ _ _ h1 hkd6 hmm) hst hcat)
      rcases hkd' with rfl | rfl
      · exact x_after (va_runS hS0 hM (index := ix) (bytes := q'.2.2.1) (maxL := q'.2.2.2.1) (ret := q'.2.2.2.2.1) (n := q'.2.2.2.2.2) (As := as.map (xv b B)) (rest := rest.map (xv b B)) ⟨⟨rfl, rfl, hR1, hR2, pay_in hts (xws_good hT2 w2), List.mem_cons_self, hts _ w2, hts _ w3, w5, x_par w11, hts _ (w6 (by decide))⟩, hts _ w9⟩ hpre rfl (by rw [List.length_map]; exact hlen) hsz hstack (by show 2 * 0 + _ ≤ _; rw [xcat_map]; omega) hd ⟨hc, hs⟩) hS kk'
      · obtain ⟨host, hho⟩ := w7 (by decide)
        exact x_after (va_runSN hS0 hM (host := host) (index := ix) (bytes := q'.2.2.1) (maxL := q'.2.2.2.1) (ret := q'.2.2.2.2.1) (n := q'.2.2.2.2.2) (As := as.map (xv b B)) (rest := rest.map (xv b B)) ⟨⟨⟨rfl, rfl, hR1, hR2, pay_in hts (xws_good hT2 w2), List.mem_cons_self⟩, hts _ w2, hts _ w3, w5, x_par w11, va_Nw.use rfl (hBw _ hho rfl)⟩, hts _ w9, trivial⟩ hpre rfl (by rw [List.length_map]; exact hlen) hsz hstack (by show 2 * 0 + _ ≤ _; rw [xcat_map]; omega) hd ⟨hc, hs⟩) hS kk'
  · rename_i ix
    split at h <;> (try (cases h; done))
    rename_i kd k0 h1
    split at h <;> (try (cases h; done))
    rename_i q0 hq0
    split at h <;> (try (cases h; done))
    rename_i as0 a rest0 htk
    split at h <;> (try (cases h; done))
    rename_i hn
    obtain ⟨rfl, hkd, hmm, hrc⟩ := hn
    cases h
    cases Option.some.inj (hq0.symm.trans hq')
    obtain ⟨hstk, hlen⟩ := xtk_spec htk
    have hkd6 : kd < 6 := by omega
    obtain ⟨own', w1, w2, w3, w4, w5, w6, w7, -, -, w8⟩ := hT2.2.2.2.1 _ _ _ _ _ h1 hkd6 hmm hq0
    cases Option.some.inj (ho1.symm.trans w1)
    obtain ⟨w9, w10, w12, w11⟩ := w8 hkd
    have hM := xMet_in (xMetr (b := b) (B := B) (D := D) (dA := dA) hT2 ih hrun hq0 w4 (hT3.1 _ _ _ _ h1 hkd6 hmm) hst hcat)
    have hstack : (F0 m pc ls (st.map (xv b B))).stack = (as0.map (xv b B)).reverse ++ .ref (xa b B a) :: rest.map (xv b B) := by
      show st.map (xv b B) = _
      rw [hstk]
      simp [xv]
    rw [w12] at w2
    have w13 := pay_in hts (xws_good hT2 (q := q') (by rw [w12]; exact w2))
    have w14 : Cond.code q'.2.1 q'.2.2.1 q'.2.2.2.1 none ∈ xws q' := by rw [← w12]; exact List.mem_cons_self
    rcases hkd with rfl | rfl
    · exact x_after (va_runI hS0 hM (index := ix) (bytes := q'.2.2.1) (maxL := q'.2.2.2.1) (n := q'.2.2.2.2.2 - 1) (b := xa b B a) (As := as0.map (xv b B)) (rest := rest.map (xv b B)) ⟨⟨rfl, rfl, hR1, hR2, w13, w14, hts _ w2, hts _ w3, w5, x_par w11, hts _ (w6 (by decide))⟩, w10, hts _ w9⟩ hpre rfl (by rw [List.length_map]; exact hlen) hsz hstack (by show 2 * 0 + _ ≤ _; rw [xcat_map]; omega) hd ⟨hc, hs⟩) hS kk'
    · obtain ⟨host, hho⟩ := w7 (by decide)
      exact x_after (va_runIN hS0 hM (host := host) (index := ix) (bytes := q'.2.2.1) (maxL := q'.2.2.2.1) (n := q'.2.2.2.2.2 - 1) (b := xa b B a) (As := as0.map (xv b B)) (rest := rest.map (xv b B)) ⟨⟨⟨rfl, rfl, hR1, hR2, w13, w14⟩, hts _ w2, hts _ w3, w5, x_par w11, va_Nw.use rfl (hBw _ hho rfl)⟩, w10, hts _ w9⟩ hpre rfl (by rw [List.length_map]; exact hlen) hsz hstack (by show 2 * 0 + _ ≤ _; rw [xcat_map]; omega) hd ⟨hc, hs⟩) hS kk'
  · cases h
theorem xcallXr (hT2 : xTab2) (hT3 : xTab3) {n d k k' k9 ix : Nat} (ih : xOKr n) (M : xM p s m args meth c D dA b B oc nL ini cc) (N : xN l b B s c k) {as rest : List Value} (h : xcall oc (.invokevirtual ix) 3 st hp = some (k', as, rest)) (h9 : xlk xivs oc ix = some (0, k9)) (hd : decode cc pc = .ok (.invokevirtual ix, 3)) {q' : xMt} (hq' : xmts[k']? = some q') {ci : Nat} {hp' : List xC} {ks' : Nat}
    (hrun : xrun n d k' (0, lv_args 0 as, [], hp, ks) = some (.inr ci, hp', ks')) (hcat : xcat as ≤ q'.2.2.2.1) (hsz : ls.size = nL) (hP : xP b B D dA hp H) (hS : va_S (fun q => B ≤ q) s.heap H locs) (hR : xRoomr (d + 1) R) (hc : cells + (hp'.length - hp.length) ≤ R.cells) (hs : slots + (ks' - ks) ≤ R.slots)
    (kk : ∀ (H1 : Heap) (locs1 : List Loc) (r : vw_C) (q9 : Addr) (ce : Cell), xcl[ci]? = some r → xP b B D dA hp' H1 → va_S (fun q => B ≤ q) s.heap H1 locs1 → H1[q9]? = some ce → ce.vm = .none → s.vm.findClass r.1 = some ce.cls → vx_W p l e R s m args below meth c H1 locs1 (cells + (hp'.length - hp.length)) (slots + (ks' - ks)) Q (F0 m pc ls (rest.map (xv b B))) q9) : W p l e R s m args below meth c H locs cells slots Q (F0 m pc ls (st.map (xv b B))) := by
  have hpre := xpre M N hP hS as
  obtain ⟨hx, hb, ⟨own, ho1, ho2⟩, hts, hK, hbB, hBs, hnL, hini, hlocks, hBw, hXs⟩ := M
  obtain ⟨hst, hE, htab⟩ := N
  have hmx := (hT2.2.1 _ _ hq').2.1
  have hR1 : 2 * d + 8 + 1 ≤ R.frames := by have := hR.1; omega
  have hR2 : 8 + (q'.2.2.2.1 + 11) + (96 * d + 128) ≤ R.locals := by have := hR.2; omega
  have hS0 : CallFix p m c cc nL s args xwl own := ⟨hx, hb, hnL, ho2, hts⟩
  unfold xcall at h
  dsimp only at h
  rw [h9] at h
  dsimp only at h
  split at h <;> (try (cases h; done))
  rename_i q0 hq0
  split at h <;> (try (cases h; done))
  rename_i as0 a rest0 htk
  split at h <;> (try (cases h; done))
  rename_i cj fs hcell
  split at h <;> (try (cases h; done))
  rename_i hn
  obtain ⟨-, hkd, hmm, rfl, hci, hrc⟩ := hn
  cases h
  cases Option.some.inj (hq0.symm.trans hq')
  obtain ⟨hstk, hlen⟩ := xtk_spec htk
  obtain ⟨own', w1, w2, w3, w4, w5, w6, w7, w8, -, -⟩ := hT2.2.2.2.1 _ _ _ _ _ h9 (by decide) hmm hq0
  cases Option.some.inj (ho1.symm.trans w1)
  obtain ⟨w9, w10, w11⟩ := w8 (Or.inl rfl)
  have hM := xMetr (b := b) (B := B) (D := D) (dA := dA) hT2 ih hrun hq0 w4 (hT3.1 _ _ _ _ h9 (by decide) hmm) hst hcat
  obtain ⟨r, hr1, hr2, -⟩ : ∃ r : vw_C, xcl[q'.1]? = some r ∧ r.1 = q'.2.1.cls ∧ True := by
    obtain ⟨r, hr, -⟩ := hP.obj hcell
    exact ⟨r, hr, Option.some.inj ((hT2.2.2.1 _ _ hci hr).symm.trans (hT2.2.1 _ _ hq0).1), trivial⟩
  have hrecv : ∃ cellB : Cell, H[xa b B a]? = some cellB ∧ cellB.vm.isStatics = false ∧ s.vm.findClass q'.2.1.cls = some cellB.cls := by
    rw [← hr2]
    exact va_recv hK (hP.oneO hcell) hr1 (q0 := 0) rfl
  have hstack : (F0 m pc ls (st.map (xv b B))).stack = (as0.map (xv b B)).reverse ++ .ref (xa b B a) :: rest.map (xv b B) := by
    show st.map (xv b B) = _
    rw [hstk]
    simp [xv]
  exact x_afterX (vx_runV hS0 hM (C := q'.2.1.cls) (index := ix) (bytes := q'.2.2.1) (maxL := q'.2.2.2.1) (ret := q'.2.2.2.2.1) (n := q'.2.2.2.2.2 - 1) (b := xa b B a) (As := as0.map (xv b B)) (rest := rest.map (xv b B)) ⟨⟨rfl, rfl, hR1, hR2, pay_in hts (xws_good hT2 w2), List.mem_cons_self, hts _ w2, hts _ w3, w5, x_par w11, hts _ (w6 (by decide))⟩, hts _ w9, hts _ w10⟩ ⟨hpre.1, hrecv, hpre.2⟩ rfl (by rw [List.length_map]; exact hlen) hsz hstack (by show 2 * 0 + _ ≤ _; rw [xcat_map]; omega) hd ⟨hc, hs⟩) hS kk
theorem xrunr (hT : xTab) (hT2 : xTab2) (hT3 : xTab3) (hT4 : xTab4) (hT5 : xTab5) (hThr : xThrOk) (hHnd : xHndOk) : ∀ n, xOKr n := by
  intro n
  induction n with
  | zero => intro d k g o hp' ks' h; simp [xrun] at h
  | succ n ih =>
    intro d k g o hp' ks' h q hq p l e R s m args below meth c H locs ls D dA b B len0 ks0 M hret N hl hP hS hl0 hk0 hR hc hs
    obtain ⟨pc, lv, st, hp, ks⟩ := g
    have hmono := xrun_mono _ _ _ _ _ _ _ h
    dsimp only at hl hP hl0 hk0 hmono ⊢
    unfold xrun at h
    rw [hq] at h
    dsimp only at h
    split at h <;> (try (cases h; done))
    rename_i i len hat
    have hd : decode q.2.2.1 pc = .ok (i, len) := (hT2.2.1 _ _ hq).2.2 _ _ _ hat
    split at h
    · rename_i g' h1
      obtain ⟨pc1, lv1, st1, hp1, ks1⟩ := g'
      have m1 := xs_mono h1
      have m2 := xrun_mono _ _ _ _ _ _ _ h
      dsimp only at m2
      refine xs_sound hT M h1 hd hl hP hS (by omega) (by omega) fun H1 locs1 ls1 hP1 hS1 hl1 => ?_
      have hw := ih d k (pc1, lv1, st1, hp1, ks1) o hp' ks' h q hq p l e R s m args below meth c H1 locs1 ls1 D dA b B len0 ks0 M hret N hl1 hP1 hS1 (Nat.le_trans hl0 m1.1) (Nat.le_trans hk0 m1.2) hR hc hs
      dsimp only at hw
      rw [show hp.length - len0 + (hp1.length - hp.length) = hp1.length - len0 by omega, show ks - ks0 + (ks1 - ks) = ks1 - ks0 by omega]
      exact hw
    split at h
    · rename_i st1 hp1 h1
      have m1 := xs9_len h1
      refine xs9_sound hT2 M h1 hd hP hS hl.1 (by have := hR.1; omega) (by have := hR.2; omega) (by omega) (by omega) fun H1 locs1 hP1 hS1 => ?_
      have hw := ih d k (pc + 3, lv, st1, hp1, ks) o hp' ks' h q hq p l e R s m args below meth c H1 locs1 ls D dA b B len0 ks0 M hret N hl hP1 hS1 (by dsimp only; omega) hk0 hR hc hs
      dsimp only at hw
      rw [m1] at hw
      exact hw
    split at h
    · rename_i v h1
      cases h
      exact xret_sound M hret h1 hd hP hS rfl rfl
    split at h
    · rename_i k' as rest h1
      split at h <;> (try (cases h; done))
      rename_i d' q' hq'
      split at h <;> (try (cases h; done))
      rename_i hcat
      split at h <;> (try (cases h; done))
      · rename_i v hp1 ks1 hrun
        have m1 := xrun_mono _ _ _ _ _ _ _ hrun
        have m2 := xrun_mono _ _ _ _ _ _ _ h
        dsimp only at m1 m2
        refine xcallr hT2 hT3 ih M N h1 hd hq' hrun hcat hl.1 hP hS hR (by omega) (by omega) fun H1 locs1 hP1 hS1 => ?_
        have hw := ih (d' + 1) k (pc + 3, lv, v.toList ++ rest, hp1, ks1) o hp' ks' h q hq p l e R s m args below meth c H1 locs1 ls D dA b B len0 ks0 M hret N hl hP1 hS1 (by dsimp only; omega) (by dsimp only; omega) hR hc hs
        dsimp only at hw
        rw [show hp.length - len0 + (hp1.length - hp.length) = hp1.length - len0 by omega, show ks - ks0 + (ks1 - ks) = ks1 - ks0 by omega]
        exact hw
      · rename_i ci hp1 ks1 hrun
        have m1 := xrun_mono _ _ _ _ _ _ _ hrun
        dsimp only at m1
        obtain ⟨x, hx, h⟩ := Option.map_eq_some_iff.mp h
        cases h
        obtain ⟨ix, k9, e1, e2⟩ := hT4 _ _ _ _ _ hx hq
        cases Option.some.inj (hat.symm.trans e1)
        refine xcallXr hT2 hT3 ih M N h1 e2 hd hq' hrun hcat hl.1 hP hS hR (by omega) (by omega) fun H1 locs1 r q9 ce hr hP1 hS1 z1 z2 z3 => ?_
        rw [show hp.length - len0 + (hp'.length - hp.length) = hp'.length - len0 by omega, show ks - ks0 + (ks' - ks) = ks' - ks0 by omega]
        exact hHnd 0 k pc ci x q r hq hx hr p l e R s m args below meth c H1 locs1 ls D dA b B _ _ hp' _ q9 ce lv M hret N hl hP1 hS1 hR.z z1 z2 z3
    · split at h
      · rename_i ci hci
        split at h <;> (try (cases h; done))
        rename_i hcat
        cases h
        simp only [List.length_append, List.length_cons, List.length_nil] at hc hs ⊢
        exact hThr 0 k pc ci q hq hci p l e R s m args below meth c H locs ls D dA b B _ _ _ _ hp _ M N hl.1 hP hS hR.z (by rw [xcat_map]; exact hcat) (by omega) (by omega) hc hs
      · split at h <;> (try (cases h; done))
        rename_i st1 rows n1 h1
        have m2 := xrun_mono _ _ _ _ _ _ _ h
        dsimp only at m2
        rw [List.length_append] at m2
        refine xsA_sound hT5 M h1 hd hP hS hl.1 (by have := hR.1; omega) (by have := hR.2; omega) (by omega) (by omega) fun H1 hP1 hS1 => ?_
        have hw := ih d k (pc + 3, lv, st1, hp ++ rows, ks + n1) o hp' ks' h q hq p l e R s m args below meth c H1 locs ls D dA b B len0 ks0 M hret N hl hP1 hS1 (by dsimp only; rw [List.length_append]; omega) (by dsimp only; omega) hR hc hs
        dsimp only at hw
        rw [List.length_append] at hw
        rw [show hp.length - len0 + rows.length = hp.length + rows.length - len0 by omega, show ks - ks0 + n1 = ks + n1 - ks0 by omega]
        exact hw
end RRM
section RRL
theorem x_lawR {p : Program} {e : Env} {s : State} {m : MethodId} {below : List Frame} {meth : Method} {c : Code} (l : Launch) (hl0 : l.stackTraces = false) (htab : c.exceptionTable.toList = []) {b L : Nat} {xs : Nat → Int32} (C0 : lw_At p s m meth c b L xs) {d : Nat} (hd : xRoomr d room_1) {hp' : List xC} {ks' : Nat}
    (hX : X d 191 (0, [(0, .ref 0)], [], [.inl (0, L, .inl xs)], 0) (.inl (some (.int 1)), hp', ks')) (hcl : hp'.length - 1 ≤ 600128) (hsl : ks' ≤ 7301098) : W p l e room_1 s m #[Value.ref b] below meth c s.heap [] 0 0 (lw_Z below #[Value.ref b] s) (entryFrame m ([Value.ref b] : List Value).toArray 7) := by
  obtain ⟨hx, hb, hr, hml, hown, hts, hXs, hbl, hlocks, hgv⟩ := C0
  obtain ⟨D, dA, hK⟩ := x_known hts
  have hE := x_E hts hXs hgv
  obtain ⟨n, hn⟩ := hX
  have hrun := hn n (Nat.le_refl _)
  have M : xM p s m #[Value.ref b] meth c D dA (b, L, xs) s.heap.size 12 7 (decide (yL_law.name = "<init>")) cL_law :=
    ⟨hx, hb, ⟨RL, rfl, hown⟩, fun w hw => hts w (xwl_in hw).1, hK, hbl, Nat.le_refl _, hml, fun z => absurd z (by decide), hlocks, hE.2.2.2.1, hXs⟩
  have hl := lv_entry [Value.ref b] (n := 7) (show 1 ≤ 7 by decide)
  rw [lg_entry_eq]
  generalize (lg_sl [Value.ref b] ++ List.replicate (7 - (lg_sl [Value.ref b]).length) Slot.unset).toArray = ls at hl ⊢
  have hP : xP (b, L, xs) s.heap.size D dA [.inl (0, L, .inl xs)] s.heap := ⟨Nat.le_refl 1, rfl, fun k q hk => by simp at hk, rfl⟩
  have hw := xrunr xTab_ok xTab2_ok xTab3_ok xTab4_ok xTab5_ok xThrOk_ok xHndOk_ok n d 191 _ _ _ _ hrun _ rfl p l e room_1 s m #[Value.ref b] below meth c s.heap [] ls D dA (b, L, xs) s.heap.size 1 0 M hr ⟨hl0, hE, ?_⟩ hl hP va_S.rf (Nat.le_refl _) (Nat.le_refl _) hd hcl hsl
  · intro T hT X
    obtain ⟨t, a1, o, b1, b2, b3⟩ := hw T hT X
    refine ⟨t, a1, o, b1, b2, ?_⟩
    rcases b3 with ⟨⟨v, hv, ho, -⟩, Ls, ⟨hret, hW, e1, e2, e3, e4, e5, e6⟩, hfree⟩ | ⟨q, -, E, ce, Ls, ⟨ci, r, ho, -⟩, -⟩
    · cases hv
      subst ho
      refine ⟨rfl, hret, hW, e1, e2, Nat.le_trans e3 (Nat.add_le_add_left hcl _), e4, Nat.le_trans e5 hsl, fun a cl hc => ?_⟩
      obtain ⟨c', z1, z2, z3, z4⟩ := e6 a cl hc
      exact ⟨c', z1, z2, z3, fun i _ => z4 i (fun hm => absurd (hfree _ hm) (Nat.not_le.mpr (Array.getElem?_eq_some_iff.mp hc).1))⟩
    · cases ho
  · rw [htab]
    rfl
end RRL
