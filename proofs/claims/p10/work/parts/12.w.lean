def xTab3 : Prop :=
  (∀ (oc ix kd k : Nat), xlk xivs oc ix = some (kd, k) → kd < 6 → ¬ (k = 170 ∨ k = 171) → xtb k = []) ∧
  (∀ (oc ix k : Nat) (q : xMt), xlk xivs oc ix = some (8, k) → xmts[k]? = some q → ∃ own : String, xowns[oc]? = some own ∧ Cond.codeWith q.2.1 q.2.2.1 q.2.2.2.1 q.2.2.2.2.1 (xtb k) ∈ xwl ∧ Cond.initialized q.2.1.cls ∈ xwl ∧ plainName q.2.1.cls = true ∧ (q.2.1.cls ≠ "java/lang/invoke/MethodHandle" ∧ q.2.1.cls ≠ "java/lang/invoke/VarHandle") ∧
    Cond.methodLink own ix q.2.1 ∈ xwl ∧ Cond.static q.2.1 ∈ xwl ∧ (parseMethodDescriptor q.2.1.desc).map (fun d => d.parameters.length) = some q.2.2.2.2.2)
section XW
variable {p : Program} {l : Launch} {e : Env} {R : Room} {s : State} {m : MethodId} {args : Array Value} {below : List Frame} {meth : Method} {c : Code} {H : Heap} {locs : List Loc} {cells slots : Nat} {Q : State → Prop}
variable {D : va_G} {dA : Nat → ClassId} {b : xS} {B oc nL : Nat} {ini : Bool} {cc : ByteArray} {pc : Nat} {ls : Array Slot} {lv : xL} {st : List Value} {hp : List xC} {ks : Nat}
theorem x_par {desc : String} {n : Nat} (h : (parseMethodDescriptor desc).map (fun d => d.parameters.length) = some n) : ∀ sig, parseMethodDescriptor desc = some sig → n = sig.parameters.length := by
  intro sig hs
  rw [hs] at h
  exact (Option.some.inj h).symm
/-- a method with handlers, as a contract of one run -/
theorem xMetH (hT2 : xTab2) {n d k : Nat} (ih : xOK n) {o : xO} {as : List Value} {hp' : List xC} {ks' : Nat} {q : xMt} (h : xrun n d k (0, lv_args 0 as, [], hp, ks) = some (o, hp', ks')) (hq : xmts[k]? = some q) (hpn : plainName q.2.1.cls = true) (hst : l.stackTraces = false) (hcat : xcat as ≤ q.2.2.2.1) :
    vx_Met l q.2.1 (Cond.codeWith q.2.1 q.2.2.1 q.2.2.2.1 q.2.2.2.2.1 (xtb k) :: xwl) { frames := 8 * d + 8, cells := hp'.length - hp.length, slots := ks' - ks, locals := 96 * d + 128 } (xPc b B D dA hp as) (xQc b B D dA o hp') (xXC b B D dA o hp') (hp'.length - hp.length) (ks' - ks) (fun q => B ≤ q) := by
  refine vx_ofWH (cc := q.2.2.1) (maxL := q.2.2.2.1) (ret := q.2.2.2.2.1) (hh := xtb k) hpn rfl ?_
  intro p e s m args below meth c s₁ B0 hml hv
  obtain ⟨rfl, hP, hK, hbB, hE⟩ := hv
  have hts : ∀ w ∈ xwl, w.before (as.map (xv b B)).toArray s = true := fun w hw => atoms_spec (ws := Cond.codeWith q.2.1 q.2.2.1 q.2.2.2.1 q.2.2.2.2.1 (xtb k) :: xwl) B0.pre w (List.mem_cons_of_mem _ hw)
  have htab := vx_table (x := q.2.1) B0 (atoms_spec (ws := Cond.codeWith q.2.1 q.2.2.1 q.2.2.2.1 q.2.2.2.2.1 (xtb k) :: xwl) B0.pre _ List.mem_cons_self)
  have hown : s.vm.findClass q.2.1.cls = some m.cls := findClass_of_methodNamed B0.named
  have hnm : meth.name = q.2.1.name := (name_of_methodNamed B0.named B0.method).1
  have hl := lv_entry (as.map (xv b B)) (n := q.2.2.2.1) (by rw [lg_len, xcat_map]; exact hcat)
  rw [lg_entry_eq]
  generalize (lg_sl (as.map (xv b B)) ++ List.replicate (q.2.2.2.1 - (lg_sl (as.map (xv b B))).length) Slot.unset).toArray = ls at hl ⊢
  have hsz : B ≤ s.heap.size := by have := hP.1; have := hP.2.1; omega
  have M : xM p s m (as.map (xv b B)).toArray meth c D dA b B q.1 q.2.2.2.1 (decide (q.2.1.name = "<init>")) q.2.2.1 :=
    ⟨B0.exec, B0.bytes, ⟨_, (hT2.2.1 _ _ hq).1, hown⟩, hts, hK, hbB, hsz, hml, fun z => hnm.trans (of_decide_eq_true z), B0.notSynchronized, hE.2.2.2.1, hE.2.2.2.2.2⟩
  have hw := ih d k (0, lv_args 0 as, [], hp, ks) o hp' ks' h q hq p l e ({ frames := 8 * d + 8, cells := hp'.length - hp.length, slots := ks' - ks, locals := 96 * d + 128 }) s m (as.map (xv b B)).toArray below meth c s.heap [] ls D dA b B hp.length ks
    M B0.returns ⟨hst, hE, htab⟩ (by rw [lv_args_map]; exact hl) hP va_S.rf (Nat.le_refl _) (Nat.le_refl _) ⟨Nat.le_refl _, Nat.le_refl _⟩ (Nat.le_refl _) (Nat.le_refl _)
  simp only [Nat.sub_self] at hw
  exact hw
theorem xcall_sound (hT2 : xTab2) (hT3 : xTab3) {n d k k' : Nat} (ih : xOK n) (M : xM p s m args meth c D dA b B oc nL ini cc) (N : xN l b B s c k) {i : Instr} {len : Nat} {as rest : List Value} (h : xcall oc i len st hp = some (k', as, rest)) (hd : decode cc pc = .ok (i, len)) {q' : xMt} (hq' : xmts[k']? = some q') {v : Option Value} {hp' : List xC} {ks' : Nat}
    (hrun : xrun n d k' (0, lv_args 0 as, [], hp, ks) = some (.inl v, hp', ks')) (hcat : xcat as ≤ q'.2.2.2.1) (hsz : ls.size = nL) (hP : xP b B D dA hp H) (hS : va_S (fun q => B ≤ q) s.heap H locs) (hR : xRoom (d + 1) R) (hc : cells + (hp'.length - hp.length) ≤ R.cells) (hs : slots + (ks' - ks) ≤ R.slots)
    (kk : ∀ (H1 : Heap) (locs1 : List Loc), xP b B D dA hp' H1 → va_S (fun q => B ≤ q) s.heap H1 locs1 → W p l e R s m args below meth c H1 locs1 (cells + (hp'.length - hp.length)) (slots + (ks' - ks)) Q (F0 m (pc + 3) ls ((v.toList ++ rest).map (xv b B)))) : W p l e R s m args below meth c H locs cells slots Q (F0 m pc ls (st.map (xv b B))) := by
  have hpre := xpre M N hP hS as
  obtain ⟨hx, hb, ⟨own, ho1, ho2⟩, hts, hK, hbB, hBs, hnL, hini, hlocks, hBw, hXs⟩ := M
  obtain ⟨hst, hE, htab⟩ := N
  have hmx := (hT2.2.1 _ _ hq').2.1
  have hR1 : 8 * d + 8 + 1 ≤ R.frames := by have := hR.1; omega
  have hR2 : 8 + (q'.2.2.2.1 + 11) + (96 * d + 128) ≤ R.locals := by have := hR.2; omega
  have kk' : ∀ (H1 : Heap) (locs1 : List Loc), xP b B D dA hp' H1 → va_S (fun q => B ≤ q) s.heap H1 locs1 → W p l e R s m args below meth c H1 locs1 (cells + (hp'.length - hp.length)) (slots + (ks' - ks)) Q (F0 m (pc + 3) ls ((v.map (xv b B)).toList ++ rest.map (xv b B))) := by
    have e : (v.map (xv b B)).toList ++ rest.map (xv b B) = (v.toList ++ rest).map (xv b B) := by cases v <;> rfl
    rw [e]
    exact kk
  have hS0 : CallFix p m c cc nL s args xwl own := ⟨hx, hb, hnL, ho2, hts⟩
  unfold xcall at h
  split at h
  · rename_i ix
    split at h <;> (try (cases h; done))
    rename_i kd k0 h1
    split at h <;> (try (cases h; done))
    rename_i q0 hq0
    split at h <;> (try (cases h; done))
    rename_i as0 a rest0 htk
    split at h <;> (try (cases h; done))
    rename_i ci fs hcell
    split at h <;> (try (cases h; done))
    rename_i hn
    obtain ⟨rfl, hkd, hmm, rfl, hci, hrc⟩ := hn
    cases h
    cases Option.some.inj (hq0.symm.trans hq')
    obtain ⟨hstk, hlen⟩ := xtk_spec htk
    have hkd6 : kd < 6 := by omega
    obtain ⟨own', w1, w2, w3, w4, w5, w6, w7, w8, -, -⟩ := hT2.2.2.2.1 _ _ _ _ _ h1 hkd6 hmm hq0
    cases Option.some.inj (ho1.symm.trans w1)
    obtain ⟨w9, w10, w11⟩ := w8 hkd
    have hM := xMet_in (xMet (b := b) (B := B) (D := D) (dA := dA) hT2 ih hrun hq0 w4 (hT3.1 _ _ _ _ h1 hkd6 hmm) hst hcat)
    obtain ⟨r, hr1, hr2, -⟩ : ∃ r : vw_C, xcl[q'.1]? = some r ∧ r.1 = q'.2.1.cls ∧ True := by
      obtain ⟨r, hr, -⟩ := hP.obj hcell
      exact ⟨r, hr, Option.some.inj ((hT2.2.2.1 _ _ hci hr).symm.trans (hT2.2.1 _ _ hq0).1), trivial⟩
    have hrecv : ∃ cellB : Cell, H[xa b B a]? = some cellB ∧ cellB.vm.isStatics = false ∧ s.vm.findClass q'.2.1.cls = some cellB.cls := by
      rw [← hr2]
      exact va_recv hK (hP.oneO hcell) hr1 (q0 := 0) rfl
    have hstack : (F0 m pc ls (st.map (xv b B))).stack = (as0.map (xv b B)).reverse ++ .ref (xa b B a) :: rest.map (xv b B) := by
      show st.map (xv b B) = _
      rw [hstk]
      simp [xv]
    rcases hkd with rfl | rfl
    · refine x_after (va_runV hS0 hM (C := q'.2.1.cls) (index := ix) (bytes := q'.2.2.1) (maxL := q'.2.2.2.1) (ret := q'.2.2.2.2.1) (n := q'.2.2.2.2.2 - 1) (b := xa b B a) (As := as0.map (xv b B)) (rest := rest.map (xv b B)) ⟨⟨rfl, rfl, hR1, hR2, pay_in hts (xws_good hT2 w2), List.mem_cons_self, hts _ w2, hts _ w3, w5, x_par w11, hts _ (w6 (by decide))⟩, hts _ w9, hts _ w10⟩ ⟨hpre.1, hrecv, hpre.2⟩ rfl (by rw [List.length_map]; exact hlen) hsz hstack (by show 2 * 0 + _ ≤ _; rw [xcat_map]; omega) hd ⟨hc, hs⟩) hS kk'
    · obtain ⟨host, hho⟩ := w7 (by decide)
      refine x_after (va_runVN hS0 hM (C := q'.2.1.cls) (host := host) (index := ix) (bytes := q'.2.2.1) (maxL := q'.2.2.2.1) (ret := q'.2.2.2.2.1) (n := q'.2.2.2.2.2 - 1) (b := xa b B a) (As := as0.map (xv b B)) (rest := rest.map (xv b B)) ⟨⟨⟨rfl, rfl, hR1, hR2, pay_in hts (xws_good hT2 w2), List.mem_cons_self⟩, hts _ w2, hts _ w3, w5, x_par w11, va_Nw.use rfl (hBw _ hho rfl)⟩, hts _ w9, hts _ w10⟩ ⟨hpre.1, hrecv, hpre.2⟩ rfl (by rw [List.length_map]; exact hlen) hsz hstack (by show 2 * 0 + _ ≤ _; rw [xcat_map]; omega) hd ⟨hc, hs⟩) hS kk'
  · rename_i ix
    split at h <;> (try (cases h; done))
    rename_i kd k0 h1
    split at h <;> (try (cases h; done))
    rename_i q0 hq0
    split at h <;> (try (cases h; done))
    rename_i as0 rest0 htk
    split at h <;> (try (cases h; done))
    rename_i hn
    obtain ⟨rfl, hkd, hmm, hrc⟩ := hn
    cases h
    cases Option.some.inj (hq0.symm.trans hq')
    obtain ⟨hstk, hlen⟩ := xtk_spec htk
    have hstack : (F0 m pc ls (st.map (xv b B))).stack = (as.map (xv b B)).reverse ++ rest.map (xv b B) := by
      show st.map (xv b B) = _
      rw [hstk]
      simp
    by_cases h8 : kd = 8
    · subst h8
      obtain ⟨own', w1, w2, w3, w4, w5, w6, w7, w11⟩ := hT3.2 _ _ _ _ h1 hq0
      cases Option.some.inj (ho1.symm.trans w1)
      have hM := xMet_in (xMetH (b := b) (B := B) (D := D) (dA := dA) hT2 ih hrun hq0 w4 hst hcat)
      have hG : GoodIn xwl (Cond.codeWith q'.2.1 q'.2.2.1 q'.2.2.2.1 q'.2.2.2.2.1 (xtb k') :: xwl) := by
        intro w hw
        rcases List.mem_cons.mp hw with rfl | hw
        · exact ⟨w2, hT2.1 _ w2⟩
        · exact ⟨hw, hT2.1 _ hw⟩
      exact x_after (vx_runSW hS0 hM (hh := xtb k') (index := ix) (bytes := q'.2.2.1) (maxL := q'.2.2.2.1) (ret := q'.2.2.2.2.1) (n := q'.2.2.2.2.2) (As := as.map (xv b B)) (rest := rest.map (xv b B)) ⟨⟨rfl, rfl, hR1, hR2, pay_in hts hG, List.mem_cons_self⟩, hts _ w2, hts _ w3, w5, x_par w11, hts _ w6, hts _ w7⟩ hpre rfl (by rw [List.length_map]; exact hlen) hsz hstack (by show 2 * 0 + _ ≤ _; rw [xcat_map]; omega) hd ⟨hc, hs⟩) hS kk'
    · have hkd' : kd = 1 ∨ kd = 4 := by omega
      have hkd6 : kd < 6 := by omega
      obtain ⟨own', w1, w2, w3, w4, w5, w6, w7, -, w8, -⟩ := hT2.2.2.2.1 _ _ _ _ _ h1 hkd6 hmm hq0
      cases Option.some.inj (ho1.symm.trans w1)
      obtain ⟨w9, w11⟩ := w8 hkd'
      have hM := xMet_in (xMet (b := b) (B := B) (D := D) (dA := dA) hT2 ih hrun hq0 w4 (hT3.1 _ _ _ _ h1 hkd6 hmm) hst hcat)
      rcases hkd' with rfl | rfl
      · exact x_after (va_runS hS0 hM (index := ix) (bytes := q'.2.2.1) (maxL := q'.2.2.2.1) (ret := q'.2.2.2.2.1) (n := q'.2.2.2.2.2) (As := as.map (xv b B)) (rest := rest.map (xv b B)) ⟨⟨rfl, rfl, hR1, hR2, pay_in hts (xws_good hT2 w2), List.mem_cons_self, hts _ w2, hts _ w3, w5, x_par w11, hts _ (w6 (by decide))⟩, hts _ w9⟩ hpre rfl (by rw [List.length_map]; exact hlen) hsz hstack (by show 2 * 0 + _ ≤ _; rw [xcat_map]; omega) hd ⟨hc, hs⟩) hS kk'
      · obtain ⟨host, hho⟩ := w7 (by decide)
        exact x_after (va_runSN hS0 hM (host := host) (index := ix) (bytes := q'.2.2.1) (maxL := q'.2.2.2.1) (ret := q'.2.2.2.2.1) (n := q'.2.2.2.2.2) (As := as.map (xv b B)) (rest := rest.map (xv b B)) ⟨⟨⟨rfl, rfl, hR1, hR2, pay_in hts (xws_good hT2 w2), List.mem_cons_self⟩, hts _ w2, hts _ w3, w5, x_par w11, va_Nw.use rfl (hBw _ hho rfl)⟩, hts _ w9, trivial⟩ hpre rfl (by rw [List.length_map]; exact hlen) hsz hstack (by show 2 * 0 + _ ≤ _; rw [xcat_map]; omega) hd ⟨hc, hs⟩) hS kk'
  · rename_i ix
    split at h <;> (try (cases h; done))
    rename_i kd k0 h1
    split at h <;> (try (cases h; done))
    rename_i q0 hq0
    split at h <;> (try (cases h; done))
    rename_i as0 a rest0 htk
    split at h <;> (try (cases h; done))
    rename_i hn
    obtain ⟨rfl, hkd, hmm, hrc⟩ := hn
    cases h
    cases Option.some.inj (hq0.symm.trans hq')
    obtain ⟨hstk, hlen⟩ := xtk_spec htk
    have hkd6 : kd < 6 := by omega
    obtain ⟨own', w1, w2, w3, w4, w5, w6, w7, -, -, w8⟩ := hT2.2.2.2.1 _ _ _ _ _ h1 hkd6 hmm hq0
    cases Option.some.inj (ho1.symm.trans w1)
    obtain ⟨w9, w10, w12, w11⟩ := w8 hkd
    have hM := xMet_in (xMet (b := b) (B := B) (D := D) (dA := dA) hT2 ih hrun hq0 w4 (hT3.1 _ _ _ _ h1 hkd6 hmm) hst hcat)
    have hstack : (F0 m pc ls (st.map (xv b B))).stack = (as0.map (xv b B)).reverse ++ .ref (xa b B a) :: rest.map (xv b B) := by
      show st.map (xv b B) = _
      rw [hstk]
      simp [xv]
    rw [w12] at w2
    have w13 := pay_in hts (xws_good hT2 (q := q') (by rw [w12]; exact w2))
    have w14 : Cond.code q'.2.1 q'.2.2.1 q'.2.2.2.1 none ∈ xws q' := by rw [← w12]; exact List.mem_cons_self
    rcases hkd with rfl | rfl
    · exact x_after (va_runI hS0 hM (index := ix) (bytes := q'.2.2.1) (maxL := q'.2.2.2.1) (n := q'.2.2.2.2.2 - 1) (b := xa b B a) (As := as0.map (xv b B)) (rest := rest.map (xv b B)) ⟨⟨rfl, rfl, hR1, hR2, w13, w14, hts _ w2, hts _ w3, w5, x_par w11, hts _ (w6 (by decide))⟩, w10, hts _ w9⟩ hpre rfl (by rw [List.length_map]; exact hlen) hsz hstack (by show 2 * 0 + _ ≤ _; rw [xcat_map]; omega) hd ⟨hc, hs⟩) hS kk'
    · obtain ⟨host, hho⟩ := w7 (by decide)
      exact x_after (va_runIN hS0 hM (host := host) (index := ix) (bytes := q'.2.2.1) (maxL := q'.2.2.2.1) (n := q'.2.2.2.2.2 - 1) (b := xa b B a) (As := as0.map (xv b B)) (rest := rest.map (xv b B)) ⟨⟨⟨rfl, rfl, hR1, hR2, w13, w14⟩, hts _ w2, hts _ w3, w5, x_par w11, va_Nw.use rfl (hBw _ hho rfl)⟩, w10, hts _ w9⟩ hpre rfl (by rw [List.length_map]; exact hlen) hsz hstack (by show 2 * 0 + _ ≤ _; rw [xcat_map]; omega) hd ⟨hc, hs⟩) hS kk'
  · cases h
end XW
