def xTab4 : Prop := ∀ (k pc ci : Nat) (x : Int32) (q : xMt), xhnd k pc ci = some x → xmts[k]? = some q → ∃ ix k', xat k pc = some (.invokevirtual ix, 3) ∧ xlk xivs q.1 ix = some (0, k')
section XX
variable {p : Program} {l : Launch} {e : Env} {R : Room} {s : State} {m : MethodId} {args : Array Value} {below : List Frame} {meth : Method} {c : Code} {H : Heap} {locs : List Loc} {cells slots : Nat} {Q : State → Prop}
variable {D : va_G} {dA : Nat → ClassId} {b : xS} {B oc nL : Nat} {ini : Bool} {cc : ByteArray} {pc : Nat} {ls : Array Slot} {lv : xL} {st : List Value} {hp : List xC} {ks : Nat}
/-- a call that throws -/
theorem xcall_soundX (hT2 : xTab2) (hT3 : xTab3) {n d k k' k9 ix : Nat} (ih : xOK n) (M : xM p s m args meth c D dA b B oc nL ini cc) (N : xN l b B s c k) {as rest : List Value} (h : xcall oc (.invokevirtual ix) 3 st hp = some (k', as, rest)) (h9 : xlk xivs oc ix = some (0, k9)) (hd : decode cc pc = .ok (.invokevirtual ix, 3)) {q' : xMt} (hq' : xmts[k']? = some q') {ci : Nat} {hp' : List xC} {ks' : Nat}
    (hrun : xrun n d k' (0, lv_args 0 as, [], hp, ks) = some (.inr ci, hp', ks')) (hcat : xcat as ≤ q'.2.2.2.1) (hsz : ls.size = nL) (hP : xP b B D dA hp H) (hS : va_S (fun q => B ≤ q) s.heap H locs) (hR : xRoom (d + 1) R) (hc : cells + (hp'.length - hp.length) ≤ R.cells) (hs : slots + (ks' - ks) ≤ R.slots)
    (kk : ∀ (H1 : Heap) (locs1 : List Loc) (r : vw_C) (q9 : Addr) (ce : Cell), xcl[ci]? = some r → xP b B D dA hp' H1 → va_S (fun q => B ≤ q) s.heap H1 locs1 → H1[q9]? = some ce → ce.vm = .none → s.vm.findClass r.1 = some ce.cls → vx_W p l e R s m args below meth c H1 locs1 (cells + (hp'.length - hp.length)) (slots + (ks' - ks)) Q (F0 m pc ls (rest.map (xv b B))) q9) : W p l e R s m args below meth c H locs cells slots Q (F0 m pc ls (st.map (xv b B))) := by
  have hpre := xpre M N hP hS as
  obtain ⟨hx, hb, ⟨own, ho1, ho2⟩, hts, hK, hbB, hBs, hnL, hini, hlocks, hBw, hXs⟩ := M
  obtain ⟨hst, hE, htab⟩ := N
  have hmx := (hT2.2.1 _ _ hq').2.1
  have hR1 : 8 * d + 8 + 1 ≤ R.frames := by have := hR.1; omega
  have hR2 : 8 + (q'.2.2.2.1 + 11) + (96 * d + 128) ≤ R.locals := by have := hR.2; omega
  have hS0 : CallFix p m c cc nL s args xwl own := ⟨hx, hb, hnL, ho2, hts⟩
  unfold xcall at h
  dsimp only at h
  rw [h9] at h
  dsimp only at h
  split at h <;> (try (cases h; done))
  rename_i q0 hq0
  split at h <;> (try (cases h; done))
  rename_i as0 a rest0 htk
  split at h <;> (try (cases h; done))
  rename_i cj fs hcell
  split at h <;> (try (cases h; done))
  rename_i hn
  obtain ⟨-, hkd, hmm, rfl, hci, hrc⟩ := hn
  cases h
  cases Option.some.inj (hq0.symm.trans hq')
  obtain ⟨hstk, hlen⟩ := xtk_spec htk
  obtain ⟨own', w1, w2, w3, w4, w5, w6, w7, w8, -, -⟩ := hT2.2.2.2.1 _ _ _ _ _ h9 (by decide) hmm hq0
  cases Option.some.inj (ho1.symm.trans w1)
  obtain ⟨w9, w10, w11⟩ := w8 (Or.inl rfl)
  have hM := xMet (b := b) (B := B) (D := D) (dA := dA) hT2 ih hrun hq0 w4 (hT3.1 _ _ _ _ h9 (by decide) hmm) hst hcat
  obtain ⟨r, hr1, hr2, -⟩ : ∃ r : vw_C, xcl[q'.1]? = some r ∧ r.1 = q'.2.1.cls ∧ True := by
    obtain ⟨r, hr, -⟩ := hP.obj hcell
    exact ⟨r, hr, Option.some.inj ((hT2.2.2.1 _ _ hci hr).symm.trans (hT2.2.1 _ _ hq0).1), trivial⟩
  have hrecv : ∃ cellB : Cell, H[xa b B a]? = some cellB ∧ cellB.vm.isStatics = false ∧ s.vm.findClass q'.2.1.cls = some cellB.cls := by
    rw [← hr2]
    exact va_recv hK (hP.oneO hcell) hr1 (q0 := 0) rfl
  have hstack : (F0 m pc ls (st.map (xv b B))).stack = (as0.map (xv b B)).reverse ++ .ref (xa b B a) :: rest.map (xv b B) := by
    show st.map (xv b B) = _
    rw [hstk]
    simp [xv]
  exact x_afterX (vx_runV hS0 hM (C := q'.2.1.cls) (index := ix) (bytes := q'.2.2.1) (maxL := q'.2.2.2.1) (ret := q'.2.2.2.2.1) (n := q'.2.2.2.2.2 - 1) (b := xa b B a) (As := as0.map (xv b B)) (rest := rest.map (xv b B)) ⟨⟨rfl, rfl, hR1, hR2, pay_in hts (xws_good hT2 w2), List.mem_cons_self, hts _ w2, hts _ w3, w5, x_par w11, hts _ (w6 (by decide))⟩, hts _ w9, hts _ w10⟩ ⟨hpre.1, hrecv, hpre.2⟩ rfl (by rw [List.length_map]; exact hlen) hsz hstack (by show 2 * 0 + _ ≤ _; rw [xcat_map]; omega) hd ⟨hc, hs⟩) hS kk
/-- WHAT THE SMALL MACHINE ANSWERS, THE MACHINE ANSWERS -/
theorem xrun_sound (hT : xTab) (hT2 : xTab2) (hT3 : xTab3) (hT4 : xTab4) (hT5 : xTab5) (hThr : xThrOk) (hHnd : xHndOk) : ∀ n, xOK n := by
  intro n
  induction n with
  | zero => intro d k g o hp' ks' h; simp [xrun] at h
  | succ n ih =>
    intro d k g o hp' ks' h q hq p l e R s m args below meth c H locs ls D dA b B len0 ks0 M hret N hl hP hS hl0 hk0 hR hc hs
    obtain ⟨pc, lv, st, hp, ks⟩ := g
    have hmono := xrun_mono _ _ _ _ _ _ _ h
    dsimp only at hl hP hl0 hk0 hmono ⊢
    unfold xrun at h
    rw [hq] at h
    dsimp only at h
    split at h <;> (try (cases h; done))
    rename_i i len hat
    have hd : decode q.2.2.1 pc = .ok (i, len) := (hT2.2.1 _ _ hq).2.2 _ _ _ hat
    split at h
    · rename_i g' h1
      obtain ⟨pc1, lv1, st1, hp1, ks1⟩ := g'
      have m1 := xs_mono h1
      have m2 := xrun_mono _ _ _ _ _ _ _ h
      dsimp only at m2
      refine xs_sound hT M h1 hd hl hP hS (by omega) (by omega) fun H1 locs1 ls1 hP1 hS1 hl1 => ?_
      have hw := ih d k (pc1, lv1, st1, hp1, ks1) o hp' ks' h q hq p l e R s m args below meth c H1 locs1 ls1 D dA b B len0 ks0 M hret N hl1 hP1 hS1 (Nat.le_trans hl0 m1.1) (Nat.le_trans hk0 m1.2) hR hc hs
      dsimp only at hw
      rw [show hp.length - len0 + (hp1.length - hp.length) = hp1.length - len0 by omega, show ks - ks0 + (ks1 - ks) = ks1 - ks0 by omega]
      exact hw
    split at h
    · rename_i st1 hp1 h1
      have m1 := xs9_len h1
      refine xs9_sound hT2 M h1 hd hP hS hl.1 (by have := hR.1; omega) (by have := hR.2; omega) (by omega) (by omega) fun H1 locs1 hP1 hS1 => ?_
      have hw := ih d k (pc + 3, lv, st1, hp1, ks) o hp' ks' h q hq p l e R s m args below meth c H1 locs1 ls D dA b B len0 ks0 M hret N hl hP1 hS1 (by dsimp only; omega) hk0 hR hc hs
      dsimp only at hw
      rw [m1] at hw
      exact hw
    split at h
    · rename_i v h1
      cases h
      exact xret_sound M hret h1 hd hP hS rfl rfl
    split at h
    · rename_i k' as rest h1
      split at h <;> (try (cases h; done))
      rename_i d' q' hq'
      split at h <;> (try (cases h; done))
      rename_i hcat
      split at h <;> (try (cases h; done))
      · rename_i v hp1 ks1 hrun
        have m1 := xrun_mono _ _ _ _ _ _ _ hrun
        have m2 := xrun_mono _ _ _ _ _ _ _ h
        dsimp only at m1 m2
        refine xcall_sound hT2 hT3 ih M N h1 hd hq' hrun hcat hl.1 hP hS hR (by omega) (by omega) fun H1 locs1 hP1 hS1 => ?_
        have hw := ih (d' + 1) k (pc + 3, lv, v.toList ++ rest, hp1, ks1) o hp' ks' h q hq p l e R s m args below meth c H1 locs1 ls D dA b B len0 ks0 M hret N hl hP1 hS1 (by dsimp only; omega) (by dsimp only; omega) hR hc hs
        dsimp only at hw
        rw [show hp.length - len0 + (hp1.length - hp.length) = hp1.length - len0 by omega, show ks - ks0 + (ks1 - ks) = ks1 - ks0 by omega]
        exact hw
      · rename_i ci hp1 ks1 hrun
        have m1 := xrun_mono _ _ _ _ _ _ _ hrun
        dsimp only at m1
        obtain ⟨x, hx, h⟩ := Option.map_eq_some_iff.mp h
        cases h
        obtain ⟨ix, k9, e1, e2⟩ := hT4 _ _ _ _ _ hx hq
        cases Option.some.inj (hat.symm.trans e1)
        refine xcall_soundX hT2 hT3 ih M N h1 e2 hd hq' hrun hcat hl.1 hP hS hR (by omega) (by omega) fun H1 locs1 r q9 ce hr hP1 hS1 z1 z2 z3 => ?_
        rw [show hp.length - len0 + (hp'.length - hp.length) = hp'.length - len0 by omega, show ks - ks0 + (ks' - ks) = ks' - ks0 by omega]
        exact hHnd (d' + 1) k pc ci x q r hq hx hr p l e R s m args below meth c H1 locs1 ls D dA b B _ _ hp' _ q9 ce lv M hret N hl hP1 hS1 hR z1 z2 z3
    · split at h
      · rename_i ci hci
        split at h <;> (try (cases h; done))
        rename_i hcat
        cases h
        simp only [List.length_append, List.length_cons, List.length_nil] at hc hs ⊢
        exact hThr d k pc ci q hq hci p l e R s m args below meth c H locs ls D dA b B _ _ _ _ hp _ M N hl.1 hP hS hR (by rw [xcat_map]; exact hcat) (by omega) (by omega) hc hs
      · split at h <;> (try (cases h; done))
        rename_i st1 rows n1 h1
        have m2 := xrun_mono _ _ _ _ _ _ _ h
        dsimp only at m2
        rw [List.length_append] at m2
        refine xsA_sound hT5 M h1 hd hP hS hl.1 (by have := hR.1; omega) (by have := hR.2; omega) (by omega) (by omega) fun H1 hP1 hS1 => ?_
        have hw := ih d k (pc + 3, lv, st1, hp ++ rows, ks + n1) o hp' ks' h q hq p l e R s m args below meth c H1 locs ls D dA b B len0 ks0 M hret N hl hP1 hS1 (by dsimp only; rw [List.length_append]; omega) (by dsimp only; omega) hR hc hs
        dsimp only at hw
        rw [List.length_append] at hw
        rw [show hp.length - len0 + rows.length = hp.length + rows.length - len0 by omega, show ks - ks0 + n1 = ks + n1 - ks0 by omega]
        exact hw
end XX
