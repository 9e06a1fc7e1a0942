/-! THE CLAIM OUT OF ONE WALK OF THE LAW'S BODY. Your part is whole_start (and what it stands on); all else here is the same for every law, but numbers. -/
def R_law : String := "StakeChainLaw"
def lw_P (b : Addr) (xs : List Int32) (args : Array Value) (s : State) : Prop := args = #[.ref b] ∧ s.IntsAt b xs ∧ xs.length ≤ 448 ∧ (Jvm.Cond.and given_1 narrow_1).before args s = true
def lw_Q (_ : Array Value) (s : State) (o : Outcome) (t : State) : Prop := o = .returned (some (.int 1)) ∧ Framed s o t [] 600128 7301098
def lw_Z (below : List Frame) (a : Array Value) (s : State) : State → Prop := fun t => ∃ o, t.status = .running ∧ Ended t below o ∧ lw_Q a s o t
/-- the law's own end, with 1 on the stack, nothing written that was there before, its room as the claim has it -/
theorem lw_ret {p : Program} {l : Launch} {e : Env} {s : State} {m : MethodId} {below : List Frame} {meth : Method} {c : Code} {b : Nat} (hx : p.tables.exec = Jvm.exec) (hb : c.code = code) (hr : meth.sig.returnType = ret) (hlocks : meth.locks = false) {pc : Nat} {H : Heap} {ls : Array Slot} (hdg : decode code pc = .ok (.ireturn, 1)) : W p l e room_1 s m #[Value.ref b] below meth c H [] 600128 7301098 (lw_Z below #[Value.ref b] s) (F0 m pc ls [.int 1]) := by
  intro T hT X
  obtain ⟨fs, hret, hrun, hended, hW, hframe⟩ := X.leave (v := some (.int 1)) (hlocks := hlocks) (fun h => by rw [hr] at h; cases h)
  have hmeth' : T.vm.method? m = some meth := X.method'
  refine ⟨T.setFrames fs, ?_, .returned (some (.int 1)), hrun, hended, rfl, ⟨_, rfl⟩, hW, hframe⟩
  jvm_step X.here [X.here.top, hx, hb, hdg, hmeth', hr, ret, narrow_b1]
  (try refine ⟨rfl, ?_⟩); (try refine ⟨rfl, ?_⟩)
  first | (intro acts; rw [hret _ acts rfl rfl rfl]) | rw [hret _ _ rfl rfl rfl]
  exact Steps.refl _
/-- what holds at the law's entry: the machine, the code, the tables' words (any of lw_tbl by 'hts w (by decide +kernel)'), the script of L ints xs at the cell b, what the Statement gives of the start (any of its parts by flat_of_before) -/
def lw_At (p : Program) (s : State) (m : MethodId) (meth : Method) (c : Code) (b L : Nat) (xs : Nat → Int32) : Prop :=
  p.tables.exec = Jvm.exec ∧ c.code = code ∧ meth.sig.returnType = ret ∧ c.maxLocals = 7 ∧ s.vm.findClass R_law = some m.cls ∧ (∀ w ∈ lw_tbl, w.before #[Value.ref b] s = true) ∧ va_X b L xs s s.heap ∧ b < s.heap.size ∧ meth.locks = false ∧ (Jvm.Cond.and given_1 narrow_1).before #[Value.ref b] s = true
section XLW
set_option maxRecDepth 100000 in
theorem xinst_all : (List.range 15).all (fun ci => match xcl[ci]? with
  | some r => lw_tbl.contains (Cond.instantiable r.1 (if ci < 12 then r.2.2 else 6))
  | none => true) = true := by decide +kernel
def xaty (t : Nat) : FieldType := match t with
  | 0 => .int
  | 1 => .boolean
  | 2 => .long
  | t + 3 => .object (xovs.getD t "")
set_option maxRecDepth 100000 in
theorem xover_all : (List.range 5).all (fun t => lw_tbl.contains (Cond.arrayOver (.object (xovs.getD t "")))) = true := by decide +kernel
theorem xtl_at {dA : Nat → ClassId} {k : Nat} {q : ClassId × FieldType} (h : (xtl dA)[k]? = some q) : k < 8 ∧ q = (dA k, xaty k) := by
  match k, h with
  | 0, h => cases h; exact ⟨by decide, rfl⟩
  | 1, h => cases h; exact ⟨by decide, rfl⟩
  | 2, h => cases h; exact ⟨by decide, rfl⟩
  | k + 3, h =>
    have hl : xovs.length = 5 := rfl
    have hlt : k < xovs.length := by
      have h1 := (List.getElem?_eq_some_iff.mp h).1
      simp only [xtl, List.length_cons, List.length_map, List.length_range] at h1
      omega
    rw [xtl_ref hlt] at h
    cases h
    exact ⟨by omega, rfl⟩
theorem x_known {args : Array Value} {s : State} (hts : ∀ w ∈ lw_tbl, w.before args s = true) : ∃ (D : va_G) (dA : Nat → ClassId), va_K D xcl (xtl dA) s := by
  have h1 : ∀ ci : Nat, ∃ (cC : ClassId) (iS : Nat → Nat), ∀ r : vw_C, xcl[ci]? = some r → u_Kn s r.1 r.2.1 r.2.2 cC iS := by
    intro ci
    cases hr : xcl[ci]? with
    | none => exact ⟨0, fun _ => 0, fun r h => by cases h⟩
    | some r =>
      have hlt : ci < 15 := (List.getElem?_eq_some_iff.mp hr).1
      have h2 := xall xinst_all hlt
      rw [hr] at h2
      obtain ⟨cC, iS, hk⟩ := u_known (n := if ci < 12 then r.2.2 else 6) hts (fun w hw => (xwl_in (xTab_ok.2.1 ci r hr w hw)).1) (hts _ (List.elem_iff.mp h2))
      exact ⟨cC, iS, fun r' h => by cases h; exact hk⟩
  have h2 : ∀ t : Nat, ∃ cA : ClassId, t < 8 → ArrOfT s cA (xaty t) ∧ va_RA s cA (xaty t) := by
    intro t
    obtain ⟨w1, w2, w3⟩ := xTab_ok.2.2.2.2.2.2.1
    match t with
    | 0 =>
      obtain ⟨cA, k, comp, z1, z2, z3⟩ := Cond.arrayClass_spec (hts _ (xwl_in w1).1)
      exact ⟨cA, fun _ => ⟨fun n z => ⟨fun _ h => (nomatch h), k, z2, comp, z3⟩, z1⟩⟩
    | 1 =>
      obtain ⟨cA, k, comp, z1, z2, z3⟩ := Cond.arrayClass_spec (hts _ (xwl_in w2).1)
      exact ⟨cA, fun _ => ⟨fun n z => ⟨fun _ h => (nomatch h), k, z2, comp, z3⟩, z1⟩⟩
    | 2 =>
      obtain ⟨cA, k, comp, z1, z2, z3⟩ := Cond.arrayClass_spec (hts _ (xwl_in w3).1)
      exact ⟨cA, fun _ => ⟨fun n z => ⟨fun _ h => (nomatch h), k, z2, comp, z3⟩, z1⟩⟩
    | t + 3 =>
      by_cases ht : t < 5
      · obtain ⟨comp, cA, k, z1, z2, z3, z4, z5⟩ := Cond.arrayOver_spec (hts _ (List.elem_iff.mp (xall xover_all ht)))
        exact ⟨cA, fun _ => ⟨fun n z => ⟨fun _ h => (nomatch h), k, z3, comp, z4⟩, k, comp, z3, z4, z1, z5⟩⟩
      · exact ⟨0, fun h => absurd h (by omega)⟩
  refine ⟨(fun ci => Classical.choose (h1 ci), fun ci => Classical.choose (Classical.choose_spec (h1 ci))), fun t => Classical.choose (h2 t), fun ci r hr => Classical.choose_spec (Classical.choose_spec (h1 ci)) r hr, fun k q hk => ?_⟩
  obtain ⟨hlt, rfl⟩ := xtl_at hk
  exact Classical.choose_spec (h2 k) hlt
theorem x_str {args : Array Value} {s : State} {own tx : String} {k : Nat} (h : (Cond.stringRef own k tx).before args s = true) : ∃ sa : Nat, vk_R own k tx sa s := by
  have hcur : ∃ cur, s.vm.findClass own = some cur := by
    have h1 := h
    simp only [Cond.before, Cond.holds, Cond.value] at h1
    cases hc : s.vm.findClass own with
    | none => simp [hc] at h1
    | some cur => exact ⟨cur, rfl⟩
  obtain ⟨cur, hcur⟩ := hcur
  obtain ⟨-, -, -, a, -, -, -, -, -, hev⟩ := Cond.stringRef_spec hcur h
  exact ⟨a, vk_R.of h hev⟩
theorem x_B {args : Array Value} {s : State} (hts : ∀ w ∈ lw_tbl, w.before args s = true) : xB s := by
  intro w hw hb
  have h := hts w hw
  unfold xbad at hb
  split at hb
  · exact va_Nw.of rfl h
  · exact va_Nw.of rfl h
  · exact va_Nw.of rfl h
  · exact h
  · cases hb
set_option maxRecDepth 100000 in
theorem xst_w : (lw_tbl.contains (Cond.laysStatic Bundle.tN "UNASSIGNED_STACK" Bundle.steD) && lw_tbl.contains (Cond.laysStatic Bundle.tN "SUPPRESSED_SENTINEL" Bundle.listD) && lw_tbl.contains (Cond.initialized Bundle.tN)) = true := by decide +kernel
set_option maxRecDepth 100000 in
theorem xst_n : ((flatC (Jvm.Cond.and given_1 narrow_1)).contains (Cond.isRef (.static Bundle.tN "UNASSIGNED_STACK" Bundle.steD)) && (flatC (Jvm.Cond.and given_1 narrow_1)).contains (Cond.isRef (.static Bundle.tN "SUPPRESSED_SENTINEL" Bundle.listD))) = true := by decide +kernel
set_option maxRecDepth 100000 in
theorem xst_c : (xEX.all fun a => xEX.all fun b => decide (a = b) || (flatC (Jvm.Cond.and given_1 narrow_1)).contains (Cond.not (.castable a b))) = true := by decide +kernel
theorem x_E {s : State} {b L : Nat} {xs : Nat → Int32} (hts : ∀ w ∈ lw_tbl, w.before #[Value.ref b] s = true) (hX : va_X b L xs s s.heap) (hgv : (Jvm.Cond.and given_1 narrow_1).before #[Value.ref b] s = true) : xE (b, L, xs) s.heap.size s s.heap := by
  have hs := flat_of_before _ hgv
  have w := xst_w
  have n := xst_n
  simp only [Bool.and_eq_true] at w n
  have hA : ∀ a : Nat, a < s.heap.size → ¬ s.heap.size ≤ a := fun a h => Nat.not_le.mpr h
  refine ⟨vx_Zqof (hts _ (List.elem_iff.mp w.1.1)) (hts _ (List.elem_iff.mp w.2)) (hs _ (List.elem_iff.mp n.1)) hA, vx_Zqof (hts _ (List.elem_iff.mp w.1.2)) (hts _ (List.elem_iff.mp w.2)) (hs _ (List.elem_iff.mp n.2)) hA, fun own k tx hm => x_str (hts _ hm), x_B hts, fun a ha c hc hne => ?_, hX⟩
  have h1 := List.all_eq_true.mp (List.all_eq_true.mp xst_c a ha) c hc
  simp only [Bool.or_eq_true, decide_eq_true_eq] at h1
  rcases h1 with h1 | h1
  · exact absurd h1 hne
  · exact va_Nc.of (hs _ (List.elem_iff.mp h1))
/-- A RUN OF THE LAW IN THE SMALL MACHINE IS ONE IN THE MACHINE -/
theorem x_law {p : Program} {e : Env} {s : State} {m : MethodId} {below : List Frame} {meth : Method} {c : Code} (l : Launch) (hl0 : l.stackTraces = false) (htab : c.exceptionTable.toList = []) {b L : Nat} {xs : Nat → Int32} (C0 : lw_At p s m meth c b L xs) {d : Nat} (hd : xRoom d room_1) {hp' : List xC} {ks' : Nat}
    (hX : X d 191 (0, [(0, .ref 0)], [], [.inl (0, L, .inl xs)], 0) (.inl (some (.int 1)), hp', ks')) (hcl : hp'.length - 1 ≤ 600128) (hsl : ks' ≤ 7301098) : W p l e room_1 s m #[Value.ref b] below meth c s.heap [] 0 0 (lw_Z below #[Value.ref b] s) (entryFrame m ([Value.ref b] : List Value).toArray 7) := by
  obtain ⟨hx, hb, hr, hml, hown, hts, hXs, hbl, hlocks, hgv⟩ := C0
  obtain ⟨D, dA, hK⟩ := x_known hts
  have hE := x_E hts hXs hgv
  obtain ⟨n, hn⟩ := hX
  have hrun := hn n (Nat.le_refl _)
  have M : xM p s m #[Value.ref b] meth c D dA (b, L, xs) s.heap.size 12 7 (decide (yL_law.name = "<init>")) cL_law :=
    ⟨hx, hb, ⟨RL, rfl, hown⟩, fun w hw => hts w (xwl_in hw).1, hK, hbl, Nat.le_refl _, hml, fun z => absurd z (by decide), hlocks, hE.2.2.2.1, hXs⟩
  have hl := lv_entry [Value.ref b] (n := 7) (show 1 ≤ 7 by decide)
  rw [lg_entry_eq]
  generalize (lg_sl [Value.ref b] ++ List.replicate (7 - (lg_sl [Value.ref b]).length) Slot.unset).toArray = ls at hl ⊢
  have hP : xP (b, L, xs) s.heap.size D dA [.inl (0, L, .inl xs)] s.heap := ⟨Nat.le_refl 1, rfl, fun k q hk => by simp at hk, rfl⟩
  have hw := xrun_sound xTab_ok xTab2_ok xTab3_ok xTab4_ok xTab5_ok xThrOk_ok xHndOk_ok n d 191 _ _ _ _ hrun _ rfl p l e room_1 s m #[Value.ref b] below meth c s.heap [] ls D dA (b, L, xs) s.heap.size 1 0 M hr ⟨hl0, hE, ?_⟩ hl hP va_S.rf (Nat.le_refl _) (Nat.le_refl _) hd hcl hsl
  · intro T hT X
    obtain ⟨t, a1, o, b1, b2, b3⟩ := hw T hT X
    refine ⟨t, a1, o, b1, b2, ?_⟩
    rcases b3 with ⟨⟨v, hv, ho, -⟩, Ls, ⟨hret, hW, e1, e2, e3, e4, e5, e6⟩, hfree⟩ | ⟨q, -, E, ce, Ls, ⟨ci, r, ho, -⟩, -⟩
    · cases hv
      subst ho
      refine ⟨rfl, hret, hW, e1, e2, Nat.le_trans e3 (Nat.add_le_add_left hcl _), e4, Nat.le_trans e5 hsl, fun a cl hc => ?_⟩
      obtain ⟨c', z1, z2, z3, z4⟩ := e6 a cl hc
      exact ⟨c', z1, z2, z3, fun i _ => z4 i (fun hm => absurd (hfree _ hm) (Nat.not_le.mpr (Array.getElem?_eq_some_iff.mp hc).1))⟩
    · cases ho
  · rw [htab]
    rfl
end XLW
