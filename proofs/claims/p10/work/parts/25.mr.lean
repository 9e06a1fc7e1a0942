-- the fields: 0 tKind[1500], 1 tA[1500], 2 tB[1500], 3 tV[1500], 4 transactions, 5 bParent[300], 6 bHeight[300], 7 bProposer[300], 8 bMany[300], 9 bList[3600], 10 bClaim[4800], 11 bSound[300], 12 blocks, 13 mKind[6000], 14 mNode[6000], 15 mHeight[6000], 16 mRound[6000], 17 mBlock[6000], 18 mBefore[6000], 19 messages, 20 knows[96000], 21 known[16], 22 last[16], 23 round[16], 24 step[16], 25 lock[16], 26 lockRound[16], 27 candidate[16], 28 candidateRound[16], 29 isFaulty[16], 30 isDown[16], 31 isSeen[16], 32 fails[16], 33 records[16], 34 torn[16], 35 wMessage[2048], 36 wKind[2048], 37 wRound[2048], 38 wBlock[2048], 39 wBefore[2048], 40 wStep[2048], 41 wLock[2048], 42 wLockRound[2048], 43 wCandidate[2048], 44 wCandidateRound[2048], 45 trusted, 46 looks, 47 thrown, 48 done, 49 balance[200], 50 bond[3200], 51 proved[16], 52 rAccount[33], 53 rAmount[33], 54 rDue[33], 55 jailed[16], 56 returns, 57 burnt, 58 path[300], 59 own[6000], 60 powers[256], 61 total[16], 62 now[96000], 63 nowMany[16], 64 isKnown[96000], 65 isOnce[16]
def mfs (Q : Nat → Nat) (v : Nat → Int32) : List Value := [.ref (Q 0 + 1), .ref (Q 1 + 1), .ref (Q 2 + 1), .ref (Q 3 + 1), .int (v 4), .ref (Q 5 + 1), .ref (Q 6 + 1), .ref (Q 7 + 1), .ref (Q 8 + 1), .ref (Q 9 + 1), .ref (Q 10 + 1), .ref (Q 11 + 1), .int (v 12), .ref (Q 13 + 1), .ref (Q 14 + 1), .ref (Q 15 + 1), .ref (Q 16 + 1), .ref (Q 17 + 1), .ref (Q 18 + 1), .int (v 19), .ref (Q 20 + 1), .ref (Q 21 + 1), .ref (Q 22 + 1), .ref (Q 23 + 1), .ref (Q 24 + 1), .ref (Q 25 + 1), .ref (Q 26 + 1), .ref (Q 27 + 1), .ref (Q 28 + 1), .ref (Q 29 + 1), .ref (Q 30 + 1), .ref (Q 31 + 1), .ref (Q 32 + 1), .ref (Q 33 + 1), .ref (Q 34 + 1), .ref (Q 35 + 1), .ref (Q 36 + 1), .ref (Q 37 + 1), .ref (Q 38 + 1), .ref (Q 39 + 1), .ref (Q 40 + 1), .ref (Q 41 + 1), .ref (Q 42 + 1), .ref (Q 43 + 1), .ref (Q 44 + 1), .int (v 45), .int (v 46), .int (v 47), .int (v 48), .ref (Q 49 + 1), .ref (Q 50 + 1), .ref (Q 51 + 1), .ref (Q 52 + 1), .ref (Q 53 + 1), .ref (Q 54 + 1), .ref (Q 55 + 1), .int (v 56), .int (v 57), .ref (Q 58 + 1), .ref (Q 59 + 1), .ref (Q 60 + 1), .ref (Q 61 + 1), .ref (Q 62 + 1), .ref (Q 63 + 1), .ref (Q 64 + 1), .ref (Q 65 + 1)]
def mrow : List (Nat × Nat × Nat) := [(0, 0, 1500), (1, 0, 1500), (2, 0, 1500), (3, 0, 1500), (5, 0, 300), (6, 0, 300), (7, 0, 300), (8, 0, 300), (9, 0, 3600), (10, 0, 4800), (11, 0, 300), (13, 0, 6000), (14, 0, 6000), (15, 0, 6000), (16, 0, 6000), (17, 0, 6000), (18, 0, 6000), (20, 0, 96000), (21, 0, 16), (22, 0, 16), (23, 0, 16), (24, 0, 16), (25, 0, 16), (26, 0, 16), (27, 0, 16), (28, 0, 16), (29, 1, 16), (30, 1, 16), (31, 1, 16), (32, 0, 16), (33, 0, 16), (34, 0, 16), (35, 0, 2048), (36, 0, 2048), (37, 0, 2048), (38, 0, 2048), (39, 0, 2048), (40, 0, 2048), (41, 0, 2048), (42, 0, 2048), (43, 0, 2048), (44, 0, 2048), (49, 0, 200), (50, 0, 3200), (51, 0, 16), (52, 0, 33), (53, 0, 33), (54, 0, 33), (55, 1, 16), (58, 0, 300), (59, 0, 6000), (60, 0, 256), (61, 0, 16), (62, 0, 96000), (63, 0, 16), (64, 1, 96000), (65, 1, 16)]
/-- the reference stands at place a + 1, its rows at Q f + 1: m its rows' ints by field, v its numbers by field -/
def MR (a : Nat) (Q : Nat → Nat) (hp : List xC) (m : Nat → Nat → Int32) (v : Nat → Int32) : Prop :=
  hp[a + 1]? = some (.inr (11, mfs Q v)) ∧ (∀ e ∈ mrow, hp[Q e.1 + 1]? = some (.inl (e.2.1, e.2.2, .inl (m e.1)))) ∧ (∀ e ∈ mrow, Q e.1 ≠ a) ∧ ∀ e ∈ mrow, ∀ e' ∈ mrow, Q e.1 = Q e'.1 → e.1 = e'.1
section XMR
variable {a : Nat} {Q : Nat → Nat} {hp : List xC} {m : Nat → Nat → Int32} {v : Nat → Int32}
theorem MR.row (h : MR a Q hp m v) (f t n : Nat) (hf : (f, t, n) ∈ mrow) : hp[Q f + 1]? = some (.inl (t, n, .inl (m f))) := h.2.1 _ hf
/-- a row is written -/
theorem MR.put (h : MR a Q hp m v) (f t n : Nat) (hf : (f, t, n) ∈ mrow) (g : Nat → Int32) : MR a Q (hp.set (Q f + 1) (.inl (t, n, .inl g))) (va_up m f g) v := by
  obtain ⟨h1, h2, h3, h4⟩ := h
  refine ⟨?_, fun e he => ?_, h3, h4⟩
  · rw [List.getElem?_set_ne (by have := h3 _ hf; dsimp only at this; omega)]
    exact h1
  · by_cases hq : Q f = Q e.1
    · have hfe : f = e.1 := h4 _ hf _ he hq
      have h9 := h2 _ he
      have h8 := h2 _ hf
      dsimp only at h8
      rw [← hq] at h9
      have h7 := h8.symm.trans h9
      have hlt : Q f + 1 < hp.length := (List.getElem?_eq_some_iff.mp h8).1
      rw [← hq, List.getElem?_set_self hlt]
      simp only [Option.some.injEq, Sum.inl.injEq, Prod.mk.injEq] at h7
      rw [h7.1, h7.2.1]
      simp [va_up, hfe]
    · have hne : ¬ e.1 = f := fun z => hq (by rw [z])
      rw [List.getElem?_set_ne (by omega)]
      rw [h2 _ he]
      simp [va_up, hne]
/-- a number is written -/
theorem mfs_up (Q : Nat → Nat) (v : Nat → Int32) (x : Int32) : ∀ f ∈ [4, 12, 19, 45, 46, 47, 48, 56, 57], (mfs Q v).set f (.int x) = mfs Q (va_up v f x) := by
  intro f hf
  simp only [List.mem_cons, List.not_mem_nil, or_false] at hf
  rcases hf with rfl | rfl | rfl | rfl | rfl | rfl | rfl | rfl | rfl <;> rfl
theorem MR.num (h : MR a Q hp m v) (f : Nat) (hf : f ∈ [4, 12, 19, 45, 46, 47, 48, 56, 57]) (x : Int32) : MR a Q (hp.set (a + 1) (.inr (11, (mfs Q v).set f (.int x)))) m (va_up v f x) := by
  obtain ⟨h1, h2, h3, h4⟩ := h
  refine ⟨?_, fun e he => ?_, h3, h4⟩
  · rw [List.getElem?_set_self (List.getElem?_eq_some_iff.mp h1).1, mfs_up Q v x f hf]
  · rw [List.getElem?_set_ne (by have := h3 _ he; omega)]
    exact h2 _ he
end XMR
