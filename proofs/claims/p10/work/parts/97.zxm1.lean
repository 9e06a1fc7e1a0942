-- M: X11_isMoved#1
section
variable {d : Nat} {w : jW} 
set_option maxRecDepth 20000 in
set_option maxHeartbeats 8000000 in
theorem g_isMoved_l1 {n u : Int} {H0 : jH} (hp0 : 0 ≤ n ∧ n < 16) (hp1 : H0.2.2.1 79 0 (n) = 0) (hp2 : H0.2.2.1 80 0 (n) = 0) (hp3 : n < u) : ∀ (m : Nat), (∀ (r p : Int) (H : jH) (lv : jL), 0 < (m : Int) → (r = H0.2.2.1 73 0 (n)) → (0 ≤ p ∧ p ≤ 5999) → (0 ≤ H.2.2.1 67 0 (p)) → (H0.2.2.1 115 0 (n) = 0) → (1 ≤ H0.2.2.1 74 0 (n)) → (H.2.2.1 73 0 (n) = H0.2.2.1 73 0 (n)) → (H.2.2.1 74 0 (n) = H0.2.2.1 74 0 (n)) → (H.2.2.1 115 0 (n) = H0.2.2.1 115 0 (n)) → (H.2.2.1 72 0 (n) = H0.2.2.1 72 0 (n)) → (H.2.2.1 79 0 (n) = 0) → (H.2.2.1 80 0 (n) = 0) → (H.2.2.1 56 0 (H0.2.2.1 72 0 (n)) = H0.2.2.1 56 0 (H0.2.2.1 72 0 (n))) → (H.2.2.1 83 0 (n) ≤ 3 * H0.2.2.1 73 0 (n) + H0.2.2.1 74 0 (n) + 1) → (H0.1 11 19 0 ≤ H.1 11 19 0) → (0 ≤ H0.2.2.1 73 0 (n) ∧ H0.2.2.1 73 0 (n) ≤ 31) → (0 ≤ H0.2.2.1 74 0 (n) ∧ H0.2.2.1 74 0 (n) ≤ 2) → (0 ≤ H0.2.2.1 115 0 (n) ∧ H0.2.2.1 115 0 (n) ≤ 1) → (0 ≤ H0.2.2.1 72 0 (n) ∧ H0.2.2.1 72 0 (n) ≤ 299) → gT H → jEx [19, 12, 48, 56, 57] [60, 56, 59, 58, 55, 57, 61, 99, 100, 77, 78, 82, 80, 114, 115, 81, 105, 71, 70, 72, 75, 76, 68, 67, 65, 63, 64, 66, 112, 113, 108, 110, 101, 102, 103, 104, 83, 73, 74, 84, 111, 89, 88, 93, 94, 86, 91, 92, 85, 87, 90] H H0 → gP H → gX H → gL H → gZ H → gQ H → gB H → gK H → gN H → gW H (H.1 11 19 0) → gU H u → ((∃ j2 : Int, lv = [(4, .inl p), (3, .inl r), (2, .inl j2), (0, jT), (1, .inl n)]) ∨ (∃ j7 j6 j5 j2 : Int, lv = [(7, .inl j7), (6, .inl j6), (5, .inl j5), (4, .inl p), (3, .inl r), (2, .inl j2), (0, jT), (1, .inl n)]) ∨ (∃ j5 j2 : Int, lv = [(4, .inl p), (3, .inl r), (5, .inl j5), (2, .inl j2), (0, jT), (1, .inl n)])) → J true (d + 304) 143 w (437, lv, [], H) (jN fun v w' H' => w' = w ∧ gT H' ∧ jEx [19, 12, 48, 56, 57] [60, 56, 59, 58, 55, 57, 61, 99, 100, 77, 78, 82, 80, 114, 115, 81, 105, 71, 70, 72, 75, 76, 68, 67, 65, 63, 64, 66, 112, 113, 108, 110, 101, 102, 103, 104, 83, 73, 74, 84, 111, 89, 88, 93, 94, 86, 91, 92, 85, 87, 90] H' H0 ∧ gP H' ∧ gX H' ∧ gL H' ∧ gZ H' ∧ gQ H' ∧ gB H' ∧ gK H' ∧ gN H' ∧ gW H' (H'.1 11 19 0) ∧ gU H' u ∧ ∃ x, v = some (.inl x) ∧ (x = 0 ∨ x = 1) ∧ (x = 1 → 192 * H0.2.2.1 56 0 (H0.2.2.1 72 0 (n)) + 6 * H0.2.2.1 73 0 (n) + 2 * H0.2.2.1 74 0 (n) + H0.2.2.1 115 0 (n) + 1 ≤ 192 * H'.2.2.1 56 0 (H'.2.2.1 72 0 (n)) + 6 * H'.2.2.1 73 0 (n) + 2 * H'.2.2.1 74 0 (n) + H'.2.2.1 115 0 (n)) ∧ H0.1 11 19 0 ≤ H'.1 11 19 0)) := by
  intro m
  induction m with
  | zero =>
    skip
    · intro r p H lv hm hi0 hi1 hi2 hi3 hi4 hi5 hi6 hi7 hi8 hi9 hi10 hi11 hi12 hi13 hi14 hi15 hi16 hi17 hT hE k0gP k0gX k0gL k0gZ k0gQ k0gB k0gK k0gN k0gW k0gU hlv
      exfalso
      omega
  | succ m ih =>
    skip
    · intro r p H lv hm hi0 hi1 hi2 hi3 hi4 hi5 hi6 hi7 hi8 hi9 hi10 hi11 hi12 hi13 hi14 hi15 hi16 hi17 hT hE k0gP k0gX k0gL k0gZ k0gQ k0gB k0gK k0gN k0gW k0gU hlv
      rcases hlv with ⟨j2, rfl⟩ | ⟨j7, j6, j5, j2, rfl⟩ | ⟨j5, j2, rfl⟩
      · skip
        refine J.run 5 rfl (show ((1 : Int) = 0 ∨ (1 : Int) = 1) ∧ 0 ≤ n ∧ n < 16 from ⟨by omega, by omega, by omega⟩) ?_
        try dsimp only
        refine J.gn fun H235 hH235 => ?_
        have hT236 : gT H235 := by rw [hH235]; exact gT.upd hT (show 0 ≤ (1 : Int) ∧ (1 : Int) ≤ 1 from ⟨by omega, by omega⟩) (fun z => absurd z (by decide))
        have hE237 : jEx [19, 12, 48, 56, 57] [60, 56, 59, 58, 55, 57, 61, 99, 100, 77, 78, 82, 80, 114, 115, 81, 105, 71, 70, 72, 75, 76, 68, 67, 65, 63, 64, 66, 112, 113, 108, 110, 101, 102, 103, 104, 83, 73, 74, 84, 111, 89, 88, 93, 94, 86, 91, 92, 85, 87, 90] H235 H0 := by rw [hH235]; exact jEx.row hE (by decide)
        have k238 : gP H235 := by rw [hH235]; exact k0gP
        have k239 : gX H235 := by rw [hH235]; exact k0gX
        have k240 : gL H235 := by rw [hH235]; exact k0gL
        have k241 : gZ H235 := by rw [hH235]; exact k0gZ
        have k242 : gQ H235 := by rw [hH235]; exact k0gQ
        have k243 : gB H235 := by rw [hH235]; exact k0gB
        have k244 : gK H235 := by rw [hH235]; exact k0gK
        have k245 : gN H235 := by rw [hH235]; exact k0gN
        have k246 : gW H235 (H235.1 11 19 0) := by rw [hH235]; exact k0gW
        have k247 : gU H235 u := by rw [hH235]; exact k0gU
        have g248 : H235.2.2.1 115 0 (n) = (1 : Int) := by subst hH235; exact if_pos rfl
        have g249 : H235.1 11 12 0 = H.1 11 12 0 := by subst hH235; rfl
        have g250 : H235.1 11 19 0 = H.1 11 19 0 := by subst hH235; rfl
        have g251 : H235.2.2.1 67 0 (p) = H.2.2.1 67 0 (p) := by subst hH235; rfl
        have g252 : H235.2.2.1 73 0 (n) = H.2.2.1 73 0 (n) := by subst hH235; rfl
        have g253 : H235.2.2.1 74 0 (n) = H.2.2.1 74 0 (n) := by subst hH235; rfl
        have g255 : H235.2.2.1 72 0 (n) = H.2.2.1 72 0 (n) := by subst hH235; rfl
        have g256 : H235.2.2.1 79 0 (n) = H.2.2.1 79 0 (n) := by subst hH235; rfl
        have g257 : H235.2.2.1 80 0 (n) = H.2.2.1 80 0 (n) := by subst hH235; rfl
        have g258 : H235.2.2.1 56 0 (H0.2.2.1 72 0 (n)) = H.2.2.1 56 0 (H0.2.2.1 72 0 (n)) := by subst hH235; rfl
        have g259 : H235.2.2.1 83 0 (n) = H.2.2.1 83 0 (n) := by subst hH235; rfl
        clear hH235
        have f260 : -1 ≤ H235.2.2.1 67 0 (p) ∧ H235.2.2.1 67 0 (p) ≤ 299 := hT236.1 67 (p)
        have f261 : 1 ≤ H235.1 11 12 0 ∧ H235.1 11 12 0 ≤ 300 := hT236.2.1 12
        have f260b : H235.2.2.1 67 0 (p) < H235.1 11 12 0 := hT236.2.2.1 67 (p) rfl
        refine J.run 8 rfl ⟨(show 0 ≤ p ∧ p < 6000 from ⟨by omega, by omega⟩), (show 0 ≤ n ∧ n < 16 from ⟨by omega, by omega⟩)⟩ ?_
        try dsimp only
        refine J.gn fun H262 hH262 => ?_
        have hT263 : gT H262 := by rw [hH262]; exact gT.upd hT236 (show -1 ≤ H235.2.2.1 67 0 (p) ∧ H235.2.2.1 67 0 (p) ≤ 299 from ⟨by omega, by omega⟩) (fun _ => show H235.2.2.1 67 0 (p) < H235.1 11 12 0 by omega)
        have hE264 : jEx [19, 12, 48, 56, 57] [60, 56, 59, 58, 55, 57, 61, 99, 100, 77, 78, 82, 80, 114, 115, 81, 105, 71, 70, 72, 75, 76, 68, 67, 65, 63, 64, 66, 112, 113, 108, 110, 101, 102, 103, 104, 83, 73, 74, 84, 111, 89, 88, 93, 94, 86, 91, 92, 85, 87, 90] H262 H0 := by rw [hH262]; exact jEx.row hE237 (by decide)
        have k265 : gP H262 := by rw [hH262]; exact k238
        have k266 : gX H262 := by rw [hH262]; exact k239
        have k267 : gL H262 := by rw [hH262]; exact k240
        have k268 : gZ H262 := by rw [hH262]; exact k241
        have k269 : gQ H262 := by rw [hH262]; exact k242
        have k270 : gB H262 := by rw [hH262]; exact k243
        have k271 : gK H262 := by rw [hH262]; exact k244
        have k272 : gN H262 := by rw [hH262]; exact k245
        have k273 : gW H262 (H262.1 11 19 0) := by rw [hH262]; exact k246
        have k274 : gU H262 u := by rw [hH262]; exact k247
        have g275 : H262.2.2.1 77 0 (n) = H235.2.2.1 67 0 (p) := by subst hH262; exact if_pos rfl
        have g276 : H262.1 11 12 0 = H235.1 11 12 0 := by subst hH262; rfl
        have g277 : H262.1 11 19 0 = H235.1 11 19 0 := by subst hH262; rfl
        have g278 : H262.2.2.1 115 0 (n) = H235.2.2.1 115 0 (n) := by subst hH262; rfl
        have g279 : H262.2.2.1 67 0 (p) = H235.2.2.1 67 0 (p) := by subst hH262; rfl
        have g280 : H262.2.2.1 73 0 (n) = H235.2.2.1 73 0 (n) := by subst hH262; rfl
        have g281 : H262.2.2.1 74 0 (n) = H235.2.2.1 74 0 (n) := by subst hH262; rfl
        have g282 : H262.2.2.1 72 0 (n) = H235.2.2.1 72 0 (n) := by subst hH262; rfl
        have g283 : H262.2.2.1 79 0 (n) = H235.2.2.1 79 0 (n) := by subst hH262; rfl
        have g284 : H262.2.2.1 80 0 (n) = H235.2.2.1 80 0 (n) := by subst hH262; rfl
        have g285 : H262.2.2.1 56 0 (H0.2.2.1 72 0 (n)) = H235.2.2.1 56 0 (H0.2.2.1 72 0 (n)) := by subst hH262; rfl
        have g286 : H262.2.2.1 83 0 (n) = H235.2.2.1 83 0 (n) := by subst hH262; rfl
        clear hH262
        refine J.run 5 rfl (show 0 ≤ n ∧ n < 16 from ⟨by omega, by omega⟩) ?_
        try dsimp only
        refine J.gn fun H287 hH287 => ?_
        have hT288 : gT H287 := by rw [hH287]; exact gT.upd hT263 (show -1 ≤ r ∧ r ≤ 31 from ⟨by omega, by omega⟩) (fun z => absurd z (by decide))
        have hE289 : jEx [19, 12, 48, 56, 57] [60, 56, 59, 58, 55, 57, 61, 99, 100, 77, 78, 82, 80, 114, 115, 81, 105, 71, 70, 72, 75, 76, 68, 67, 65, 63, 64, 66, 112, 113, 108, 110, 101, 102, 103, 104, 83, 73, 74, 84, 111, 89, 88, 93, 94, 86, 91, 92, 85, 87, 90] H287 H0 := by rw [hH287]; exact jEx.row hE264 (by decide)
        have k290 : gP H287 := by rw [hH287]; exact k265
        have k291 : gX H287 := by rw [hH287]; exact k266
        have k292 : gL H287 := by rw [hH287]; exact k267
        have k293 : gZ H287 := by rw [hH287]; exact k268
        have k294 : gQ H287 := by rw [hH287]; exact k269
        have k295 : gB H287 := by rw [hH287]; exact k270
        have k296 : gK H287 := by rw [hH287]; exact k271
        have k297 : gN H287 := by rw [hH287]; exact k272
        have k298 : gW H287 (H287.1 11 19 0) := by rw [hH287]; exact k273
        have k299 : gU H287 u := by rw [hH287]; exact k274
        have g300 : H287.2.2.1 78 0 (n) = r := by subst hH287; exact if_pos rfl
        have g301 : H287.1 11 12 0 = H262.1 11 12 0 := by subst hH287; rfl
        have g302 : H287.1 11 19 0 = H262.1 11 19 0 := by subst hH287; rfl
        have g303 : H287.2.2.1 77 0 (n) = H262.2.2.1 77 0 (n) := by subst hH287; rfl
        have g304 : H287.2.2.1 115 0 (n) = H262.2.2.1 115 0 (n) := by subst hH287; rfl
        have g305 : H287.2.2.1 67 0 (p) = H262.2.2.1 67 0 (p) := by subst hH287; rfl
        have g306 : H287.2.2.1 73 0 (n) = H262.2.2.1 73 0 (n) := by subst hH287; rfl
        have g307 : H287.2.2.1 74 0 (n) = H262.2.2.1 74 0 (n) := by subst hH287; rfl
        have g308 : H287.2.2.1 72 0 (n) = H262.2.2.1 72 0 (n) := by subst hH287; rfl
        have g309 : H287.2.2.1 79 0 (n) = H262.2.2.1 79 0 (n) := by subst hH287; rfl
        have g310 : H287.2.2.1 80 0 (n) = H262.2.2.1 80 0 (n) := by subst hH287; rfl
        have g311 : H287.2.2.1 56 0 (H0.2.2.1 72 0 (n)) = H262.2.2.1 56 0 (H0.2.2.1 72 0 (n)) := by subst hH287; rfl
        have g312 : H287.2.2.1 83 0 (n) = H262.2.2.1 83 0 (n) := by subst hH287; rfl
        clear hH287
        have f313 : 0 ≤ H287.2.2.1 74 0 (n) ∧ H287.2.2.1 74 0 (n) ≤ 2 := hT288.1 74 (n)
        refine J.run 5 rfl (show 0 ≤ n ∧ n < 16 from ⟨by omega, by omega⟩) ?_
        try dsimp only
        refine J.icmp rfl rfl rfl ⟨(show -2147483648 ≤ H287.2.2.1 74 0 (n) ∧ H287.2.2.1 74 0 (n) ≤ 2147483647 from ⟨by omega, by omega⟩), (show -2147483648 ≤ (1 : Int) ∧ (1 : Int) ≤ 2147483647 from ⟨by omega, by omega⟩)⟩ (fun hc => ?_) (fun hc => ?_)
        · have c314 : ¬ (H287.2.2.1 74 0 (n) = (1 : Int)) := hc
          clear hc
          refine J.run0 1 rfl ?_
          try dsimp only
          exact J.retb rfl rfl rfl (show (1 : Int) = 0 ∨ (1 : Int) = 1 by omega) ⟨_, rfl, rfl, hT288, hE289, k290, k291, k292, k293, k294, k295, k296, k297, k298, k299, _, rfl, (show (((1 : Int)) = 0 ∨ ((1 : Int)) = 1) ∧ (((1 : Int)) = 1 → 192 * H0.2.2.1 56 0 (H0.2.2.1 72 0 (n)) + 6 * H0.2.2.1 73 0 (n) + 2 * H0.2.2.1 74 0 (n) + H0.2.2.1 115 0 (n) + 1 ≤ 192 * H287.2.2.1 56 0 (H287.2.2.1 72 0 (n)) + 6 * H287.2.2.1 73 0 (n) + 2 * H287.2.2.1 74 0 (n) + H287.2.2.1 115 0 (n)) ∧ H0.1 11 19 0 ≤ H287.1 11 19 0 from (by refine ⟨by omega, fun hv => ?_, by omega⟩; first | omega | (have y1 : 0 ≤ H287.2.2.1 74 0 (n) ∧ H287.2.2.1 74 0 (n) ≤ 2 := hT288.1 74 n; have y2 : 0 ≤ H287.2.2.1 115 0 (n) ∧ H287.2.2.1 115 0 (n) ≤ 1 := hT288.1 115 n; have y3 : 0 ≤ H287.2.2.1 73 0 (n) ∧ H287.2.2.1 73 0 (n) ≤ 31 := hT288.1 73 n; rw [show H287.2.2.1 72 0 (n) = H0.2.2.1 72 0 (n) by omega]; omega)))⟩
        · have c315 : ¬ (¬ (H287.2.2.1 74 0 (n) = (1 : Int))) := hc
          clear hc
          refine J.run 8 rfl ⟨(show 0 ≤ p ∧ p < 6000 from ⟨by omega, by omega⟩), (show 0 ≤ n ∧ n < 16 from ⟨by omega, by omega⟩)⟩ ?_
          try dsimp only
          refine J.gn fun H316 hH316 => ?_
          have hT317 : gT H316 := by rw [hH316]; exact gT.upd hT288 (show -1 ≤ H287.2.2.1 67 0 (p) ∧ H287.2.2.1 67 0 (p) ≤ 299 from ⟨by omega, by omega⟩) (fun z => absurd z (by decide))
          have hE318 : jEx [19, 12, 48, 56, 57] [60, 56, 59, 58, 55, 57, 61, 99, 100, 77, 78, 82, 80, 114, 115, 81, 105, 71, 70, 72, 75, 76, 68, 67, 65, 63, 64, 66, 112, 113, 108, 110, 101, 102, 103, 104, 83, 73, 74, 84, 111, 89, 88, 93, 94, 86, 91, 92, 85, 87, 90] H316 H0 := by rw [hH316]; exact jEx.row hE289 (by decide)
          have k319 : gP H316 := by rw [hH316]; exact k290
          have k320 : gX H316 := by rw [hH316]; exact k291
          have k321 : gL H316 := by rw [hH316]; exact k292
          have k322 : gZ H316 := by rw [hH316]; exact k293
          have k323 : gQ H316 := by rw [hH316]; exact k294
          have k324 : gB H316 := by rw [hH316]; exact k295
          have k325 : gK H316 := by rw [hH316]; exact k296
          have k326 : gN H316 := by rw [hH316]; exact k297
          have k327 : gW H316 (H316.1 11 19 0) := by rw [hH316]; exact k298
          have k328 : gU H316 u := by rw [hH316]; exact k299
          have g329 : H316.2.2.1 75 0 (n) = H287.2.2.1 67 0 (p) := by subst hH316; exact if_pos rfl
          have g330 : H316.1 11 12 0 = H287.1 11 12 0 := by subst hH316; rfl
          have g331 : H316.1 11 19 0 = H287.1 11 19 0 := by subst hH316; rfl
          have g332 : H316.2.2.1 78 0 (n) = H287.2.2.1 78 0 (n) := by subst hH316; rfl
          have g333 : H316.2.2.1 77 0 (n) = H287.2.2.1 77 0 (n) := by subst hH316; rfl
          have g334 : H316.2.2.1 115 0 (n) = H287.2.2.1 115 0 (n) := by subst hH316; rfl
          have g335 : H316.2.2.1 67 0 (p) = H287.2.2.1 67 0 (p) := by subst hH316; rfl
          have g336 : H316.2.2.1 73 0 (n) = H287.2.2.1 73 0 (n) := by subst hH316; rfl
          have g337 : H316.2.2.1 74 0 (n) = H287.2.2.1 74 0 (n) := by subst hH316; rfl
          have g338 : H316.2.2.1 72 0 (n) = H287.2.2.1 72 0 (n) := by subst hH316; rfl
          have g339 : H316.2.2.1 79 0 (n) = H287.2.2.1 79 0 (n) := by subst hH316; rfl
          have g340 : H316.2.2.1 80 0 (n) = H287.2.2.1 80 0 (n) := by subst hH316; rfl
          have g341 : H316.2.2.1 56 0 (H0.2.2.1 72 0 (n)) = H287.2.2.1 56 0 (H0.2.2.1 72 0 (n)) := by subst hH316; rfl
          have g342 : H316.2.2.1 83 0 (n) = H287.2.2.1 83 0 (n) := by subst hH316; rfl
          clear hH316
          refine J.run 5 rfl (show 0 ≤ n ∧ n < 16 from ⟨by omega, by omega⟩) ?_
          try dsimp only
          refine J.gn fun H343 hH343 => ?_
          have hT344 : gT H343 := by rw [hH343]; exact gT.upd hT317 (show -1 ≤ r ∧ r ≤ 31 from ⟨by omega, by omega⟩) (fun z => absurd z (by decide))
          have hE345 : jEx [19, 12, 48, 56, 57] [60, 56, 59, 58, 55, 57, 61, 99, 100, 77, 78, 82, 80, 114, 115, 81, 105, 71, 70, 72, 75, 76, 68, 67, 65, 63, 64, 66, 112, 113, 108, 110, 101, 102, 103, 104, 83, 73, 74, 84, 111, 89, 88, 93, 94, 86, 91, 92, 85, 87, 90] H343 H0 := by rw [hH343]; exact jEx.row hE318 (by decide)
          have k346 : gP H343 := by rw [hH343]; exact k319
          have k347 : gX H343 := by rw [hH343]; exact k320
          have k348 : gL H343 := by rw [hH343]; exact k321
          have k349 : gZ H343 := by rw [hH343]; exact k322
          have k350 : gQ H343 := by rw [hH343]; exact k323
          have k351 : gB H343 := by rw [hH343]; exact k324
          have k352 : gK H343 := by rw [hH343]; exact k325
          have k353 : gN H343 := by rw [hH343]; exact k326
          have k354 : gW H343 (H343.1 11 19 0) := by rw [hH343]; exact k327
          have k355 : gU H343 u := by rw [hH343]; exact k328
          have g356 : H343.2.2.1 76 0 (n) = r := by subst hH343; exact if_pos rfl
          have g357 : H343.1 11 12 0 = H316.1 11 12 0 := by subst hH343; rfl
          have g358 : H343.1 11 19 0 = H316.1 11 19 0 := by subst hH343; rfl
          have g359 : H343.2.2.1 75 0 (n) = H316.2.2.1 75 0 (n) := by subst hH343; rfl
          have g360 : H343.2.2.1 78 0 (n) = H316.2.2.1 78 0 (n) := by subst hH343; rfl
          have g361 : H343.2.2.1 77 0 (n) = H316.2.2.1 77 0 (n) := by subst hH343; rfl
          have g362 : H343.2.2.1 115 0 (n) = H316.2.2.1 115 0 (n) := by subst hH343; rfl
          have g363 : H343.2.2.1 67 0 (p) = H316.2.2.1 67 0 (p) := by subst hH343; rfl
          have g364 : H343.2.2.1 73 0 (n) = H316.2.2.1 73 0 (n) := by subst hH343; rfl
          have g365 : H343.2.2.1 74 0 (n) = H316.2.2.1 74 0 (n) := by subst hH343; rfl
          have g366 : H343.2.2.1 72 0 (n) = H316.2.2.1 72 0 (n) := by subst hH343; rfl
          have g367 : H343.2.2.1 79 0 (n) = H316.2.2.1 79 0 (n) := by subst hH343; rfl
          have g368 : H343.2.2.1 80 0 (n) = H316.2.2.1 80 0 (n) := by subst hH343; rfl
          have g369 : H343.2.2.1 56 0 (H0.2.2.1 72 0 (n)) = H316.2.2.1 56 0 (H0.2.2.1 72 0 (n)) := by subst hH343; rfl
          have g370 : H343.2.2.1 83 0 (n) = H316.2.2.1 83 0 (n) := by subst hH343; rfl
          clear hH343
          refine J.run 5 rfl (show 0 ≤ n ∧ n < 16 from ⟨by omega, by omega⟩) ?_
          try dsimp only
          refine J.gn fun H371 hH371 => ?_
          have hT372 : gT H371 := by rw [hH371]; exact gT.upd hT344 (show 0 ≤ (2 : Int) ∧ (2 : Int) ≤ 2 from ⟨by omega, by omega⟩) (fun z => absurd z (by decide))
          have hE373 : jEx [19, 12, 48, 56, 57] [60, 56, 59, 58, 55, 57, 61, 99, 100, 77, 78, 82, 80, 114, 115, 81, 105, 71, 70, 72, 75, 76, 68, 67, 65, 63, 64, 66, 112, 113, 108, 110, 101, 102, 103, 104, 83, 73, 74, 84, 111, 89, 88, 93, 94, 86, 91, 92, 85, 87, 90] H371 H0 := by rw [hH371]; exact jEx.row hE345 (by decide)
          have k374 : gP H371 := by rw [hH371]; exact k346
          have k375 : gX H371 := by rw [hH371]; exact k347
          have k376 : gL H371 := by rw [hH371]; exact k348
          have k377 : gZ H371 := by rw [hH371]; exact k349
          have k378 : gQ H371 := by rw [hH371]; exact k350
          have k379 : gB H371 := by rw [hH371]; exact k351
          have k380 : gK H371 := by rw [hH371]; exact k352
          have k381 : gN H371 := by rw [hH371]; exact k353
          have k382 : gW H371 (H371.1 11 19 0) := by rw [hH371]; exact gWm.step k354 (by omega)
          have k383 : gU H371 u := by rw [hH371]; exact k355
          have g384 : H371.2.2.1 74 0 (n) = (2 : Int) := by subst hH371; exact if_pos rfl
          have g385 : H371.1 11 12 0 = H343.1 11 12 0 := by subst hH371; rfl
          have g386 : H371.1 11 19 0 = H343.1 11 19 0 := by subst hH371; rfl
          have g387 : H371.2.2.1 76 0 (n) = H343.2.2.1 76 0 (n) := by subst hH371; rfl
          have g388 : H371.2.2.1 75 0 (n) = H343.2.2.1 75 0 (n) := by subst hH371; rfl
          have g389 : H371.2.2.1 78 0 (n) = H343.2.2.1 78 0 (n) := by subst hH371; rfl
          have g390 : H371.2.2.1 77 0 (n) = H343.2.2.1 77 0 (n) := by subst hH371; rfl
          have g391 : H371.2.2.1 115 0 (n) = H343.2.2.1 115 0 (n) := by subst hH371; rfl
          have g392 : H371.2.2.1 67 0 (p) = H343.2.2.1 67 0 (p) := by subst hH371; rfl
          have g393 : H371.2.2.1 73 0 (n) = H343.2.2.1 73 0 (n) := by subst hH371; rfl
          have g395 : H371.2.2.1 72 0 (n) = H343.2.2.1 72 0 (n) := by subst hH371; rfl
          have g396 : H371.2.2.1 79 0 (n) = H343.2.2.1 79 0 (n) := by subst hH371; rfl
          have g397 : H371.2.2.1 80 0 (n) = H343.2.2.1 80 0 (n) := by subst hH371; rfl
          have g398 : H371.2.2.1 56 0 (H0.2.2.1 72 0 (n)) = H343.2.2.1 56 0 (H0.2.2.1 72 0 (n)) := by subst hH371; rfl
          have g399 : H371.2.2.1 83 0 (n) = H343.2.2.1 83 0 (n) := by subst hH371; rfl
          clear hH371
          refine J.run 9 rfl (show 0 ≤ p ∧ p < 6000 from ⟨by omega, by omega⟩) ?_
          try dsimp only
          have f400 : 1 ≤ H371.1 11 12 0 ∧ H371.1 11 12 0 ≤ 300 := hT372.2.1 12
          refine J.inv rfl rfl rfl rfl rfl rfl jDr rfl rfl rfl rfl rfl (g_sent (n := n) (kind := (2 : Int)) (r := r) (block := H371.2.2.1 67 0 (p)) (before := (-1 : Int)) (u := u) hT372 k379 k380 k381 k383 (show 0 ≤ (n) ∧ (n) < 16 from ⟨by omega, by omega⟩) (show 0 ≤ ((2 : Int)) ∧ ((2 : Int)) ≤ 2 from ⟨by omega, by omega⟩) (show 0 ≤ (r) ∧ (r) < 32 from ⟨by omega, by omega⟩) (show -1 ≤ (H371.2.2.1 67 0 (p)) ∧ (H371.2.2.1 67 0 (p)) < 300 from ⟨by omega, by omega⟩) (show (H371.2.2.1 67 0 (p)) < H371.1 11 12 0 from by omega) (show -1 ≤ ((-1 : Int)) ∧ ((-1 : Int)) < 32 from ⟨by omega, by omega⟩) k382 (show H371.2.2.1 79 0 ((n)) = 0 → (r) = H371.2.2.1 73 0 ((n)) from by omega) (show H371.2.2.1 79 0 ((n)) = 0 → H371.2.2.1 83 0 ((n)) ≤ 3 * H371.2.2.1 73 0 ((n)) + H371.2.2.1 74 0 ((n)) from by omega) (show H371.2.2.1 80 0 ((n)) = 0 from by omega) (show (n) < (u) from by omega)) ?_
          rintro v w H403 ⟨rfl, hT404, ehE405, k406, k407, k408, k409, p410, p411, x401, rfl, r402⟩
          have hE405 := jEx.trans ehE405 hE373 (by decide) (by decide)
          have p410' : gW H403 (H403.1 11 19 0) := p410
          have p411' : H371.1 11 19 0 ≤ H403.1 11 19 0 := p411
          have r402' : (-1) ≤ x401 ∧ x401 ≤ 5999 := r402
          have pL_sent_0 := p410'
          have pL_sent_1 := p411'
          have k412 : gP H403 := gP.ex k374 ehE405 (by decide)
          have k413 : gX H403 := gX.ex k375 ehE405 (by decide)
          have k414 : gL H403 := gL.ex k376 ehE405 (by decide)
          have k415 : gZ H403 := gZ.ex k377 ehE405 (by decide)
          have k416 : gQ H403 := gQ.ex k378 ehE405 (by decide)
          have g417 : H403.1 11 12 0 = H371.1 11 12 0 := ehE405.v 12 (by decide)
          have g418 : H403.2.2.1 74 0 (n) = H371.2.2.1 74 0 (n) := congrFun (ehE405.r 74 (by decide)) _
          have g419 : H403.2.2.1 76 0 (n) = H371.2.2.1 76 0 (n) := congrFun (ehE405.r 76 (by decide)) _
          have g420 : H403.2.2.1 75 0 (n) = H371.2.2.1 75 0 (n) := congrFun (ehE405.r 75 (by decide)) _
          have g421 : H403.2.2.1 78 0 (n) = H371.2.2.1 78 0 (n) := congrFun (ehE405.r 78 (by decide)) _
          have g422 : H403.2.2.1 77 0 (n) = H371.2.2.1 77 0 (n) := congrFun (ehE405.r 77 (by decide)) _
          have g423 : H403.2.2.1 115 0 (n) = H371.2.2.1 115 0 (n) := congrFun (ehE405.r 115 (by decide)) _
          have g424 : H403.2.2.1 73 0 (n) = H371.2.2.1 73 0 (n) := congrFun (ehE405.r 73 (by decide)) _
          have g425 : H403.2.2.1 72 0 (n) = H371.2.2.1 72 0 (n) := congrFun (ehE405.r 72 (by decide)) _
          have g426 : H403.2.2.1 79 0 (n) = H371.2.2.1 79 0 (n) := congrFun (ehE405.r 79 (by decide)) _
          have g427 : H403.2.2.1 56 0 (H0.2.2.1 72 0 (n)) = H371.2.2.1 56 0 (H0.2.2.1 72 0 (n)) := congrFun (ehE405.r 56 (by decide)) _
          have rL_sent := r402'
          have eL_sent := ehE405
          try dsimp only [Option.toList, List.append, List.cons_append, List.nil_append]
          refine J.run0 2 rfl ?_
          try dsimp only
          exact J.retb rfl rfl rfl (show (1 : Int) = 0 ∨ (1 : Int) = 1 by omega) ⟨_, rfl, rfl, hT404, hE405, k412, k413, k414, k415, k416, k406, k407, k408, p410, k409, _, rfl, (show (((1 : Int)) = 0 ∨ ((1 : Int)) = 1) ∧ (((1 : Int)) = 1 → 192 * H0.2.2.1 56 0 (H0.2.2.1 72 0 (n)) + 6 * H0.2.2.1 73 0 (n) + 2 * H0.2.2.1 74 0 (n) + H0.2.2.1 115 0 (n) + 1 ≤ 192 * H403.2.2.1 56 0 (H403.2.2.1 72 0 (n)) + 6 * H403.2.2.1 73 0 (n) + 2 * H403.2.2.1 74 0 (n) + H403.2.2.1 115 0 (n)) ∧ H0.1 11 19 0 ≤ H403.1 11 19 0 from (by refine ⟨by omega, fun hv => ?_, by omega⟩; first | omega | (have y1 : 0 ≤ H403.2.2.1 74 0 (n) ∧ H403.2.2.1 74 0 (n) ≤ 2 := hT404.1 74 n; have y2 : 0 ≤ H403.2.2.1 115 0 (n) ∧ H403.2.2.1 115 0 (n) ≤ 1 := hT404.1 115 n; have y3 : 0 ≤ H403.2.2.1 73 0 (n) ∧ H403.2.2.1 73 0 (n) ≤ 31 := hT404.1 73 n; rw [show H403.2.2.1 72 0 (n) = H0.2.2.1 72 0 (n) by omega]; omega)))⟩
      · skip
        refine J.run 5 rfl (show ((1 : Int) = 0 ∨ (1 : Int) = 1) ∧ 0 ≤ n ∧ n < 16 from ⟨by omega, by omega, by omega⟩) ?_
        try dsimp only
        refine J.gn fun H428 hH428 => ?_
        have hT429 : gT H428 := by rw [hH428]; exact gT.upd hT (show 0 ≤ (1 : Int) ∧ (1 : Int) ≤ 1 from ⟨by omega, by omega⟩) (fun z => absurd z (by decide))
        have hE430 : jEx [19, 12, 48, 56, 57] [60, 56, 59, 58, 55, 57, 61, 99, 100, 77, 78, 82, 80, 114, 115, 81, 105, 71, 70, 72, 75, 76, 68, 67, 65, 63, 64, 66, 112, 113, 108, 110, 101, 102, 103, 104, 83, 73, 74, 84, 111, 89, 88, 93, 94, 86, 91, 92, 85, 87, 90] H428 H0 := by rw [hH428]; exact jEx.row hE (by decide)
        have k431 : gP H428 := by rw [hH428]; exact k0gP
        have k432 : gX H428 := by rw [hH428]; exact k0gX
        have k433 : gL H428 := by rw [hH428]; exact k0gL
        have k434 : gZ H428 := by rw [hH428]; exact k0gZ
        have k435 : gQ H428 := by rw [hH428]; exact k0gQ
        have k436 : gB H428 := by rw [hH428]; exact k0gB
        have k437 : gK H428 := by rw [hH428]; exact k0gK
        have k438 : gN H428 := by rw [hH428]; exact k0gN
        have k439 : gW H428 (H428.1 11 19 0) := by rw [hH428]; exact k0gW
        have k440 : gU H428 u := by rw [hH428]; exact k0gU
        have g441 : H428.2.2.1 115 0 (n) = (1 : Int) := by subst hH428; exact if_pos rfl
        have g442 : H428.1 11 12 0 = H.1 11 12 0 := by subst hH428; rfl
        have g443 : H428.1 11 19 0 = H.1 11 19 0 := by subst hH428; rfl
        have g444 : H428.2.2.1 67 0 (p) = H.2.2.1 67 0 (p) := by subst hH428; rfl
        have g445 : H428.2.2.1 73 0 (n) = H.2.2.1 73 0 (n) := by subst hH428; rfl
        have g446 : H428.2.2.1 74 0 (n) = H.2.2.1 74 0 (n) := by subst hH428; rfl
        have g448 : H428.2.2.1 72 0 (n) = H.2.2.1 72 0 (n) := by subst hH428; rfl
        have g449 : H428.2.2.1 79 0 (n) = H.2.2.1 79 0 (n) := by subst hH428; rfl
        have g450 : H428.2.2.1 80 0 (n) = H.2.2.1 80 0 (n) := by subst hH428; rfl
        have g451 : H428.2.2.1 56 0 (H0.2.2.1 72 0 (n)) = H.2.2.1 56 0 (H0.2.2.1 72 0 (n)) := by subst hH428; rfl
        have g452 : H428.2.2.1 83 0 (n) = H.2.2.1 83 0 (n) := by subst hH428; rfl
        clear hH428
        have f453 : -1 ≤ H428.2.2.1 67 0 (p) ∧ H428.2.2.1 67 0 (p) ≤ 299 := hT429.1 67 (p)
        have f454 : 1 ≤ H428.1 11 12 0 ∧ H428.1 11 12 0 ≤ 300 := hT429.2.1 12
        have f453b : H428.2.2.1 67 0 (p) < H428.1 11 12 0 := hT429.2.2.1 67 (p) rfl
        refine J.run 8 rfl ⟨(show 0 ≤ p ∧ p < 6000 from ⟨by omega, by omega⟩), (show 0 ≤ n ∧ n < 16 from ⟨by omega, by omega⟩)⟩ ?_
        try dsimp only
        refine J.gn fun H455 hH455 => ?_
        have hT456 : gT H455 := by rw [hH455]; exact gT.upd hT429 (show -1 ≤ H428.2.2.1 67 0 (p) ∧ H428.2.2.1 67 0 (p) ≤ 299 from ⟨by omega, by omega⟩) (fun _ => show H428.2.2.1 67 0 (p) < H428.1 11 12 0 by omega)
        have hE457 : jEx [19, 12, 48, 56, 57] [60, 56, 59, 58, 55, 57, 61, 99, 100, 77, 78, 82, 80, 114, 115, 81, 105, 71, 70, 72, 75, 76, 68, 67, 65, 63, 64, 66, 112, 113, 108, 110, 101, 102, 103, 104, 83, 73, 74, 84, 111, 89, 88, 93, 94, 86, 91, 92, 85, 87, 90] H455 H0 := by rw [hH455]; exact jEx.row hE430 (by decide)
        have k458 : gP H455 := by rw [hH455]; exact k431
        have k459 : gX H455 := by rw [hH455]; exact k432
        have k460 : gL H455 := by rw [hH455]; exact k433
        have k461 : gZ H455 := by rw [hH455]; exact k434
        have k462 : gQ H455 := by rw [hH455]; exact k435
        have k463 : gB H455 := by rw [hH455]; exact k436
        have k464 : gK H455 := by rw [hH455]; exact k437
        have k465 : gN H455 := by rw [hH455]; exact k438
        have k466 : gW H455 (H455.1 11 19 0) := by rw [hH455]; exact k439
        have k467 : gU H455 u := by rw [hH455]; exact k440
        have g468 : H455.2.2.1 77 0 (n) = H428.2.2.1 67 0 (p) := by subst hH455; exact if_pos rfl
        have g469 : H455.1 11 12 0 = H428.1 11 12 0 := by subst hH455; rfl
        have g470 : H455.1 11 19 0 = H428.1 11 19 0 := by subst hH455; rfl
        have g471 : H455.2.2.1 115 0 (n) = H428.2.2.1 115 0 (n) := by subst hH455; rfl
        have g472 : H455.2.2.1 67 0 (p) = H428.2.2.1 67 0 (p) := by subst hH455; rfl
        have g473 : H455.2.2.1 73 0 (n) = H428.2.2.1 73 0 (n) := by subst hH455; rfl
        have g474 : H455.2.2.1 74 0 (n) = H428.2.2.1 74 0 (n) := by subst hH455; rfl
        have g475 : H455.2.2.1 72 0 (n) = H428.2.2.1 72 0 (n) := by subst hH455; rfl
        have g476 : H455.2.2.1 79 0 (n) = H428.2.2.1 79 0 (n) := by subst hH455; rfl
        have g477 : H455.2.2.1 80 0 (n) = H428.2.2.1 80 0 (n) := by subst hH455; rfl
        have g478 : H455.2.2.1 56 0 (H0.2.2.1 72 0 (n)) = H428.2.2.1 56 0 (H0.2.2.1 72 0 (n)) := by subst hH455; rfl
        have g479 : H455.2.2.1 83 0 (n) = H428.2.2.1 83 0 (n) := by subst hH455; rfl
        clear hH455
        refine J.run 5 rfl (show 0 ≤ n ∧ n < 16 from ⟨by omega, by omega⟩) ?_
        try dsimp only
        refine J.gn fun H480 hH480 => ?_
        have hT481 : gT H480 := by rw [hH480]; exact gT.upd hT456 (show -1 ≤ r ∧ r ≤ 31 from ⟨by omega, by omega⟩) (fun z => absurd z (by decide))
        have hE482 : jEx [19, 12, 48, 56, 57] [60, 56, 59, 58, 55, 57, 61, 99, 100, 77, 78, 82, 80, 114, 115, 81, 105, 71, 70, 72, 75, 76, 68, 67, 65, 63, 64, 66, 112, 113, 108, 110, 101, 102, 103, 104, 83, 73, 74, 84, 111, 89, 88, 93, 94, 86, 91, 92, 85, 87, 90] H480 H0 := by rw [hH480]; exact jEx.row hE457 (by decide)
        have k483 : gP H480 := by rw [hH480]; exact k458
        have k484 : gX H480 := by rw [hH480]; exact k459
        have k485 : gL H480 := by rw [hH480]; exact k460
        have k486 : gZ H480 := by rw [hH480]; exact k461
        have k487 : gQ H480 := by rw [hH480]; exact k462
        have k488 : gB H480 := by rw [hH480]; exact k463
        have k489 : gK H480 := by rw [hH480]; exact k464
        have k490 : gN H480 := by rw [hH480]; exact k465
        have k491 : gW H480 (H480.1 11 19 0) := by rw [hH480]; exact k466
        have k492 : gU H480 u := by rw [hH480]; exact k467
        have g493 : H480.2.2.1 78 0 (n) = r := by subst hH480; exact if_pos rfl
        have g494 : H480.1 11 12 0 = H455.1 11 12 0 := by subst hH480; rfl
        have g495 : H480.1 11 19 0 = H455.1 11 19 0 := by subst hH480; rfl
        have g496 : H480.2.2.1 77 0 (n) = H455.2.2.1 77 0 (n) := by subst hH480; rfl
        have g497 : H480.2.2.1 115 0 (n) = H455.2.2.1 115 0 (n) := by subst hH480; rfl
        have g498 : H480.2.2.1 67 0 (p) = H455.2.2.1 67 0 (p) := by subst hH480; rfl
        have g499 : H480.2.2.1 73 0 (n) = H455.2.2.1 73 0 (n) := by subst hH480; rfl
        have g500 : H480.2.2.1 74 0 (n) = H455.2.2.1 74 0 (n) := by subst hH480; rfl
        have g501 : H480.2.2.1 72 0 (n) = H455.2.2.1 72 0 (n) := by subst hH480; rfl
        have g502 : H480.2.2.1 79 0 (n) = H455.2.2.1 79 0 (n) := by subst hH480; rfl
        have g503 : H480.2.2.1 80 0 (n) = H455.2.2.1 80 0 (n) := by subst hH480; rfl
        have g504 : H480.2.2.1 56 0 (H0.2.2.1 72 0 (n)) = H455.2.2.1 56 0 (H0.2.2.1 72 0 (n)) := by subst hH480; rfl
        have g505 : H480.2.2.1 83 0 (n) = H455.2.2.1 83 0 (n) := by subst hH480; rfl
        clear hH480
        have f506 : 0 ≤ H480.2.2.1 74 0 (n) ∧ H480.2.2.1 74 0 (n) ≤ 2 := hT481.1 74 (n)
        refine J.run 5 rfl (show 0 ≤ n ∧ n < 16 from ⟨by omega, by omega⟩) ?_
        try dsimp only
        refine J.icmp rfl rfl rfl ⟨(show -2147483648 ≤ H480.2.2.1 74 0 (n) ∧ H480.2.2.1 74 0 (n) ≤ 2147483647 from ⟨by omega, by omega⟩), (show -2147483648 ≤ (1 : Int) ∧ (1 : Int) ≤ 2147483647 from ⟨by omega, by omega⟩)⟩ (fun hc => ?_) (fun hc => ?_)
        · have c507 : ¬ (H480.2.2.1 74 0 (n) = (1 : Int)) := hc
          clear hc
          refine J.run0 1 rfl ?_
          try dsimp only
          exact J.retb rfl rfl rfl (show (1 : Int) = 0 ∨ (1 : Int) = 1 by omega) ⟨_, rfl, rfl, hT481, hE482, k483, k484, k485, k486, k487, k488, k489, k490, k491, k492, _, rfl, (show (((1 : Int)) = 0 ∨ ((1 : Int)) = 1) ∧ (((1 : Int)) = 1 → 192 * H0.2.2.1 56 0 (H0.2.2.1 72 0 (n)) + 6 * H0.2.2.1 73 0 (n) + 2 * H0.2.2.1 74 0 (n) + H0.2.2.1 115 0 (n) + 1 ≤ 192 * H480.2.2.1 56 0 (H480.2.2.1 72 0 (n)) + 6 * H480.2.2.1 73 0 (n) + 2 * H480.2.2.1 74 0 (n) + H480.2.2.1 115 0 (n)) ∧ H0.1 11 19 0 ≤ H480.1 11 19 0 from (by refine ⟨by omega, fun hv => ?_, by omega⟩; first | omega | (have y1 : 0 ≤ H480.2.2.1 74 0 (n) ∧ H480.2.2.1 74 0 (n) ≤ 2 := hT481.1 74 n; have y2 : 0 ≤ H480.2.2.1 115 0 (n) ∧ H480.2.2.1 115 0 (n) ≤ 1 := hT481.1 115 n; have y3 : 0 ≤ H480.2.2.1 73 0 (n) ∧ H480.2.2.1 73 0 (n) ≤ 31 := hT481.1 73 n; rw [show H480.2.2.1 72 0 (n) = H0.2.2.1 72 0 (n) by omega]; omega)))⟩
        · have c508 : ¬ (¬ (H480.2.2.1 74 0 (n) = (1 : Int))) := hc
          clear hc
          refine J.run 8 rfl ⟨(show 0 ≤ p ∧ p < 6000 from ⟨by omega, by omega⟩), (show 0 ≤ n ∧ n < 16 from ⟨by omega, by omega⟩)⟩ ?_
          try dsimp only
          refine J.gn fun H509 hH509 => ?_
          have hT510 : gT H509 := by rw [hH509]; exact gT.upd hT481 (show -1 ≤ H480.2.2.1 67 0 (p) ∧ H480.2.2.1 67 0 (p) ≤ 299 from ⟨by omega, by omega⟩) (fun z => absurd z (by decide))
          have hE511 : jEx [19, 12, 48, 56, 57] [60, 56, 59, 58, 55, 57, 61, 99, 100, 77, 78, 82, 80, 114, 115, 81, 105, 71, 70, 72, 75, 76, 68, 67, 65, 63, 64, 66, 112, 113, 108, 110, 101, 102, 103, 104, 83, 73, 74, 84, 111, 89, 88, 93, 94, 86, 91, 92, 85, 87, 90] H509 H0 := by rw [hH509]; exact jEx.row hE482 (by decide)
          have k512 : gP H509 := by rw [hH509]; exact k483
          have k513 : gX H509 := by rw [hH509]; exact k484
          have k514 : gL H509 := by rw [hH509]; exact k485
          have k515 : gZ H509 := by rw [hH509]; exact k486
          have k516 : gQ H509 := by rw [hH509]; exact k487
          have k517 : gB H509 := by rw [hH509]; exact k488
          have k518 : gK H509 := by rw [hH509]; exact k489
          have k519 : gN H509 := by rw [hH509]; exact k490
          have k520 : gW H509 (H509.1 11 19 0) := by rw [hH509]; exact k491
          have k521 : gU H509 u := by rw [hH509]; exact k492
          have g522 : H509.2.2.1 75 0 (n) = H480.2.2.1 67 0 (p) := by subst hH509; exact if_pos rfl
          have g523 : H509.1 11 12 0 = H480.1 11 12 0 := by subst hH509; rfl
          have g524 : H509.1 11 19 0 = H480.1 11 19 0 := by subst hH509; rfl
          have g525 : H509.2.2.1 78 0 (n) = H480.2.2.1 78 0 (n) := by subst hH509; rfl
          have g526 : H509.2.2.1 77 0 (n) = H480.2.2.1 77 0 (n) := by subst hH509; rfl
          have g527 : H509.2.2.1 115 0 (n) = H480.2.2.1 115 0 (n) := by subst hH509; rfl
          have g528 : H509.2.2.1 67 0 (p) = H480.2.2.1 67 0 (p) := by subst hH509; rfl
          have g529 : H509.2.2.1 73 0 (n) = H480.2.2.1 73 0 (n) := by subst hH509; rfl
          have g530 : H509.2.2.1 74 0 (n) = H480.2.2.1 74 0 (n) := by subst hH509; rfl
          have g531 : H509.2.2.1 72 0 (n) = H480.2.2.1 72 0 (n) := by subst hH509; rfl
          have g532 : H509.2.2.1 79 0 (n) = H480.2.2.1 79 0 (n) := by subst hH509; rfl
          have g533 : H509.2.2.1 80 0 (n) = H480.2.2.1 80 0 (n) := by subst hH509; rfl
          have g534 : H509.2.2.1 56 0 (H0.2.2.1 72 0 (n)) = H480.2.2.1 56 0 (H0.2.2.1 72 0 (n)) := by subst hH509; rfl
          have g535 : H509.2.2.1 83 0 (n) = H480.2.2.1 83 0 (n) := by subst hH509; rfl
          clear hH509
          refine J.run 5 rfl (show 0 ≤ n ∧ n < 16 from ⟨by omega, by omega⟩) ?_
          try dsimp only
          refine J.gn fun H536 hH536 => ?_
          have hT537 : gT H536 := by rw [hH536]; exact gT.upd hT510 (show -1 ≤ r ∧ r ≤ 31 from ⟨by omega, by omega⟩) (fun z => absurd z (by decide))
          have hE538 : jEx [19, 12, 48, 56, 57] [60, 56, 59, 58, 55, 57, 61, 99, 100, 77, 78, 82, 80, 114, 115, 81, 105, 71, 70, 72, 75, 76, 68, 67, 65, 63, 64, 66, 112, 113, 108, 110, 101, 102, 103, 104, 83, 73, 74, 84, 111, 89, 88, 93, 94, 86, 91, 92, 85, 87, 90] H536 H0 := by rw [hH536]; exact jEx.row hE511 (by decide)
          have k539 : gP H536 := by rw [hH536]; exact k512
          have k540 : gX H536 := by rw [hH536]; exact k513
          have k541 : gL H536 := by rw [hH536]; exact k514
          have k542 : gZ H536 := by rw [hH536]; exact k515
          have k543 : gQ H536 := by rw [hH536]; exact k516
          have k544 : gB H536 := by rw [hH536]; exact k517
          have k545 : gK H536 := by rw [hH536]; exact k518
          have k546 : gN H536 := by rw [hH536]; exact k519
          have k547 : gW H536 (H536.1 11 19 0) := by rw [hH536]; exact k520
          have k548 : gU H536 u := by rw [hH536]; exact k521
          have g549 : H536.2.2.1 76 0 (n) = r := by subst hH536; exact if_pos rfl
          have g550 : H536.1 11 12 0 = H509.1 11 12 0 := by subst hH536; rfl
          have g551 : H536.1 11 19 0 = H509.1 11 19 0 := by subst hH536; rfl
          have g552 : H536.2.2.1 75 0 (n) = H509.2.2.1 75 0 (n) := by subst hH536; rfl
          have g553 : H536.2.2.1 78 0 (n) = H509.2.2.1 78 0 (n) := by subst hH536; rfl
          have g554 : H536.2.2.1 77 0 (n) = H509.2.2.1 77 0 (n) := by subst hH536; rfl
          have g555 : H536.2.2.1 115 0 (n) = H509.2.2.1 115 0 (n) := by subst hH536; rfl
          have g556 : H536.2.2.1 67 0 (p) = H509.2.2.1 67 0 (p) := by subst hH536; rfl
          have g557 : H536.2.2.1 73 0 (n) = H509.2.2.1 73 0 (n) := by subst hH536; rfl
          have g558 : H536.2.2.1 74 0 (n) = H509.2.2.1 74 0 (n) := by subst hH536; rfl
          have g559 : H536.2.2.1 72 0 (n) = H509.2.2.1 72 0 (n) := by subst hH536; rfl
          have g560 : H536.2.2.1 79 0 (n) = H509.2.2.1 79 0 (n) := by subst hH536; rfl
          have g561 : H536.2.2.1 80 0 (n) = H509.2.2.1 80 0 (n) := by subst hH536; rfl
          have g562 : H536.2.2.1 56 0 (H0.2.2.1 72 0 (n)) = H509.2.2.1 56 0 (H0.2.2.1 72 0 (n)) := by subst hH536; rfl
          have g563 : H536.2.2.1 83 0 (n) = H509.2.2.1 83 0 (n) := by subst hH536; rfl
          clear hH536
          refine J.run 5 rfl (show 0 ≤ n ∧ n < 16 from ⟨by omega, by omega⟩) ?_
          try dsimp only
          refine J.gn fun H564 hH564 => ?_
          have hT565 : gT H564 := by rw [hH564]; exact gT.upd hT537 (show 0 ≤ (2 : Int) ∧ (2 : Int) ≤ 2 from ⟨by omega, by omega⟩) (fun z => absurd z (by decide))
          have hE566 : jEx [19, 12, 48, 56, 57] [60, 56, 59, 58, 55, 57, 61, 99, 100, 77, 78, 82, 80, 114, 115, 81, 105, 71, 70, 72, 75, 76, 68, 67, 65, 63, 64, 66, 112, 113, 108, 110, 101, 102, 103, 104, 83, 73, 74, 84, 111, 89, 88, 93, 94, 86, 91, 92, 85, 87, 90] H564 H0 := by rw [hH564]; exact jEx.row hE538 (by decide)
          have k567 : gP H564 := by rw [hH564]; exact k539
          have k568 : gX H564 := by rw [hH564]; exact k540
          have k569 : gL H564 := by rw [hH564]; exact k541
          have k570 : gZ H564 := by rw [hH564]; exact k542
          have k571 : gQ H564 := by rw [hH564]; exact k543
          have k572 : gB H564 := by rw [hH564]; exact k544
          have k573 : gK H564 := by rw [hH564]; exact k545
          have k574 : gN H564 := by rw [hH564]; exact k546
          have k575 : gW H564 (H564.1 11 19 0) := by rw [hH564]; exact gWm.step k547 (by omega)
          have k576 : gU H564 u := by rw [hH564]; exact k548
          have g577 : H564.2.2.1 74 0 (n) = (2 : Int) := by subst hH564; exact if_pos rfl
          have g578 : H564.1 11 12 0 = H536.1 11 12 0 := by subst hH564; rfl
          have g579 : H564.1 11 19 0 = H536.1 11 19 0 := by subst hH564; rfl
          have g580 : H564.2.2.1 76 0 (n) = H536.2.2.1 76 0 (n) := by subst hH564; rfl
          have g581 : H564.2.2.1 75 0 (n) = H536.2.2.1 75 0 (n) := by subst hH564; rfl
          have g582 : H564.2.2.1 78 0 (n) = H536.2.2.1 78 0 (n) := by subst hH564; rfl
          have g583 : H564.2.2.1 77 0 (n) = H536.2.2.1 77 0 (n) := by subst hH564; rfl
          have g584 : H564.2.2.1 115 0 (n) = H536.2.2.1 115 0 (n) := by subst hH564; rfl
          have g585 : H564.2.2.1 67 0 (p) = H536.2.2.1 67 0 (p) := by subst hH564; rfl
          have g586 : H564.2.2.1 73 0 (n) = H536.2.2.1 73 0 (n) := by subst hH564; rfl
          have g588 : H564.2.2.1 72 0 (n) = H536.2.2.1 72 0 (n) := by subst hH564; rfl
          have g589 : H564.2.2.1 79 0 (n) = H536.2.2.1 79 0 (n) := by subst hH564; rfl
          have g590 : H564.2.2.1 80 0 (n) = H536.2.2.1 80 0 (n) := by subst hH564; rfl
          have g591 : H564.2.2.1 56 0 (H0.2.2.1 72 0 (n)) = H536.2.2.1 56 0 (H0.2.2.1 72 0 (n)) := by subst hH564; rfl
          have g592 : H564.2.2.1 83 0 (n) = H536.2.2.1 83 0 (n) := by subst hH564; rfl
          clear hH564
          refine J.run 9 rfl (show 0 ≤ p ∧ p < 6000 from ⟨by omega, by omega⟩) ?_
          try dsimp only
          have f593 : 1 ≤ H564.1 11 12 0 ∧ H564.1 11 12 0 ≤ 300 := hT565.2.1 12
          refine J.inv rfl rfl rfl rfl rfl rfl jDr rfl rfl rfl rfl rfl (g_sent (n := n) (kind := (2 : Int)) (r := r) (block := H564.2.2.1 67 0 (p)) (before := (-1 : Int)) (u := u) hT565 k572 k573 k574 k576 (show 0 ≤ (n) ∧ (n) < 16 from ⟨by omega, by omega⟩) (show 0 ≤ ((2 : Int)) ∧ ((2 : Int)) ≤ 2 from ⟨by omega, by omega⟩) (show 0 ≤ (r) ∧ (r) < 32 from ⟨by omega, by omega⟩) (show -1 ≤ (H564.2.2.1 67 0 (p)) ∧ (H564.2.2.1 67 0 (p)) < 300 from ⟨by omega, by omega⟩) (show (H564.2.2.1 67 0 (p)) < H564.1 11 12 0 from by omega) (show -1 ≤ ((-1 : Int)) ∧ ((-1 : Int)) < 32 from ⟨by omega, by omega⟩) k575 (show H564.2.2.1 79 0 ((n)) = 0 → (r) = H564.2.2.1 73 0 ((n)) from by omega) (show H564.2.2.1 79 0 ((n)) = 0 → H564.2.2.1 83 0 ((n)) ≤ 3 * H564.2.2.1 73 0 ((n)) + H564.2.2.1 74 0 ((n)) from by omega) (show H564.2.2.1 80 0 ((n)) = 0 from by omega) (show (n) < (u) from by omega)) ?_
          rintro v w H596 ⟨rfl, hT597, ehE598, k599, k600, k601, k602, p603, p604, x594, rfl, r595⟩
          have hE598 := jEx.trans ehE598 hE566 (by decide) (by decide)
          have p603' : gW H596 (H596.1 11 19 0) := p603
          have p604' : H564.1 11 19 0 ≤ H596.1 11 19 0 := p604
          have r595' : (-1) ≤ x594 ∧ x594 ≤ 5999 := r595
          have pL_sent_0 := p603'
          have pL_sent_1 := p604'
          have k605 : gP H596 := gP.ex k567 ehE598 (by decide)
          have k606 : gX H596 := gX.ex k568 ehE598 (by decide)
          have k607 : gL H596 := gL.ex k569 ehE598 (by decide)
          have k608 : gZ H596 := gZ.ex k570 ehE598 (by decide)
          have k609 : gQ H596 := gQ.ex k571 ehE598 (by decide)
          have g610 : H596.1 11 12 0 = H564.1 11 12 0 := ehE598.v 12 (by decide)
          have g611 : H596.2.2.1 74 0 (n) = H564.2.2.1 74 0 (n) := congrFun (ehE598.r 74 (by decide)) _
          have g612 : H596.2.2.1 76 0 (n) = H564.2.2.1 76 0 (n) := congrFun (ehE598.r 76 (by decide)) _
          have g613 : H596.2.2.1 75 0 (n) = H564.2.2.1 75 0 (n) := congrFun (ehE598.r 75 (by decide)) _
          have g614 : H596.2.2.1 78 0 (n) = H564.2.2.1 78 0 (n) := congrFun (ehE598.r 78 (by decide)) _
          have g615 : H596.2.2.1 77 0 (n) = H564.2.2.1 77 0 (n) := congrFun (ehE598.r 77 (by decide)) _
          have g616 : H596.2.2.1 115 0 (n) = H564.2.2.1 115 0 (n) := congrFun (ehE598.r 115 (by decide)) _
          have g617 : H596.2.2.1 73 0 (n) = H564.2.2.1 73 0 (n) := congrFun (ehE598.r 73 (by decide)) _
          have g618 : H596.2.2.1 72 0 (n) = H564.2.2.1 72 0 (n) := congrFun (ehE598.r 72 (by decide)) _
          have g619 : H596.2.2.1 79 0 (n) = H564.2.2.1 79 0 (n) := congrFun (ehE598.r 79 (by decide)) _
          have g620 : H596.2.2.1 56 0 (H0.2.2.1 72 0 (n)) = H564.2.2.1 56 0 (H0.2.2.1 72 0 (n)) := congrFun (ehE598.r 56 (by decide)) _
          have rL_sent := r595'
          have eL_sent := ehE598
          try dsimp only [Option.toList, List.append, List.cons_append, List.nil_append]
          refine J.run0 2 rfl ?_
          try dsimp only
          exact J.retb rfl rfl rfl (show (1 : Int) = 0 ∨ (1 : Int) = 1 by omega) ⟨_, rfl, rfl, hT597, hE598, k605, k606, k607, k608, k609, k599, k600, k601, p603, k602, _, rfl, (show (((1 : Int)) = 0 ∨ ((1 : Int)) = 1) ∧ (((1 : Int)) = 1 → 192 * H0.2.2.1 56 0 (H0.2.2.1 72 0 (n)) + 6 * H0.2.2.1 73 0 (n) + 2 * H0.2.2.1 74 0 (n) + H0.2.2.1 115 0 (n) + 1 ≤ 192 * H596.2.2.1 56 0 (H596.2.2.1 72 0 (n)) + 6 * H596.2.2.1 73 0 (n) + 2 * H596.2.2.1 74 0 (n) + H596.2.2.1 115 0 (n)) ∧ H0.1 11 19 0 ≤ H596.1 11 19 0 from (by refine ⟨by omega, fun hv => ?_, by omega⟩; first | omega | (have y1 : 0 ≤ H596.2.2.1 74 0 (n) ∧ H596.2.2.1 74 0 (n) ≤ 2 := hT597.1 74 n; have y2 : 0 ≤ H596.2.2.1 115 0 (n) ∧ H596.2.2.1 115 0 (n) ≤ 1 := hT597.1 115 n; have y3 : 0 ≤ H596.2.2.1 73 0 (n) ∧ H596.2.2.1 73 0 (n) ≤ 31 := hT597.1 73 n; rw [show H596.2.2.1 72 0 (n) = H0.2.2.1 72 0 (n) by omega]; omega)))⟩
      · skip
        refine J.run 5 rfl (show ((1 : Int) = 0 ∨ (1 : Int) = 1) ∧ 0 ≤ n ∧ n < 16 from ⟨by omega, by omega, by omega⟩) ?_
        try dsimp only
        refine J.gn fun H621 hH621 => ?_
        have hT622 : gT H621 := by rw [hH621]; exact gT.upd hT (show 0 ≤ (1 : Int) ∧ (1 : Int) ≤ 1 from ⟨by omega, by omega⟩) (fun z => absurd z (by decide))
        have hE623 : jEx [19, 12, 48, 56, 57] [60, 56, 59, 58, 55, 57, 61, 99, 100, 77, 78, 82, 80, 114, 115, 81, 105, 71, 70, 72, 75, 76, 68, 67, 65, 63, 64, 66, 112, 113, 108, 110, 101, 102, 103, 104, 83, 73, 74, 84, 111, 89, 88, 93, 94, 86, 91, 92, 85, 87, 90] H621 H0 := by rw [hH621]; exact jEx.row hE (by decide)
        have k624 : gP H621 := by rw [hH621]; exact k0gP
        have k625 : gX H621 := by rw [hH621]; exact k0gX
        have k626 : gL H621 := by rw [hH621]; exact k0gL
        have k627 : gZ H621 := by rw [hH621]; exact k0gZ
        have k628 : gQ H621 := by rw [hH621]; exact k0gQ
        have k629 : gB H621 := by rw [hH621]; exact k0gB
        have k630 : gK H621 := by rw [hH621]; exact k0gK
        have k631 : gN H621 := by rw [hH621]; exact k0gN
        have k632 : gW H621 (H621.1 11 19 0) := by rw [hH621]; exact k0gW
        have k633 : gU H621 u := by rw [hH621]; exact k0gU
        have g634 : H621.2.2.1 115 0 (n) = (1 : Int) := by subst hH621; exact if_pos rfl
        have g635 : H621.1 11 12 0 = H.1 11 12 0 := by subst hH621; rfl
        have g636 : H621.1 11 19 0 = H.1 11 19 0 := by subst hH621; rfl
        have g637 : H621.2.2.1 67 0 (p) = H.2.2.1 67 0 (p) := by subst hH621; rfl
        have g638 : H621.2.2.1 73 0 (n) = H.2.2.1 73 0 (n) := by subst hH621; rfl
        have g639 : H621.2.2.1 74 0 (n) = H.2.2.1 74 0 (n) := by subst hH621; rfl
        have g641 : H621.2.2.1 72 0 (n) = H.2.2.1 72 0 (n) := by subst hH621; rfl
        have g642 : H621.2.2.1 79 0 (n) = H.2.2.1 79 0 (n) := by subst hH621; rfl
        have g643 : H621.2.2.1 80 0 (n) = H.2.2.1 80 0 (n) := by subst hH621; rfl
        have g644 : H621.2.2.1 56 0 (H0.2.2.1 72 0 (n)) = H.2.2.1 56 0 (H0.2.2.1 72 0 (n)) := by subst hH621; rfl
        have g645 : H621.2.2.1 83 0 (n) = H.2.2.1 83 0 (n) := by subst hH621; rfl
        clear hH621
        have f646 : -1 ≤ H621.2.2.1 67 0 (p) ∧ H621.2.2.1 67 0 (p) ≤ 299 := hT622.1 67 (p)
        have f647 : 1 ≤ H621.1 11 12 0 ∧ H621.1 11 12 0 ≤ 300 := hT622.2.1 12
        have f646b : H621.2.2.1 67 0 (p) < H621.1 11 12 0 := hT622.2.2.1 67 (p) rfl
        refine J.run 8 rfl ⟨(show 0 ≤ p ∧ p < 6000 from ⟨by omega, by omega⟩), (show 0 ≤ n ∧ n < 16 from ⟨by omega, by omega⟩)⟩ ?_
        try dsimp only
        refine J.gn fun H648 hH648 => ?_
        have hT649 : gT H648 := by rw [hH648]; exact gT.upd hT622 (show -1 ≤ H621.2.2.1 67 0 (p) ∧ H621.2.2.1 67 0 (p) ≤ 299 from ⟨by omega, by omega⟩) (fun _ => show H621.2.2.1 67 0 (p) < H621.1 11 12 0 by omega)
        have hE650 : jEx [19, 12, 48, 56, 57] [60, 56, 59, 58, 55, 57, 61, 99, 100, 77, 78, 82, 80, 114, 115, 81, 105, 71, 70, 72, 75, 76, 68, 67, 65, 63, 64, 66, 112, 113, 108, 110, 101, 102, 103, 104, 83, 73, 74, 84, 111, 89, 88, 93, 94, 86, 91, 92, 85, 87, 90] H648 H0 := by rw [hH648]; exact jEx.row hE623 (by decide)
        have k651 : gP H648 := by rw [hH648]; exact k624
        have k652 : gX H648 := by rw [hH648]; exact k625
        have k653 : gL H648 := by rw [hH648]; exact k626
        have k654 : gZ H648 := by rw [hH648]; exact k627
        have k655 : gQ H648 := by rw [hH648]; exact k628
        have k656 : gB H648 := by rw [hH648]; exact k629
        have k657 : gK H648 := by rw [hH648]; exact k630
        have k658 : gN H648 := by rw [hH648]; exact k631
        have k659 : gW H648 (H648.1 11 19 0) := by rw [hH648]; exact k632
        have k660 : gU H648 u := by rw [hH648]; exact k633
        have g661 : H648.2.2.1 77 0 (n) = H621.2.2.1 67 0 (p) := by subst hH648; exact if_pos rfl
        have g662 : H648.1 11 12 0 = H621.1 11 12 0 := by subst hH648; rfl
        have g663 : H648.1 11 19 0 = H621.1 11 19 0 := by subst hH648; rfl
        have g664 : H648.2.2.1 115 0 (n) = H621.2.2.1 115 0 (n) := by subst hH648; rfl
        have g665 : H648.2.2.1 67 0 (p) = H621.2.2.1 67 0 (p) := by subst hH648; rfl
        have g666 : H648.2.2.1 73 0 (n) = H621.2.2.1 73 0 (n) := by subst hH648; rfl
        have g667 : H648.2.2.1 74 0 (n) = H621.2.2.1 74 0 (n) := by subst hH648; rfl
        have g668 : H648.2.2.1 72 0 (n) = H621.2.2.1 72 0 (n) := by subst hH648; rfl
        have g669 : H648.2.2.1 79 0 (n) = H621.2.2.1 79 0 (n) := by subst hH648; rfl
        have g670 : H648.2.2.1 80 0 (n) = H621.2.2.1 80 0 (n) := by subst hH648; rfl
        have g671 : H648.2.2.1 56 0 (H0.2.2.1 72 0 (n)) = H621.2.2.1 56 0 (H0.2.2.1 72 0 (n)) := by subst hH648; rfl
        have g672 : H648.2.2.1 83 0 (n) = H621.2.2.1 83 0 (n) := by subst hH648; rfl
        clear hH648
        refine J.run 5 rfl (show 0 ≤ n ∧ n < 16 from ⟨by omega, by omega⟩) ?_
        try dsimp only
        refine J.gn fun H673 hH673 => ?_
        have hT674 : gT H673 := by rw [hH673]; exact gT.upd hT649 (show -1 ≤ r ∧ r ≤ 31 from ⟨by omega, by omega⟩) (fun z => absurd z (by decide))
        have hE675 : jEx [19, 12, 48, 56, 57] [60, 56, 59, 58, 55, 57, 61, 99, 100, 77, 78, 82, 80, 114, 115, 81, 105, 71, 70, 72, 75, 76, 68, 67, 65, 63, 64, 66, 112, 113, 108, 110, 101, 102, 103, 104, 83, 73, 74, 84, 111, 89, 88, 93, 94, 86, 91, 92, 85, 87, 90] H673 H0 := by rw [hH673]; exact jEx.row hE650 (by decide)
        have k676 : gP H673 := by rw [hH673]; exact k651
        have k677 : gX H673 := by rw [hH673]; exact k652
        have k678 : gL H673 := by rw [hH673]; exact k653
        have k679 : gZ H673 := by rw [hH673]; exact k654
        have k680 : gQ H673 := by rw [hH673]; exact k655
        have k681 : gB H673 := by rw [hH673]; exact k656
        have k682 : gK H673 := by rw [hH673]; exact k657
        have k683 : gN H673 := by rw [hH673]; exact k658
        have k684 : gW H673 (H673.1 11 19 0) := by rw [hH673]; exact k659
        have k685 : gU H673 u := by rw [hH673]; exact k660
        have g686 : H673.2.2.1 78 0 (n) = r := by subst hH673; exact if_pos rfl
        have g687 : H673.1 11 12 0 = H648.1 11 12 0 := by subst hH673; rfl
        have g688 : H673.1 11 19 0 = H648.1 11 19 0 := by subst hH673; rfl
        have g689 : H673.2.2.1 77 0 (n) = H648.2.2.1 77 0 (n) := by subst hH673; rfl
        have g690 : H673.2.2.1 115 0 (n) = H648.2.2.1 115 0 (n) := by subst hH673; rfl
        have g691 : H673.2.2.1 67 0 (p) = H648.2.2.1 67 0 (p) := by subst hH673; rfl
        have g692 : H673.2.2.1 73 0 (n) = H648.2.2.1 73 0 (n) := by subst hH673; rfl
        have g693 : H673.2.2.1 74 0 (n) = H648.2.2.1 74 0 (n) := by subst hH673; rfl
        have g694 : H673.2.2.1 72 0 (n) = H648.2.2.1 72 0 (n) := by subst hH673; rfl
        have g695 : H673.2.2.1 79 0 (n) = H648.2.2.1 79 0 (n) := by subst hH673; rfl
        have g696 : H673.2.2.1 80 0 (n) = H648.2.2.1 80 0 (n) := by subst hH673; rfl
        have g697 : H673.2.2.1 56 0 (H0.2.2.1 72 0 (n)) = H648.2.2.1 56 0 (H0.2.2.1 72 0 (n)) := by subst hH673; rfl
        have g698 : H673.2.2.1 83 0 (n) = H648.2.2.1 83 0 (n) := by subst hH673; rfl
        clear hH673
        have f699 : 0 ≤ H673.2.2.1 74 0 (n) ∧ H673.2.2.1 74 0 (n) ≤ 2 := hT674.1 74 (n)
        refine J.run 5 rfl (show 0 ≤ n ∧ n < 16 from ⟨by omega, by omega⟩) ?_
        try dsimp only
        refine J.icmp rfl rfl rfl ⟨(show -2147483648 ≤ H673.2.2.1 74 0 (n) ∧ H673.2.2.1 74 0 (n) ≤ 2147483647 from ⟨by omega, by omega⟩), (show -2147483648 ≤ (1 : Int) ∧ (1 : Int) ≤ 2147483647 from ⟨by omega, by omega⟩)⟩ (fun hc => ?_) (fun hc => ?_)
        · have c700 : ¬ (H673.2.2.1 74 0 (n) = (1 : Int)) := hc
          clear hc
          refine J.run0 1 rfl ?_
          try dsimp only
          exact J.retb rfl rfl rfl (show (1 : Int) = 0 ∨ (1 : Int) = 1 by omega) ⟨_, rfl, rfl, hT674, hE675, k676, k677, k678, k679, k680, k681, k682, k683, k684, k685, _, rfl, (show (((1 : Int)) = 0 ∨ ((1 : Int)) = 1) ∧ (((1 : Int)) = 1 → 192 * H0.2.2.1 56 0 (H0.2.2.1 72 0 (n)) + 6 * H0.2.2.1 73 0 (n) + 2 * H0.2.2.1 74 0 (n) + H0.2.2.1 115 0 (n) + 1 ≤ 192 * H673.2.2.1 56 0 (H673.2.2.1 72 0 (n)) + 6 * H673.2.2.1 73 0 (n) + 2 * H673.2.2.1 74 0 (n) + H673.2.2.1 115 0 (n)) ∧ H0.1 11 19 0 ≤ H673.1 11 19 0 from (by refine ⟨by omega, fun hv => ?_, by omega⟩; first | omega | (have y1 : 0 ≤ H673.2.2.1 74 0 (n) ∧ H673.2.2.1 74 0 (n) ≤ 2 := hT674.1 74 n; have y2 : 0 ≤ H673.2.2.1 115 0 (n) ∧ H673.2.2.1 115 0 (n) ≤ 1 := hT674.1 115 n; have y3 : 0 ≤ H673.2.2.1 73 0 (n) ∧ H673.2.2.1 73 0 (n) ≤ 31 := hT674.1 73 n; rw [show H673.2.2.1 72 0 (n) = H0.2.2.1 72 0 (n) by omega]; omega)))⟩
        · have c701 : ¬ (¬ (H673.2.2.1 74 0 (n) = (1 : Int))) := hc
          clear hc
          refine J.run 8 rfl ⟨(show 0 ≤ p ∧ p < 6000 from ⟨by omega, by omega⟩), (show 0 ≤ n ∧ n < 16 from ⟨by omega, by omega⟩)⟩ ?_
          try dsimp only
          refine J.gn fun H702 hH702 => ?_
          have hT703 : gT H702 := by rw [hH702]; exact gT.upd hT674 (show -1 ≤ H673.2.2.1 67 0 (p) ∧ H673.2.2.1 67 0 (p) ≤ 299 from ⟨by omega, by omega⟩) (fun z => absurd z (by decide))
          have hE704 : jEx [19, 12, 48, 56, 57] [60, 56, 59, 58, 55, 57, 61, 99, 100, 77, 78, 82, 80, 114, 115, 81, 105, 71, 70, 72, 75, 76, 68, 67, 65, 63, 64, 66, 112, 113, 108, 110, 101, 102, 103, 104, 83, 73, 74, 84, 111, 89, 88, 93, 94, 86, 91, 92, 85, 87, 90] H702 H0 := by rw [hH702]; exact jEx.row hE675 (by decide)
          have k705 : gP H702 := by rw [hH702]; exact k676
          have k706 : gX H702 := by rw [hH702]; exact k677
          have k707 : gL H702 := by rw [hH702]; exact k678
          have k708 : gZ H702 := by rw [hH702]; exact k679
          have k709 : gQ H702 := by rw [hH702]; exact k680
          have k710 : gB H702 := by rw [hH702]; exact k681
          have k711 : gK H702 := by rw [hH702]; exact k682
          have k712 : gN H702 := by rw [hH702]; exact k683
          have k713 : gW H702 (H702.1 11 19 0) := by rw [hH702]; exact k684
          have k714 : gU H702 u := by rw [hH702]; exact k685
          have g715 : H702.2.2.1 75 0 (n) = H673.2.2.1 67 0 (p) := by subst hH702; exact if_pos rfl
          have g716 : H702.1 11 12 0 = H673.1 11 12 0 := by subst hH702; rfl
          have g717 : H702.1 11 19 0 = H673.1 11 19 0 := by subst hH702; rfl
          have g718 : H702.2.2.1 78 0 (n) = H673.2.2.1 78 0 (n) := by subst hH702; rfl
          have g719 : H702.2.2.1 77 0 (n) = H673.2.2.1 77 0 (n) := by subst hH702; rfl
          have g720 : H702.2.2.1 115 0 (n) = H673.2.2.1 115 0 (n) := by subst hH702; rfl
          have g721 : H702.2.2.1 67 0 (p) = H673.2.2.1 67 0 (p) := by subst hH702; rfl
          have g722 : H702.2.2.1 73 0 (n) = H673.2.2.1 73 0 (n) := by subst hH702; rfl
          have g723 : H702.2.2.1 74 0 (n) = H673.2.2.1 74 0 (n) := by subst hH702; rfl
          have g724 : H702.2.2.1 72 0 (n) = H673.2.2.1 72 0 (n) := by subst hH702; rfl
          have g725 : H702.2.2.1 79 0 (n) = H673.2.2.1 79 0 (n) := by subst hH702; rfl
          have g726 : H702.2.2.1 80 0 (n) = H673.2.2.1 80 0 (n) := by subst hH702; rfl
          have g727 : H702.2.2.1 56 0 (H0.2.2.1 72 0 (n)) = H673.2.2.1 56 0 (H0.2.2.1 72 0 (n)) := by subst hH702; rfl
          have g728 : H702.2.2.1 83 0 (n) = H673.2.2.1 83 0 (n) := by subst hH702; rfl
          clear hH702
          refine J.run 5 rfl (show 0 ≤ n ∧ n < 16 from ⟨by omega, by omega⟩) ?_
          try dsimp only
          refine J.gn fun H729 hH729 => ?_
          have hT730 : gT H729 := by rw [hH729]; exact gT.upd hT703 (show -1 ≤ r ∧ r ≤ 31 from ⟨by omega, by omega⟩) (fun z => absurd z (by decide))
          have hE731 : jEx [19, 12, 48, 56, 57] [60, 56, 59, 58, 55, 57, 61, 99, 100, 77, 78, 82, 80, 114, 115, 81, 105, 71, 70, 72, 75, 76, 68, 67, 65, 63, 64, 66, 112, 113, 108, 110, 101, 102, 103, 104, 83, 73, 74, 84, 111, 89, 88, 93, 94, 86, 91, 92, 85, 87, 90] H729 H0 := by rw [hH729]; exact jEx.row hE704 (by decide)
          have k732 : gP H729 := by rw [hH729]; exact k705
          have k733 : gX H729 := by rw [hH729]; exact k706
          have k734 : gL H729 := by rw [hH729]; exact k707
          have k735 : gZ H729 := by rw [hH729]; exact k708
          have k736 : gQ H729 := by rw [hH729]; exact k709
          have k737 : gB H729 := by rw [hH729]; exact k710
          have k738 : gK H729 := by rw [hH729]; exact k711
          have k739 : gN H729 := by rw [hH729]; exact k712
          have k740 : gW H729 (H729.1 11 19 0) := by rw [hH729]; exact k713
          have k741 : gU H729 u := by rw [hH729]; exact k714
          have g742 : H729.2.2.1 76 0 (n) = r := by subst hH729; exact if_pos rfl
          have g743 : H729.1 11 12 0 = H702.1 11 12 0 := by subst hH729; rfl
          have g744 : H729.1 11 19 0 = H702.1 11 19 0 := by subst hH729; rfl
          have g745 : H729.2.2.1 75 0 (n) = H702.2.2.1 75 0 (n) := by subst hH729; rfl
          have g746 : H729.2.2.1 78 0 (n) = H702.2.2.1 78 0 (n) := by subst hH729; rfl
          have g747 : H729.2.2.1 77 0 (n) = H702.2.2.1 77 0 (n) := by subst hH729; rfl
          have g748 : H729.2.2.1 115 0 (n) = H702.2.2.1 115 0 (n) := by subst hH729; rfl
          have g749 : H729.2.2.1 67 0 (p) = H702.2.2.1 67 0 (p) := by subst hH729; rfl
          have g750 : H729.2.2.1 73 0 (n) = H702.2.2.1 73 0 (n) := by subst hH729; rfl
          have g751 : H729.2.2.1 74 0 (n) = H702.2.2.1 74 0 (n) := by subst hH729; rfl
          have g752 : H729.2.2.1 72 0 (n) = H702.2.2.1 72 0 (n) := by subst hH729; rfl
          have g753 : H729.2.2.1 79 0 (n) = H702.2.2.1 79 0 (n) := by subst hH729; rfl
          have g754 : H729.2.2.1 80 0 (n) = H702.2.2.1 80 0 (n) := by subst hH729; rfl
          have g755 : H729.2.2.1 56 0 (H0.2.2.1 72 0 (n)) = H702.2.2.1 56 0 (H0.2.2.1 72 0 (n)) := by subst hH729; rfl
          have g756 : H729.2.2.1 83 0 (n) = H702.2.2.1 83 0 (n) := by subst hH729; rfl
          clear hH729
          refine J.run 5 rfl (show 0 ≤ n ∧ n < 16 from ⟨by omega, by omega⟩) ?_
          try dsimp only
          refine J.gn fun H757 hH757 => ?_
          have hT758 : gT H757 := by rw [hH757]; exact gT.upd hT730 (show 0 ≤ (2 : Int) ∧ (2 : Int) ≤ 2 from ⟨by omega, by omega⟩) (fun z => absurd z (by decide))
          have hE759 : jEx [19, 12, 48, 56, 57] [60, 56, 59, 58, 55, 57, 61, 99, 100, 77, 78, 82, 80, 114, 115, 81, 105, 71, 70, 72, 75, 76, 68, 67, 65, 63, 64, 66, 112, 113, 108, 110, 101, 102, 103, 104, 83, 73, 74, 84, 111, 89, 88, 93, 94, 86, 91, 92, 85, 87, 90] H757 H0 := by rw [hH757]; exact jEx.row hE731 (by decide)
          have k760 : gP H757 := by rw [hH757]; exact k732
          have k761 : gX H757 := by rw [hH757]; exact k733
          have k762 : gL H757 := by rw [hH757]; exact k734
          have k763 : gZ H757 := by rw [hH757]; exact k735
          have k764 : gQ H757 := by rw [hH757]; exact k736
          have k765 : gB H757 := by rw [hH757]; exact k737
          have k766 : gK H757 := by rw [hH757]; exact k738
          have k767 : gN H757 := by rw [hH757]; exact k739
          have k768 : gW H757 (H757.1 11 19 0) := by rw [hH757]; exact gWm.step k740 (by omega)
          have k769 : gU H757 u := by rw [hH757]; exact k741
          have g770 : H757.2.2.1 74 0 (n) = (2 : Int) := by subst hH757; exact if_pos rfl
          have g771 : H757.1 11 12 0 = H729.1 11 12 0 := by subst hH757; rfl
          have g772 : H757.1 11 19 0 = H729.1 11 19 0 := by subst hH757; rfl
          have g773 : H757.2.2.1 76 0 (n) = H729.2.2.1 76 0 (n) := by subst hH757; rfl
          have g774 : H757.2.2.1 75 0 (n) = H729.2.2.1 75 0 (n) := by subst hH757; rfl
          have g775 : H757.2.2.1 78 0 (n) = H729.2.2.1 78 0 (n) := by subst hH757; rfl
          have g776 : H757.2.2.1 77 0 (n) = H729.2.2.1 77 0 (n) := by subst hH757; rfl
          have g777 : H757.2.2.1 115 0 (n) = H729.2.2.1 115 0 (n) := by subst hH757; rfl
          have g778 : H757.2.2.1 67 0 (p) = H729.2.2.1 67 0 (p) := by subst hH757; rfl
          have g779 : H757.2.2.1 73 0 (n) = H729.2.2.1 73 0 (n) := by subst hH757; rfl
          have g781 : H757.2.2.1 72 0 (n) = H729.2.2.1 72 0 (n) := by subst hH757; rfl
          have g782 : H757.2.2.1 79 0 (n) = H729.2.2.1 79 0 (n) := by subst hH757; rfl
          have g783 : H757.2.2.1 80 0 (n) = H729.2.2.1 80 0 (n) := by subst hH757; rfl
          have g784 : H757.2.2.1 56 0 (H0.2.2.1 72 0 (n)) = H729.2.2.1 56 0 (H0.2.2.1 72 0 (n)) := by subst hH757; rfl
          have g785 : H757.2.2.1 83 0 (n) = H729.2.2.1 83 0 (n) := by subst hH757; rfl
          clear hH757
          refine J.run 9 rfl (show 0 ≤ p ∧ p < 6000 from ⟨by omega, by omega⟩) ?_
          try dsimp only
          have f786 : 1 ≤ H757.1 11 12 0 ∧ H757.1 11 12 0 ≤ 300 := hT758.2.1 12
          refine J.inv rfl rfl rfl rfl rfl rfl jDr rfl rfl rfl rfl rfl (g_sent (n := n) (kind := (2 : Int)) (r := r) (block := H757.2.2.1 67 0 (p)) (before := (-1 : Int)) (u := u) hT758 k765 k766 k767 k769 (show 0 ≤ (n) ∧ (n) < 16 from ⟨by omega, by omega⟩) (show 0 ≤ ((2 : Int)) ∧ ((2 : Int)) ≤ 2 from ⟨by omega, by omega⟩) (show 0 ≤ (r) ∧ (r) < 32 from ⟨by omega, by omega⟩) (show -1 ≤ (H757.2.2.1 67 0 (p)) ∧ (H757.2.2.1 67 0 (p)) < 300 from ⟨by omega, by omega⟩) (show (H757.2.2.1 67 0 (p)) < H757.1 11 12 0 from by omega) (show -1 ≤ ((-1 : Int)) ∧ ((-1 : Int)) < 32 from ⟨by omega, by omega⟩) k768 (show H757.2.2.1 79 0 ((n)) = 0 → (r) = H757.2.2.1 73 0 ((n)) from by omega) (show H757.2.2.1 79 0 ((n)) = 0 → H757.2.2.1 83 0 ((n)) ≤ 3 * H757.2.2.1 73 0 ((n)) + H757.2.2.1 74 0 ((n)) from by omega) (show H757.2.2.1 80 0 ((n)) = 0 from by omega) (show (n) < (u) from by omega)) ?_
          rintro v w H789 ⟨rfl, hT790, ehE791, k792, k793, k794, k795, p796, p797, x787, rfl, r788⟩
          have hE791 := jEx.trans ehE791 hE759 (by decide) (by decide)
          have p796' : gW H789 (H789.1 11 19 0) := p796
          have p797' : H757.1 11 19 0 ≤ H789.1 11 19 0 := p797
          have r788' : (-1) ≤ x787 ∧ x787 ≤ 5999 := r788
          have pL_sent_0 := p796'
          have pL_sent_1 := p797'
          have k798 : gP H789 := gP.ex k760 ehE791 (by decide)
          have k799 : gX H789 := gX.ex k761 ehE791 (by decide)
          have k800 : gL H789 := gL.ex k762 ehE791 (by decide)
          have k801 : gZ H789 := gZ.ex k763 ehE791 (by decide)
          have k802 : gQ H789 := gQ.ex k764 ehE791 (by decide)
          have g803 : H789.1 11 12 0 = H757.1 11 12 0 := ehE791.v 12 (by decide)
          have g804 : H789.2.2.1 74 0 (n) = H757.2.2.1 74 0 (n) := congrFun (ehE791.r 74 (by decide)) _
          have g805 : H789.2.2.1 76 0 (n) = H757.2.2.1 76 0 (n) := congrFun (ehE791.r 76 (by decide)) _
          have g806 : H789.2.2.1 75 0 (n) = H757.2.2.1 75 0 (n) := congrFun (ehE791.r 75 (by decide)) _
          have g807 : H789.2.2.1 78 0 (n) = H757.2.2.1 78 0 (n) := congrFun (ehE791.r 78 (by decide)) _
          have g808 : H789.2.2.1 77 0 (n) = H757.2.2.1 77 0 (n) := congrFun (ehE791.r 77 (by decide)) _
          have g809 : H789.2.2.1 115 0 (n) = H757.2.2.1 115 0 (n) := congrFun (ehE791.r 115 (by decide)) _
          have g810 : H789.2.2.1 73 0 (n) = H757.2.2.1 73 0 (n) := congrFun (ehE791.r 73 (by decide)) _
          have g811 : H789.2.2.1 72 0 (n) = H757.2.2.1 72 0 (n) := congrFun (ehE791.r 72 (by decide)) _
          have g812 : H789.2.2.1 79 0 (n) = H757.2.2.1 79 0 (n) := congrFun (ehE791.r 79 (by decide)) _
          have g813 : H789.2.2.1 56 0 (H0.2.2.1 72 0 (n)) = H757.2.2.1 56 0 (H0.2.2.1 72 0 (n)) := congrFun (ehE791.r 56 (by decide)) _
          have rL_sent := r788'
          have eL_sent := ehE791
          try dsimp only [Option.toList, List.append, List.cons_append, List.nil_append]
          refine J.run0 2 rfl ?_
          try dsimp only
          exact J.retb rfl rfl rfl (show (1 : Int) = 0 ∨ (1 : Int) = 1 by omega) ⟨_, rfl, rfl, hT790, hE791, k798, k799, k800, k801, k802, k792, k793, k794, p796, k795, _, rfl, (show (((1 : Int)) = 0 ∨ ((1 : Int)) = 1) ∧ (((1 : Int)) = 1 → 192 * H0.2.2.1 56 0 (H0.2.2.1 72 0 (n)) + 6 * H0.2.2.1 73 0 (n) + 2 * H0.2.2.1 74 0 (n) + H0.2.2.1 115 0 (n) + 1 ≤ 192 * H789.2.2.1 56 0 (H789.2.2.1 72 0 (n)) + 6 * H789.2.2.1 73 0 (n) + 2 * H789.2.2.1 74 0 (n) + H789.2.2.1 115 0 (n)) ∧ H0.1 11 19 0 ≤ H789.1 11 19 0 from (by refine ⟨by omega, fun hv => ?_, by omega⟩; first | omega | (have y1 : 0 ≤ H789.2.2.1 74 0 (n) ∧ H789.2.2.1 74 0 (n) ≤ 2 := hT790.1 74 n; have y2 : 0 ≤ H789.2.2.1 115 0 (n) ∧ H789.2.2.1 115 0 (n) ≤ 1 := hT790.1 115 n; have y3 : 0 ≤ H789.2.2.1 73 0 (n) ∧ H789.2.2.1 73 0 (n) ≤ 31 := hT790.1 73 n; rw [show H789.2.2.1 72 0 (n) = H0.2.2.1 72 0 (n) by omega]; omega)))⟩
end
