section JM9
variable {d : Nat} {w : jW} {H : jH}
abbrev kB : List Nat := [56, 55, 58, 60, 61, 99, 100, 101, 105, 57]
abbrev fB : List Nat := [12, 56, 57, 4, 48, 45]
theorem rBlk.ex {fs ks : List Nat} {z z' : zT} {H1 : jH} (h : rBlk z H) (hE : jEx fs ks H1 H) (hB : zB z' = zB z) (hk : ∀ k ∈ ks, k ∉ kB) (hf : ∀ f ∈ fs, f ∉ fB) : rBlk z' H1 := by
  obtain ⟨b1, b2, b3, b4, b5, b6, ⟨l1, l2, l3, l4, l5⟩, b8, b9⟩ := h
  have r : ∀ k ∈ kB, H1.2.2.1 k 0 = H.2.2.1 k 0 := fun k h => hE.r k fun z => hk k z h
  have v : ∀ f ∈ fB, H1.1 11 f 0 = H.1 11 f 0 := fun f h => hE.v f fun z => hf f z h
  unfold rBlk rLed
  rw [hB, v 12 (by decide), v 56 (by decide), v 57 (by decide), v 4 (by decide), v 48 (by decide), v 45 (by decide), r 57 (by decide), r 61 (by decide), r 99 (by decide), r 100 (by decide), r 101 (by decide), r 105 (by decide)]
  refine ⟨b1, ?_, b3, b4, b5, b6, ⟨l1, l2, l3, l4, l5⟩, b8, b9⟩
  unfold rB
  rw [r 56 (by decide), r 55 (by decide), r 58 (by decide), r 60 (by decide)]
  exact b2
theorem rMsg.ex {fs ks : List Nat} {z z' : zT} {H1 : jH} (h : rMsg z H) (hE : jEx fs ks H1 H) (hB : z'.1 = z.1 ∧ z'.2.1 = z.2.1) (hk : ∀ k ∈ ks, k ∉ kMs) (hf : 19 ∉ fs ∧ 47 ∉ fs) : rMsg z' H1 := by
  have r : ∀ k ∈ kMs, H1.2.2.1 k 0 = H.2.2.1 k 0 := fun k h => hE.r k fun z => hk k z h
  unfold rMsg zM zk zn zh
  rw [hB.1, hB.2, hE.v 19 hf.1, hE.v 47 hf.2, r 63 (by decide), r 64 (by decide), r 65 (by decide), r 66 (by decide), r 67 (by decide), r 68 (by decide)]
  exact h
theorem rInv.height {z : zT} (hz : zInv z) (hI : rInv z H) {n : Nat} (hn : n < 16) : (0 ≤ H.2.2.1 72 0 n ∧ H.2.2.1 72 0 n < 300) ∧ H.2.2.1 56 0 (H.2.2.1 72 0 n) = (nh z n : Int) - 1 ∧ (1 ≤ nh z n ∧ nh z n ≤ 121) := by
  have h1 := (hI.2.2 n hn).1.1
  have h2 := (hz.2.2.2.1 n hn).1
  have h3 := hz.1
  have e1 : H.2.2.1 72 0 n = (nh z n : Int) - 1 := h1
  have h4 := (hI.2.1.2.1.2 ((nh z n : Int) - 1) (by omega) (by omega)).1
  rw [e1]
  exact ⟨by omega, h4, h2.1, h2.2.2⟩
theorem zh_up (f : Nat → Nat × Nat × Nat) (M a b c : Nat) : (fun i => (va_up f M (a, b, c) i).2.2) = va_up (fun i => (f i).2.2) M c := by
  funext i
  unfold va_up
  split <;> rfl
theorem j_sent_ {z : zT} {n kd : Nat} (hz : zInv z) (hI : rInv z H) (hn : n < 16) :
    J true (d + 3) 137 w (0, jargs 0 [jT, .inl n, .inl kd, .inl (nh z n : Int), .inl 0, .inl (nh z n : Int), .inl (-1)], [], H) (jN fun x w' H' => (∃ y, x = some (.inl y)) ∧ w' = w ∧ rInv (zsend z n kd) H') := by
  have hM := hI.1.1.1
  have hM1 : zM z ≤ 6000 := hz.1.1
  have hN := hI.2.2 n hn
  have hn' : (0 : Int) ≤ n ∧ (n : Int) < 16 := by omega
  have b1 : H.2.2.1 79 0 n = 0 := hN.2.1.1
  refine J.run0 3 rfl ?_
  try dsimp only
  refine J.icmp rfl rfl rfl ⟨⟨show -2147483648 ≤ H.1 11 19 0 by omega, show H.1 11 19 0 ≤ 2147483647 by omega⟩, by decide, by decide⟩ (fun hc => ?_) (fun hc => ?_)
  · have hc' : ¬ H.1 11 19 0 = 6000 := hc
    have hM2 : zM z < 6000 := by omega
    refine J.run 4 rfl hn' ?_
    try dsimp only
    refine J.ifc rfl rfl rfl ⟨show -2147483648 ≤ H.2.2.1 79 0 n by omega, show H.2.2.1 79 0 n ≤ 2147483647 by omega⟩ (fun hc => absurd b1 hc) (fun _ => ?_)
    refine J.run0 6 rfl ?_
    try dsimp only
    have h4 := hz.2.2.2.1 n hn
    refine J.inv rfl rfl rfl rfl rfl rfl jDr rfl rfl rfl rfl rfl (j_isRecorded (v := z.2.2.2 n) hn (by have h5 : nr z n ≤ ns z n + 1 := h4.2.2.2.1; have h6 : ns z n ≤ 2 := h4.2.1; show nr z n ≤ 100; omega) hN) ?_
    rintro x w' H1 ⟨rfl, rfl, hE1, hN1, hO1⟩
    refine J.ifc rfl rfl rfl ⟨by decide, by decide⟩ (fun _ => ?_) (fun hc => absurd (show ¬ (1 : Int) = 0 by decide) hc)
    refine J.run0 7 rfl ?_
    try dsimp only
    have hh := hI.height hz hn
    have hlen := nK_len hz hn
    refine J.inv rfl rfl rfl rfl rfl rfl jDr rfl rfl rfl rfl rfl (j_spoken (v := (nh z n, ns z n, ne z n, nr z n + 1, nK z n)) (M := zM z) hn ?_ hM2 h4.2.2.2.2.1 (show (nK z n).length < 6000 by omega) hN1 (by omega) ⟨hh.2.2.1, show nh z n ≤ 300 by omega⟩ ?_) ?_
    · rw [hE1.v 19 (by decide)]
      exact hM
    · rw [hE1.r 56 (by decide), hE1.r 72 (by decide), hh.2.1]
      show (nh z n : Int) - 1 + 1 = (nh z n : Int)
      omega
    rintro x w' H2 ⟨rfl, rfl, hE2, hV2, hN2, hO2, m1, m2, m3, m4, m5, m6⟩
    have hE : jEx [19] (kMs ++ kK ++ kW) H2 H := hE2.trans (hE1.mono (fs' := [19]) (ks' := kMs ++ kK ++ kW) (by decide) (by decide)) (by decide) (by decide)
    refine J.reti rfl rfl rfl ⟨_, rfl, ⟨_, rfl⟩, rfl, ?_⟩
    have hz0 : ¬ z.1 = 6000 := by have : z.1 < 6000 := hM2; omega
    unfold zsend
    rw [if_neg hz0]
    refine ⟨⟨⟨hV2, by rw [hE.v 47 (by decide)]; exact hI.1.1.2⟩, fun i hi => ?_⟩, hI.2.1.ex hE rfl (by decide) (by decide), fun m hm => ?_⟩
    · have hi' : i < z.1 + 1 := hi
      rw [m1, m2, m3, m4, m5, m6, hE1.r 63 (by decide), hE1.r 64 (by decide), hE1.r 65 (by decide), hE1.r 66 (by decide), hE1.r 67 (by decide), hE1.r 68 (by decide)]
      unfold zk zn zh jup va_up
      try dsimp only
      by_cases hiM : i = z.1
      · subst hiM
        simp only [if_true]
        exact ⟨trivial, trivial, trivial, trivial, trivial, trivial⟩
      · have hz1 : ¬ (i : Int) = (z.1 : Int) := by omega
        simp only [hiM, hz1, if_false]
        exact hI.1.2 i (show i < z.1 by omega)
    · unfold rNod
      have ez : zh ((z.1 + 1, va_up z.2.1 z.1 (kd, n, nh z n), z.2.2.1, va_up z.2.2.2 n (nh z n, ns z n, ne z n, nr z n + 1, nK z n ++ [z.1])) : zT) = va_up (zh z) z.1 (nh z n) := zh_up z.2.1 z.1 kd n (nh z n)
      rw [ez]
      by_cases hmn : m = n
      · subst hmn
        have hat : va_up z.2.2.2 m (nh z m, ns z m, ne z m, nr z m + 1, nK z m ++ [z.1]) m = (nh z m, ns z m, ne z m, nr z m + 1, nK z m ++ [z.1]) := if_pos rfl
        try dsimp only
        rw [hat]
        exact hN2
      · have hne : va_up z.2.2.2 n (nh z n, ns z n, ne z n, nr z n + 1, nK z n ++ [z.1]) m = z.2.2.2 m := if_neg hmn
        try dsimp only
        rw [hne]
        have h5 := hz.2.2.2.1 m hm
        have h6 := nK_len hz hm
        exact (hI.2.2 m hm).oth ((hO2 m hmn hm).trans (hO1 m hmn hm)) (fun i hi => if_neg (by have h7 : i < z.1 := h5.2.2.2.2.1 i hi; omega)) (by show (nK z m).length ≤ 6000; omega)
  · have hc' : H.1 11 19 0 = 6000 := Classical.not_not.mp hc
    have hz0 : z.1 = 6000 := by have : H.1 11 19 0 = (z.1 : Int) := hM; omega
    refine J.run0 1 rfl ?_
    try dsimp only
    refine J.reti rfl rfl rfl ⟨_, rfl, ⟨_, rfl⟩, rfl, ?_⟩
    unfold zsend
    rw [if_pos hz0]
    exact hI
theorem j_sent {z : zT} {n kd : Nat} (hz : zInv z) (hI : rInv z H) (hn : n < 16) :
    J true (d + 4) 136 w (0, jargs 0 [jT, .inl n, .inl kd, .inl 0, .inl (nh z n : Int), .inl (-1)], [], H) (jN fun x w' H' => (∃ y, x = some (.inl y)) ∧ w' = w ∧ rInv (zsend z n kd) H') := by
  have hn' : (0 : Int) ≤ n ∧ (n : Int) < 16 := by omega
  have hh := hI.height hz hn
  refine J.run0 5 rfl ?_
  try dsimp only
  refine J.inv rfl rfl rfl rfl rfl rfl jDr rfl rfl rfl rfl rfl (j_height hn' hh.1) ?_
  rintro x w' H' ⟨rfl, rfl, rfl⟩
  rw [hh.2.1, show (nh z n : Int) - 1 + 1 = (nh z n : Int) by omega]
  refine J.run0 3 rfl ?_
  try dsimp only
  refine J.inv rfl rfl rfl rfl rfl rfl jDr rfl rfl rfl rfl rfl (j_sent_ (kd := kd) hz hI hn) ?_
  rintro x w' H' ⟨⟨y, rfl⟩, rfl, h9⟩
  exact J.reti rfl rfl rfl ⟨_, rfl, ⟨_, rfl⟩, rfl, h9⟩
end JM9
