-- M: X11_isMoved#5
section
variable {d : Nat} {w : jW} 
set_option maxRecDepth 20000 in
set_option maxHeartbeats 8000000 in
theorem g_isMoved_l5 {n u : Int} {H0 : jH} (hp0 : 0 ≤ n ∧ n < 16) (hp1 : H0.2.2.1 79 0 (n) = 0) (hp2 : H0.2.2.1 80 0 (n) = 0) (hp3 : n < u) : ∀ (m : Nat), (∀ (most q : Int) (H : jH) (lv : jL), 40 - q < (m : Int) → (0 ≤ q ∧ q ≤ 32) → (0 ≤ most ∧ most ≤ 31) → (H.2.2.1 73 0 (n) = H0.2.2.1 73 0 (n)) → (H.2.2.1 74 0 (n) = H0.2.2.1 74 0 (n)) → (H.2.2.1 115 0 (n) = H0.2.2.1 115 0 (n)) → (H.2.2.1 72 0 (n) = H0.2.2.1 72 0 (n)) → (H.2.2.1 79 0 (n) = 0) → (H.2.2.1 80 0 (n) = 0) → (H.2.2.1 56 0 (H0.2.2.1 72 0 (n)) = H0.2.2.1 56 0 (H0.2.2.1 72 0 (n))) → (H.2.2.1 83 0 (n) ≤ 3 * H0.2.2.1 73 0 (n) + H0.2.2.1 74 0 (n) + 1) → (H0.1 11 19 0 ≤ H.1 11 19 0) → (0 ≤ H0.2.2.1 73 0 (n) ∧ H0.2.2.1 73 0 (n) ≤ 31) → (0 ≤ H0.2.2.1 74 0 (n) ∧ H0.2.2.1 74 0 (n) ≤ 2) → (0 ≤ H0.2.2.1 115 0 (n) ∧ H0.2.2.1 115 0 (n) ≤ 1) → (0 ≤ H0.2.2.1 72 0 (n) ∧ H0.2.2.1 72 0 (n) ≤ 299) → gT H → jEx [19, 12, 48, 56, 57] [60, 56, 59, 58, 55, 57, 61, 99, 100, 77, 78, 82, 80, 114, 115, 81, 105, 71, 70, 72, 75, 76, 68, 67, 65, 63, 64, 66, 112, 113, 108, 110, 101, 102, 103, 104, 83, 73, 74, 84, 111, 89, 88, 93, 94, 86, 91, 92, 85, 87, 90] H H0 → gP H → gX H → gL H → gZ H → gQ H → gB H → gK H → gN H → gW H (H.1 11 19 0) → gU H u → (lv = [(3, .inl q), (2, .inl most), (0, jT), (1, .inl n)] ∨ (∃ j4 : Int, lv = [(3, .inl q), (4, .inl j4), (2, .inl most), (0, jT), (1, .inl n)])) → J true (d + 304) 143 w (44, lv, [], H) (jN fun v w' H' => w' = w ∧ gT H' ∧ jEx [19, 12, 48, 56, 57] [60, 56, 59, 58, 55, 57, 61, 99, 100, 77, 78, 82, 80, 114, 115, 81, 105, 71, 70, 72, 75, 76, 68, 67, 65, 63, 64, 66, 112, 113, 108, 110, 101, 102, 103, 104, 83, 73, 74, 84, 111, 89, 88, 93, 94, 86, 91, 92, 85, 87, 90] H' H0 ∧ gP H' ∧ gX H' ∧ gL H' ∧ gZ H' ∧ gQ H' ∧ gB H' ∧ gK H' ∧ gN H' ∧ gW H' (H'.1 11 19 0) ∧ gU H' u ∧ ∃ x, v = some (.inl x) ∧ (x = 0 ∨ x = 1) ∧ (x = 1 → 192 * H0.2.2.1 56 0 (H0.2.2.1 72 0 (n)) + 6 * H0.2.2.1 73 0 (n) + 2 * H0.2.2.1 74 0 (n) + H0.2.2.1 115 0 (n) + 1 ≤ 192 * H'.2.2.1 56 0 (H'.2.2.1 72 0 (n)) + 6 * H'.2.2.1 73 0 (n) + 2 * H'.2.2.1 74 0 (n) + H'.2.2.1 115 0 (n)) ∧ H0.1 11 19 0 ≤ H'.1 11 19 0)) := by
  intro m
  induction m with
  | zero =>
    skip
    · intro most q H lv hm hi0 hi1 hi2 hi3 hi4 hi5 hi6 hi7 hi8 hi9 hi10 hi11 hi12 hi13 hi14 hT hE k0gP k0gX k0gL k0gZ k0gQ k0gB k0gK k0gN k0gW k0gU hlv
      exfalso
      omega
  | succ m ih =>
    skip
    · intro most q H lv hm hi0 hi1 hi2 hi3 hi4 hi5 hi6 hi7 hi8 hi9 hi10 hi11 hi12 hi13 hi14 hT hE k0gP k0gX k0gL k0gZ k0gQ k0gB k0gK k0gN k0gW k0gU hlv
      rcases hlv with rfl | ⟨j4, rfl⟩
      · skip
        refine J.run0 2 rfl ?_
        try dsimp only
        refine J.icmp rfl rfl rfl ⟨(show -2147483648 ≤ q ∧ q ≤ 2147483647 from ⟨by omega, by omega⟩), (show -2147483648 ≤ most ∧ most ≤ 2147483647 from ⟨by omega, by omega⟩)⟩ (fun hc => ?_) (fun hc => ?_)
        · have c1740 : most < q := hc
          clear hc
          refine J.run0 2 rfl ?_
          try dsimp only
          exact (g_isMoved_l4 (H0 := H0) (n := n) (u := u)  hp0 hp1 hp2 hp3 ((10000 * ((most) + 1) : Int).toNat + 1)).1 (most) (most) H _ (show 10000 * ((most) + 1) < _ by omega) (show -1 ≤ (most) ∧ (most) ≤ 31 from ⟨by omega, by omega⟩) (show H.2.2.1 73 0 (n) = H0.2.2.1 73 0 (n) from by omega) (show H.2.2.1 74 0 (n) = H0.2.2.1 74 0 (n) from by omega) (show H.2.2.1 115 0 (n) = H0.2.2.1 115 0 (n) from by omega) (show H.2.2.1 72 0 (n) = H0.2.2.1 72 0 (n) from by omega) (show H.2.2.1 79 0 (n) = 0 from by omega) (show H.2.2.1 80 0 (n) = 0 from by omega) (show H.2.2.1 56 0 (H0.2.2.1 72 0 (n)) = H0.2.2.1 56 0 (H0.2.2.1 72 0 (n)) from by omega) (show H.2.2.1 83 0 (n) ≤ 3 * H0.2.2.1 73 0 (n) + H0.2.2.1 74 0 (n) + 1 from by omega) (show H0.1 11 19 0 ≤ H.1 11 19 0 from by omega) (show 0 ≤ H0.2.2.1 73 0 (n) ∧ H0.2.2.1 73 0 (n) ≤ 31 from ⟨by omega, by omega⟩) (show 0 ≤ H0.2.2.1 74 0 (n) ∧ H0.2.2.1 74 0 (n) ≤ 2 from ⟨by omega, by omega⟩) (show 0 ≤ H0.2.2.1 115 0 (n) ∧ H0.2.2.1 115 0 (n) ≤ 1 from ⟨by omega, by omega⟩) (show 0 ≤ H0.2.2.1 72 0 (n) ∧ H0.2.2.1 72 0 (n) ≤ 299 from ⟨by omega, by omega⟩) hT hE k0gP k0gX k0gL k0gZ k0gQ k0gB k0gK k0gN k0gW k0gU (Or.inl rfl)
        · have c1741 : ¬ (most < q) := hc
          clear hc
          refine J.run0 3 rfl ?_
          try dsimp only
          refine J.inv rfl rfl rfl rfl rfl rfl jDr rfl rfl rfl rfl rfl (g_proposal (n := n) (r := q) hT k0gQ (show 0 ≤ (n) ∧ (n) < 16 from ⟨by omega, by omega⟩) (show 0 ≤ (q) ∧ (q) < 32 from ⟨by omega, by omega⟩)) ?_
          rintro v w H ⟨rfl, rfl, x1742, rfl, r1743⟩
          have r1743' : -1 ≤ x1742 ∧ x1742 ≤ 5999 ∧ (0 ≤ x1742 → 0 ≤ H.2.2.1 67 0 (x1742)) := r1743
          have rL_proposal := r1743'
          try dsimp only [Option.toList, List.append, List.cons_append, List.nil_append]
          refine J.run0 2 rfl ?_
          try dsimp only
          refine J.ifc rfl rfl rfl (show -2147483648 ≤ x1742 ∧ x1742 ≤ 2147483647 from ⟨by omega, by omega⟩) (fun hc => ?_) (fun hc => ?_)
          · have c1744 : x1742 < (0 : Int) := hc
            clear hc
            refine J.run0 2 rfl ?_
            try dsimp only
            exact ih (most) (q + 1) H _ (show 40 - (q + 1) < _ by omega) (show 0 ≤ (q + 1) ∧ (q + 1) ≤ 32 from ⟨by omega, by omega⟩) (show 0 ≤ (most) ∧ (most) ≤ 31 from ⟨by omega, by omega⟩) (show H.2.2.1 73 0 (n) = H0.2.2.1 73 0 (n) from by omega) (show H.2.2.1 74 0 (n) = H0.2.2.1 74 0 (n) from by omega) (show H.2.2.1 115 0 (n) = H0.2.2.1 115 0 (n) from by omega) (show H.2.2.1 72 0 (n) = H0.2.2.1 72 0 (n) from by omega) (show H.2.2.1 79 0 (n) = 0 from by omega) (show H.2.2.1 80 0 (n) = 0 from by omega) (show H.2.2.1 56 0 (H0.2.2.1 72 0 (n)) = H0.2.2.1 56 0 (H0.2.2.1 72 0 (n)) from by omega) (show H.2.2.1 83 0 (n) ≤ 3 * H0.2.2.1 73 0 (n) + H0.2.2.1 74 0 (n) + 1 from by omega) (show H0.1 11 19 0 ≤ H.1 11 19 0 from by omega) (show 0 ≤ H0.2.2.1 73 0 (n) ∧ H0.2.2.1 73 0 (n) ≤ 31 from ⟨by omega, by omega⟩) (show 0 ≤ H0.2.2.1 74 0 (n) ∧ H0.2.2.1 74 0 (n) ≤ 2 from ⟨by omega, by omega⟩) (show 0 ≤ H0.2.2.1 115 0 (n) ∧ H0.2.2.1 115 0 (n) ≤ 1 from ⟨by omega, by omega⟩) (show 0 ≤ H0.2.2.1 72 0 (n) ∧ H0.2.2.1 72 0 (n) ≤ 299 from ⟨by omega, by omega⟩) hT hE k0gP k0gX k0gL k0gZ k0gQ k0gB k0gK k0gN k0gW k0gU (Or.inr (⟨_, rfl⟩))
          · have c1745 : ¬ (x1742 < (0 : Int)) := hc
            clear hc
            have f1746 : -1 ≤ H.2.2.1 67 0 (x1742) ∧ H.2.2.1 67 0 (x1742) ≤ 299 := hT.1 67 (x1742)
            have f1747 : 1 ≤ H.1 11 12 0 ∧ H.1 11 12 0 ≤ 300 := hT.2.1 12
            have f1746b : H.2.2.1 67 0 (x1742) < H.1 11 12 0 := hT.2.2.1 67 (x1742) rfl
            refine J.run 6 rfl (show 0 ≤ x1742 ∧ x1742 < 6000 from ⟨by omega, by omega⟩) ?_
            try dsimp only
            refine J.inv rfl rfl rfl rfl rfl rfl jDr rfl rfl rfl rfl rfl (g_isGood (n := n) (b := H.2.2.1 67 0 (x1742)) hT k0gP k0gX k0gL k0gZ (show 0 ≤ (n) ∧ (n) < 16 from ⟨by omega, by omega⟩) (show 0 ≤ (H.2.2.1 67 0 (x1742)) ∧ (H.2.2.1 67 0 (x1742)) < 300 from ⟨by omega, by omega⟩) (show (H.2.2.1 67 0 (x1742)) < H.1 11 12 0 from by omega)) ?_
            rintro v w H1750 ⟨rfl, hT1751, ehE1752, k1753, k1754, k1755, k1756, x1748, rfl, r1749⟩
            have hE1752 := jEx.trans ehE1752 hE (by decide) (by decide)
            have r1749' : 0 ≤ x1748 ∧ x1748 ≤ 1 ∧ (x1748 = 1 → H1750.2.2.1 55 0 ((H.2.2.1 67 0 (x1742))) = H1750.2.2.1 72 0 ((n))) := r1749
            have k1757 : gQ H1750 := gQ.ex k0gQ ehE1752 (by decide)
            have k1758 : gB H1750 := gB.ex k0gB ehE1752 (by decide)
            have k1759 : gK H1750 := gK.ex k0gK ehE1752 (by decide)
            have k1760 : gN H1750 := gN.ex k0gN ehE1752 (by decide)
            have k1761 : gW H1750 (H1750.1 11 19 0) := gWm.ex k0gW ehE1752 (by decide)
            have k1762 : gU H1750 u := gU.ex k0gU ehE1752 (by decide)
            have g1763 : H1750.1 11 12 0 = H.1 11 12 0 := ehE1752.v 12 (by decide)
            have g1764 : H1750.1 11 19 0 = H.1 11 19 0 := ehE1752.v 19 (by decide)
            have g1765 : H1750.2.2.1 73 0 (n) = H.2.2.1 73 0 (n) := congrFun (ehE1752.r 73 (by decide)) _
            have g1766 : H1750.2.2.1 74 0 (n) = H.2.2.1 74 0 (n) := congrFun (ehE1752.r 74 (by decide)) _
            have g1767 : H1750.2.2.1 115 0 (n) = H.2.2.1 115 0 (n) := congrFun (ehE1752.r 115 (by decide)) _
            have g1768 : H1750.2.2.1 72 0 (n) = H.2.2.1 72 0 (n) := congrFun (ehE1752.r 72 (by decide)) _
            have g1769 : H1750.2.2.1 79 0 (n) = H.2.2.1 79 0 (n) := congrFun (ehE1752.r 79 (by decide)) _
            have g1770 : H1750.2.2.1 80 0 (n) = H.2.2.1 80 0 (n) := congrFun (ehE1752.r 80 (by decide)) _
            have g1771 : H1750.2.2.1 56 0 (H0.2.2.1 72 0 (n)) = H.2.2.1 56 0 (H0.2.2.1 72 0 (n)) := congrFun (ehE1752.r 56 (by decide)) _
            have g1772 : H1750.2.2.1 83 0 (n) = H.2.2.1 83 0 (n) := congrFun (ehE1752.r 83 (by decide)) _
            have g1773 : H1750.2.2.1 67 0 (x1742) = H.2.2.1 67 0 (x1742) := congrFun (ehE1752.r 67 (by decide)) _
            have rL_isGood := r1749'
            have eL_isGood := ehE1752
            try dsimp only [Option.toList, List.append, List.cons_append, List.nil_append]
            refine J.ifc rfl rfl rfl (show -2147483648 ≤ x1748 ∧ x1748 ≤ 2147483647 from ⟨by omega, by omega⟩) (fun hc => ?_) (fun hc => ?_)
            · have c1774 : x1748 = (0 : Int) := hc
              clear hc
              refine J.run0 2 rfl ?_
              try dsimp only
              exact ih (most) (q + 1) H1750 _ (show 40 - (q + 1) < _ by omega) (show 0 ≤ (q + 1) ∧ (q + 1) ≤ 32 from ⟨by omega, by omega⟩) (show 0 ≤ (most) ∧ (most) ≤ 31 from ⟨by omega, by omega⟩) (show H1750.2.2.1 73 0 (n) = H0.2.2.1 73 0 (n) from by omega) (show H1750.2.2.1 74 0 (n) = H0.2.2.1 74 0 (n) from by omega) (show H1750.2.2.1 115 0 (n) = H0.2.2.1 115 0 (n) from by omega) (show H1750.2.2.1 72 0 (n) = H0.2.2.1 72 0 (n) from by omega) (show H1750.2.2.1 79 0 (n) = 0 from by omega) (show H1750.2.2.1 80 0 (n) = 0 from by omega) (show H1750.2.2.1 56 0 (H0.2.2.1 72 0 (n)) = H0.2.2.1 56 0 (H0.2.2.1 72 0 (n)) from by omega) (show H1750.2.2.1 83 0 (n) ≤ 3 * H0.2.2.1 73 0 (n) + H0.2.2.1 74 0 (n) + 1 from by omega) (show H0.1 11 19 0 ≤ H1750.1 11 19 0 from by omega) (show 0 ≤ H0.2.2.1 73 0 (n) ∧ H0.2.2.1 73 0 (n) ≤ 31 from ⟨by omega, by omega⟩) (show 0 ≤ H0.2.2.1 74 0 (n) ∧ H0.2.2.1 74 0 (n) ≤ 2 from ⟨by omega, by omega⟩) (show 0 ≤ H0.2.2.1 115 0 (n) ∧ H0.2.2.1 115 0 (n) ≤ 1 from ⟨by omega, by omega⟩) (show 0 ≤ H0.2.2.1 72 0 (n) ∧ H0.2.2.1 72 0 (n) ≤ 299 from ⟨by omega, by omega⟩) hT1751 hE1752 k1753 k1754 k1755 k1756 k1757 k1758 k1759 k1760 k1761 k1762 (Or.inr (⟨_, rfl⟩))
            · have c1775 : ¬ (x1748 = (0 : Int)) := hc
              clear hc
              refine J.run 8 rfl (show 0 ≤ x1742 ∧ x1742 < 6000 from ⟨by omega, by omega⟩) ?_
              try dsimp only
              refine J.inv rfl rfl rfl rfl rfl rfl jDr rfl rfl rfl rfl rfl (g_isMost (n := n) (kind := (2 : Int)) (r := q) (b := H1750.2.2.1 67 0 (x1742)) hT1751  (show 0 ≤ (n) ∧ (n) < 16 from ⟨by omega, by omega⟩) (show -2147483648 ≤ ((2 : Int)) ∧ ((2 : Int)) ≤ 2147483647 from ⟨by omega, by omega⟩) (show -2147483648 ≤ (q) ∧ (q) ≤ 2147483647 from ⟨by omega, by omega⟩) (show -2147483648 ≤ (H1750.2.2.1 67 0 (x1742)) ∧ (H1750.2.2.1 67 0 (x1742)) ≤ 2147483647 from ⟨by omega, by omega⟩)) ?_
              rintro v w H1778 ⟨rfl, hT1779, ehE1780, x1776, rfl, r1777⟩
              have hE1780 := jEx.trans ehE1780 hE1752 (by decide) (by decide)
              have r1777' : 0 ≤ x1776 ∧ x1776 ≤ 1 := r1777
              have k1781 : gP H1778 := gP.ex k1753 ehE1780 (by decide)
              have k1782 : gX H1778 := gX.ex k1754 ehE1780 (by decide)
              have k1783 : gL H1778 := gL.ex k1755 ehE1780 (by decide)
              have k1784 : gZ H1778 := gZ.ex k1756 ehE1780 (by decide)
              have k1785 : gQ H1778 := gQ.ex k1757 ehE1780 (by decide)
              have k1786 : gB H1778 := gB.ex k1758 ehE1780 (by decide)
              have k1787 : gK H1778 := gK.ex k1759 ehE1780 (by decide)
              have k1788 : gN H1778 := gN.ex k1760 ehE1780 (by decide)
              have k1789 : gW H1778 (H1778.1 11 19 0) := gWm.ex k1761 ehE1780 (by decide)
              have k1790 : gU H1778 u := gU.ex k1762 ehE1780 (by decide)
              have g1791 : H1778.1 11 12 0 = H1750.1 11 12 0 := ehE1780.v 12 (by decide)
              have g1792 : H1778.1 11 19 0 = H1750.1 11 19 0 := ehE1780.v 19 (by decide)
              have g1793 : H1778.2.2.1 73 0 (n) = H1750.2.2.1 73 0 (n) := congrFun (ehE1780.r 73 (by decide)) _
              have g1794 : H1778.2.2.1 74 0 (n) = H1750.2.2.1 74 0 (n) := congrFun (ehE1780.r 74 (by decide)) _
              have g1795 : H1778.2.2.1 115 0 (n) = H1750.2.2.1 115 0 (n) := congrFun (ehE1780.r 115 (by decide)) _
              have g1796 : H1778.2.2.1 72 0 (n) = H1750.2.2.1 72 0 (n) := congrFun (ehE1780.r 72 (by decide)) _
              have g1797 : H1778.2.2.1 79 0 (n) = H1750.2.2.1 79 0 (n) := congrFun (ehE1780.r 79 (by decide)) _
              have g1798 : H1778.2.2.1 80 0 (n) = H1750.2.2.1 80 0 (n) := congrFun (ehE1780.r 80 (by decide)) _
              have g1799 : H1778.2.2.1 56 0 (H0.2.2.1 72 0 (n)) = H1750.2.2.1 56 0 (H0.2.2.1 72 0 (n)) := congrFun (ehE1780.r 56 (by decide)) _
              have g1800 : H1778.2.2.1 83 0 (n) = H1750.2.2.1 83 0 (n) := congrFun (ehE1780.r 83 (by decide)) _
              have g1801 : H1778.2.2.1 67 0 (x1742) = H1750.2.2.1 67 0 (x1742) := congrFun (ehE1780.r 67 (by decide)) _
              have g1802 : H1778.2.2.1 55 0 (H.2.2.1 67 0 (x1742)) = H1750.2.2.1 55 0 (H.2.2.1 67 0 (x1742)) := congrFun (ehE1780.r 55 (by decide)) _
              have rL_isMost := r1777'
              have eL_isMost := ehE1780
              try dsimp only [Option.toList, List.append, List.cons_append, List.nil_append]
              refine J.ifc rfl rfl rfl (show -2147483648 ≤ x1776 ∧ x1776 ≤ 2147483647 from ⟨by omega, by omega⟩) (fun hc => ?_) (fun hc => ?_)
              · have c1803 : ¬ (x1776 = (0 : Int)) := hc
                clear hc
                have z1 := rL_isGood.2.2 (by omega)
                rw [← eL_isMost.r 55 (by decide), ← eL_isMost.r 72 (by decide), ← eL_isGood.r 67 (by decide), ← eL_isMost.r 67 (by decide)] at z1
                have y4 : 0 ≤ H1778.2.2.1 72 0 (n) ∧ H1778.2.2.1 72 0 (n) ≤ 299 := hT1779.1 72 n
                have z0 : ¬ H1778.2.2.1 67 0 (x1742) = 0 := fun z => by rw [z] at z1; have := k1781.1; omega
                have z2 := k1781.2.2.2.1 (H1778.2.2.1 67 0 (x1742)) (by omega) (by omega)
                rw [z1, show H1778.2.2.1 72 0 (n) = H0.2.2.1 72 0 (n) by omega] at z2
                refine J.run 6 rfl (show 0 ≤ x1742 ∧ x1742 < 6000 from ⟨by omega, by omega⟩) ?_
                try dsimp only
                have f1804 : 1 ≤ H1778.1 11 12 0 ∧ H1778.1 11 12 0 ≤ 300 := hT1779.2.1 12
                refine J.inv rfl rfl rfl rfl rfl rfl jDr rfl rfl rfl rfl rfl (g_decided (n := n) (b := H1778.2.2.1 67 0 (x1742)) (u := u) hT1779 k1781 k1782 k1783 k1784 k1785 k1786 k1787 k1788 k1789 k1790 (show 0 ≤ (n) ∧ (n) < 16 from ⟨by omega, by omega⟩) (show 0 ≤ (H1778.2.2.1 67 0 (x1742)) ∧ (H1778.2.2.1 67 0 (x1742)) < 300 from ⟨by omega, by omega⟩) (show (H1778.2.2.1 67 0 (x1742)) < H1778.1 11 12 0 from by omega) (show H1778.2.2.1 80 0 ((n)) = 0 from by omega) (show (n) < (u) from by omega)) ?_
                rintro v w H1807 ⟨rfl, hT1808, ehE1809, k1810, k1811, k1812, k1813, k1814, k1815, k1816, k1817, k1818, k1819, p1820, p1821, rfl⟩
                have hE1809 := jEx.trans ehE1809 hE1780 (by decide) (by decide)
                have p1820' : 192 * H1778.2.2.1 56 0 ((H1778.2.2.1 67 0 (x1742))) ≤ 192 * H1807.2.2.1 56 0 (H1807.2.2.1 72 0 ((n))) + 6 * H1807.2.2.1 73 0 ((n)) + 2 * H1807.2.2.1 74 0 ((n)) + H1807.2.2.1 115 0 ((n)) := p1820
                have p1821' : H1778.1 11 19 0 ≤ H1807.1 11 19 0 := p1821
                have pL_decided_0 := p1820'
                have pL_decided_1 := p1821'
                have g1822 : H1807.2.2.1 79 0 (n) = H1778.2.2.1 79 0 (n) := congrFun (ehE1809.r 79 (by decide)) _
                have eL_decided := ehE1809
                try dsimp only [Option.toList, List.append, List.cons_append, List.nil_append]
                refine J.run0 1 rfl ?_
                try dsimp only
                exact J.retb rfl rfl rfl (show (1 : Int) = 0 ∨ (1 : Int) = 1 by omega) ⟨_, rfl, rfl, hT1808, hE1809, k1810, k1811, k1812, k1813, k1814, k1815, k1816, k1817, k1818, k1819, _, rfl, (show (((1 : Int)) = 0 ∨ ((1 : Int)) = 1) ∧ (((1 : Int)) = 1 → 192 * H0.2.2.1 56 0 (H0.2.2.1 72 0 (n)) + 6 * H0.2.2.1 73 0 (n) + 2 * H0.2.2.1 74 0 (n) + H0.2.2.1 115 0 (n) + 1 ≤ 192 * H1807.2.2.1 56 0 (H1807.2.2.1 72 0 (n)) + 6 * H1807.2.2.1 73 0 (n) + 2 * H1807.2.2.1 74 0 (n) + H1807.2.2.1 115 0 (n)) ∧ H0.1 11 19 0 ≤ H1807.1 11 19 0 from (by refine ⟨by omega, fun hv => ?_, by omega⟩; first | omega | (have y1 : 0 ≤ H1807.2.2.1 74 0 (n) ∧ H1807.2.2.1 74 0 (n) ≤ 2 := hT1808.1 74 n; have y2 : 0 ≤ H1807.2.2.1 115 0 (n) ∧ H1807.2.2.1 115 0 (n) ≤ 1 := hT1808.1 115 n; have y3 : 0 ≤ H1807.2.2.1 73 0 (n) ∧ H1807.2.2.1 73 0 (n) ≤ 31 := hT1808.1 73 n; rw [show H1807.2.2.1 72 0 (n) = H0.2.2.1 72 0 (n) by omega]; omega)))⟩
              · have c1823 : ¬ (¬ (x1776 = (0 : Int))) := hc
                clear hc
                refine J.run0 3 rfl ?_
                try dsimp only
                exact ih (most) (q + 1) H1778 _ (show 40 - (q + 1) < _ by omega) (show 0 ≤ (q + 1) ∧ (q + 1) ≤ 32 from ⟨by omega, by omega⟩) (show 0 ≤ (most) ∧ (most) ≤ 31 from ⟨by omega, by omega⟩) (show H1778.2.2.1 73 0 (n) = H0.2.2.1 73 0 (n) from by omega) (show H1778.2.2.1 74 0 (n) = H0.2.2.1 74 0 (n) from by omega) (show H1778.2.2.1 115 0 (n) = H0.2.2.1 115 0 (n) from by omega) (show H1778.2.2.1 72 0 (n) = H0.2.2.1 72 0 (n) from by omega) (show H1778.2.2.1 79 0 (n) = 0 from by omega) (show H1778.2.2.1 80 0 (n) = 0 from by omega) (show H1778.2.2.1 56 0 (H0.2.2.1 72 0 (n)) = H0.2.2.1 56 0 (H0.2.2.1 72 0 (n)) from by omega) (show H1778.2.2.1 83 0 (n) ≤ 3 * H0.2.2.1 73 0 (n) + H0.2.2.1 74 0 (n) + 1 from by omega) (show H0.1 11 19 0 ≤ H1778.1 11 19 0 from by omega) (show 0 ≤ H0.2.2.1 73 0 (n) ∧ H0.2.2.1 73 0 (n) ≤ 31 from ⟨by omega, by omega⟩) (show 0 ≤ H0.2.2.1 74 0 (n) ∧ H0.2.2.1 74 0 (n) ≤ 2 from ⟨by omega, by omega⟩) (show 0 ≤ H0.2.2.1 115 0 (n) ∧ H0.2.2.1 115 0 (n) ≤ 1 from ⟨by omega, by omega⟩) (show 0 ≤ H0.2.2.1 72 0 (n) ∧ H0.2.2.1 72 0 (n) ≤ 299 from ⟨by omega, by omega⟩) hT1779 hE1780 k1781 k1782 k1783 k1784 k1785 k1786 k1787 k1788 k1789 k1790 (Or.inr (⟨_, rfl⟩))
      · skip
        refine J.run0 2 rfl ?_
        try dsimp only
        refine J.icmp rfl rfl rfl ⟨(show -2147483648 ≤ q ∧ q ≤ 2147483647 from ⟨by omega, by omega⟩), (show -2147483648 ≤ most ∧ most ≤ 2147483647 from ⟨by omega, by omega⟩)⟩ (fun hc => ?_) (fun hc => ?_)
        · have c1824 : most < q := hc
          clear hc
          refine J.run0 2 rfl ?_
          try dsimp only
          exact (g_isMoved_l4 (H0 := H0) (n := n) (u := u)  hp0 hp1 hp2 hp3 ((10000 * ((most) + 1) : Int).toNat + 1)).1 (most) (most) H _ (show 10000 * ((most) + 1) < _ by omega) (show -1 ≤ (most) ∧ (most) ≤ 31 from ⟨by omega, by omega⟩) (show H.2.2.1 73 0 (n) = H0.2.2.1 73 0 (n) from by omega) (show H.2.2.1 74 0 (n) = H0.2.2.1 74 0 (n) from by omega) (show H.2.2.1 115 0 (n) = H0.2.2.1 115 0 (n) from by omega) (show H.2.2.1 72 0 (n) = H0.2.2.1 72 0 (n) from by omega) (show H.2.2.1 79 0 (n) = 0 from by omega) (show H.2.2.1 80 0 (n) = 0 from by omega) (show H.2.2.1 56 0 (H0.2.2.1 72 0 (n)) = H0.2.2.1 56 0 (H0.2.2.1 72 0 (n)) from by omega) (show H.2.2.1 83 0 (n) ≤ 3 * H0.2.2.1 73 0 (n) + H0.2.2.1 74 0 (n) + 1 from by omega) (show H0.1 11 19 0 ≤ H.1 11 19 0 from by omega) (show 0 ≤ H0.2.2.1 73 0 (n) ∧ H0.2.2.1 73 0 (n) ≤ 31 from ⟨by omega, by omega⟩) (show 0 ≤ H0.2.2.1 74 0 (n) ∧ H0.2.2.1 74 0 (n) ≤ 2 from ⟨by omega, by omega⟩) (show 0 ≤ H0.2.2.1 115 0 (n) ∧ H0.2.2.1 115 0 (n) ≤ 1 from ⟨by omega, by omega⟩) (show 0 ≤ H0.2.2.1 72 0 (n) ∧ H0.2.2.1 72 0 (n) ≤ 299 from ⟨by omega, by omega⟩) hT hE k0gP k0gX k0gL k0gZ k0gQ k0gB k0gK k0gN k0gW k0gU (Or.inr (Or.inl ⟨_, rfl⟩))
        · have c1825 : ¬ (most < q) := hc
          clear hc
          refine J.run0 3 rfl ?_
          try dsimp only
          refine J.inv rfl rfl rfl rfl rfl rfl jDr rfl rfl rfl rfl rfl (g_proposal (n := n) (r := q) hT k0gQ (show 0 ≤ (n) ∧ (n) < 16 from ⟨by omega, by omega⟩) (show 0 ≤ (q) ∧ (q) < 32 from ⟨by omega, by omega⟩)) ?_
          rintro v w H ⟨rfl, rfl, x1826, rfl, r1827⟩
          have r1827' : -1 ≤ x1826 ∧ x1826 ≤ 5999 ∧ (0 ≤ x1826 → 0 ≤ H.2.2.1 67 0 (x1826)) := r1827
          have rL_proposal := r1827'
          try dsimp only [Option.toList, List.append, List.cons_append, List.nil_append]
          refine J.run0 2 rfl ?_
          try dsimp only
          refine J.ifc rfl rfl rfl (show -2147483648 ≤ x1826 ∧ x1826 ≤ 2147483647 from ⟨by omega, by omega⟩) (fun hc => ?_) (fun hc => ?_)
          · have c1828 : x1826 < (0 : Int) := hc
            clear hc
            refine J.run0 2 rfl ?_
            try dsimp only
            exact ih (most) (q + 1) H _ (show 40 - (q + 1) < _ by omega) (show 0 ≤ (q + 1) ∧ (q + 1) ≤ 32 from ⟨by omega, by omega⟩) (show 0 ≤ (most) ∧ (most) ≤ 31 from ⟨by omega, by omega⟩) (show H.2.2.1 73 0 (n) = H0.2.2.1 73 0 (n) from by omega) (show H.2.2.1 74 0 (n) = H0.2.2.1 74 0 (n) from by omega) (show H.2.2.1 115 0 (n) = H0.2.2.1 115 0 (n) from by omega) (show H.2.2.1 72 0 (n) = H0.2.2.1 72 0 (n) from by omega) (show H.2.2.1 79 0 (n) = 0 from by omega) (show H.2.2.1 80 0 (n) = 0 from by omega) (show H.2.2.1 56 0 (H0.2.2.1 72 0 (n)) = H0.2.2.1 56 0 (H0.2.2.1 72 0 (n)) from by omega) (show H.2.2.1 83 0 (n) ≤ 3 * H0.2.2.1 73 0 (n) + H0.2.2.1 74 0 (n) + 1 from by omega) (show H0.1 11 19 0 ≤ H.1 11 19 0 from by omega) (show 0 ≤ H0.2.2.1 73 0 (n) ∧ H0.2.2.1 73 0 (n) ≤ 31 from ⟨by omega, by omega⟩) (show 0 ≤ H0.2.2.1 74 0 (n) ∧ H0.2.2.1 74 0 (n) ≤ 2 from ⟨by omega, by omega⟩) (show 0 ≤ H0.2.2.1 115 0 (n) ∧ H0.2.2.1 115 0 (n) ≤ 1 from ⟨by omega, by omega⟩) (show 0 ≤ H0.2.2.1 72 0 (n) ∧ H0.2.2.1 72 0 (n) ≤ 299 from ⟨by omega, by omega⟩) hT hE k0gP k0gX k0gL k0gZ k0gQ k0gB k0gK k0gN k0gW k0gU (Or.inr (⟨_, rfl⟩))
          · have c1829 : ¬ (x1826 < (0 : Int)) := hc
            clear hc
            have f1830 : -1 ≤ H.2.2.1 67 0 (x1826) ∧ H.2.2.1 67 0 (x1826) ≤ 299 := hT.1 67 (x1826)
            have f1831 : 1 ≤ H.1 11 12 0 ∧ H.1 11 12 0 ≤ 300 := hT.2.1 12
            have f1830b : H.2.2.1 67 0 (x1826) < H.1 11 12 0 := hT.2.2.1 67 (x1826) rfl
            refine J.run 6 rfl (show 0 ≤ x1826 ∧ x1826 < 6000 from ⟨by omega, by omega⟩) ?_
            try dsimp only
            refine J.inv rfl rfl rfl rfl rfl rfl jDr rfl rfl rfl rfl rfl (g_isGood (n := n) (b := H.2.2.1 67 0 (x1826)) hT k0gP k0gX k0gL k0gZ (show 0 ≤ (n) ∧ (n) < 16 from ⟨by omega, by omega⟩) (show 0 ≤ (H.2.2.1 67 0 (x1826)) ∧ (H.2.2.1 67 0 (x1826)) < 300 from ⟨by omega, by omega⟩) (show (H.2.2.1 67 0 (x1826)) < H.1 11 12 0 from by omega)) ?_
            rintro v w H1834 ⟨rfl, hT1835, ehE1836, k1837, k1838, k1839, k1840, x1832, rfl, r1833⟩
            have hE1836 := jEx.trans ehE1836 hE (by decide) (by decide)
            have r1833' : 0 ≤ x1832 ∧ x1832 ≤ 1 ∧ (x1832 = 1 → H1834.2.2.1 55 0 ((H.2.2.1 67 0 (x1826))) = H1834.2.2.1 72 0 ((n))) := r1833
            have k1841 : gQ H1834 := gQ.ex k0gQ ehE1836 (by decide)
            have k1842 : gB H1834 := gB.ex k0gB ehE1836 (by decide)
            have k1843 : gK H1834 := gK.ex k0gK ehE1836 (by decide)
            have k1844 : gN H1834 := gN.ex k0gN ehE1836 (by decide)
            have k1845 : gW H1834 (H1834.1 11 19 0) := gWm.ex k0gW ehE1836 (by decide)
            have k1846 : gU H1834 u := gU.ex k0gU ehE1836 (by decide)
            have g1847 : H1834.1 11 12 0 = H.1 11 12 0 := ehE1836.v 12 (by decide)
            have g1848 : H1834.1 11 19 0 = H.1 11 19 0 := ehE1836.v 19 (by decide)
            have g1849 : H1834.2.2.1 73 0 (n) = H.2.2.1 73 0 (n) := congrFun (ehE1836.r 73 (by decide)) _
            have g1850 : H1834.2.2.1 74 0 (n) = H.2.2.1 74 0 (n) := congrFun (ehE1836.r 74 (by decide)) _
            have g1851 : H1834.2.2.1 115 0 (n) = H.2.2.1 115 0 (n) := congrFun (ehE1836.r 115 (by decide)) _
            have g1852 : H1834.2.2.1 72 0 (n) = H.2.2.1 72 0 (n) := congrFun (ehE1836.r 72 (by decide)) _
            have g1853 : H1834.2.2.1 79 0 (n) = H.2.2.1 79 0 (n) := congrFun (ehE1836.r 79 (by decide)) _
            have g1854 : H1834.2.2.1 80 0 (n) = H.2.2.1 80 0 (n) := congrFun (ehE1836.r 80 (by decide)) _
            have g1855 : H1834.2.2.1 56 0 (H0.2.2.1 72 0 (n)) = H.2.2.1 56 0 (H0.2.2.1 72 0 (n)) := congrFun (ehE1836.r 56 (by decide)) _
            have g1856 : H1834.2.2.1 83 0 (n) = H.2.2.1 83 0 (n) := congrFun (ehE1836.r 83 (by decide)) _
            have g1857 : H1834.2.2.1 67 0 (x1826) = H.2.2.1 67 0 (x1826) := congrFun (ehE1836.r 67 (by decide)) _
            have rL_isGood := r1833'
            have eL_isGood := ehE1836
            try dsimp only [Option.toList, List.append, List.cons_append, List.nil_append]
            refine J.ifc rfl rfl rfl (show -2147483648 ≤ x1832 ∧ x1832 ≤ 2147483647 from ⟨by omega, by omega⟩) (fun hc => ?_) (fun hc => ?_)
            · have c1858 : x1832 = (0 : Int) := hc
              clear hc
              refine J.run0 2 rfl ?_
              try dsimp only
              exact ih (most) (q + 1) H1834 _ (show 40 - (q + 1) < _ by omega) (show 0 ≤ (q + 1) ∧ (q + 1) ≤ 32 from ⟨by omega, by omega⟩) (show 0 ≤ (most) ∧ (most) ≤ 31 from ⟨by omega, by omega⟩) (show H1834.2.2.1 73 0 (n) = H0.2.2.1 73 0 (n) from by omega) (show H1834.2.2.1 74 0 (n) = H0.2.2.1 74 0 (n) from by omega) (show H1834.2.2.1 115 0 (n) = H0.2.2.1 115 0 (n) from by omega) (show H1834.2.2.1 72 0 (n) = H0.2.2.1 72 0 (n) from by omega) (show H1834.2.2.1 79 0 (n) = 0 from by omega) (show H1834.2.2.1 80 0 (n) = 0 from by omega) (show H1834.2.2.1 56 0 (H0.2.2.1 72 0 (n)) = H0.2.2.1 56 0 (H0.2.2.1 72 0 (n)) from by omega) (show H1834.2.2.1 83 0 (n) ≤ 3 * H0.2.2.1 73 0 (n) + H0.2.2.1 74 0 (n) + 1 from by omega) (show H0.1 11 19 0 ≤ H1834.1 11 19 0 from by omega) (show 0 ≤ H0.2.2.1 73 0 (n) ∧ H0.2.2.1 73 0 (n) ≤ 31 from ⟨by omega, by omega⟩) (show 0 ≤ H0.2.2.1 74 0 (n) ∧ H0.2.2.1 74 0 (n) ≤ 2 from ⟨by omega, by omega⟩) (show 0 ≤ H0.2.2.1 115 0 (n) ∧ H0.2.2.1 115 0 (n) ≤ 1 from ⟨by omega, by omega⟩) (show 0 ≤ H0.2.2.1 72 0 (n) ∧ H0.2.2.1 72 0 (n) ≤ 299 from ⟨by omega, by omega⟩) hT1835 hE1836 k1837 k1838 k1839 k1840 k1841 k1842 k1843 k1844 k1845 k1846 (Or.inr (⟨_, rfl⟩))
            · have c1859 : ¬ (x1832 = (0 : Int)) := hc
              clear hc
              refine J.run 8 rfl (show 0 ≤ x1826 ∧ x1826 < 6000 from ⟨by omega, by omega⟩) ?_
              try dsimp only
              refine J.inv rfl rfl rfl rfl rfl rfl jDr rfl rfl rfl rfl rfl (g_isMost (n := n) (kind := (2 : Int)) (r := q) (b := H1834.2.2.1 67 0 (x1826)) hT1835  (show 0 ≤ (n) ∧ (n) < 16 from ⟨by omega, by omega⟩) (show -2147483648 ≤ ((2 : Int)) ∧ ((2 : Int)) ≤ 2147483647 from ⟨by omega, by omega⟩) (show -2147483648 ≤ (q) ∧ (q) ≤ 2147483647 from ⟨by omega, by omega⟩) (show -2147483648 ≤ (H1834.2.2.1 67 0 (x1826)) ∧ (H1834.2.2.1 67 0 (x1826)) ≤ 2147483647 from ⟨by omega, by omega⟩)) ?_
              rintro v w H1862 ⟨rfl, hT1863, ehE1864, x1860, rfl, r1861⟩
              have hE1864 := jEx.trans ehE1864 hE1836 (by decide) (by decide)
              have r1861' : 0 ≤ x1860 ∧ x1860 ≤ 1 := r1861
              have k1865 : gP H1862 := gP.ex k1837 ehE1864 (by decide)
              have k1866 : gX H1862 := gX.ex k1838 ehE1864 (by decide)
              have k1867 : gL H1862 := gL.ex k1839 ehE1864 (by decide)
              have k1868 : gZ H1862 := gZ.ex k1840 ehE1864 (by decide)
              have k1869 : gQ H1862 := gQ.ex k1841 ehE1864 (by decide)
              have k1870 : gB H1862 := gB.ex k1842 ehE1864 (by decide)
              have k1871 : gK H1862 := gK.ex k1843 ehE1864 (by decide)
              have k1872 : gN H1862 := gN.ex k1844 ehE1864 (by decide)
              have k1873 : gW H1862 (H1862.1 11 19 0) := gWm.ex k1845 ehE1864 (by decide)
              have k1874 : gU H1862 u := gU.ex k1846 ehE1864 (by decide)
              have g1875 : H1862.1 11 12 0 = H1834.1 11 12 0 := ehE1864.v 12 (by decide)
              have g1876 : H1862.1 11 19 0 = H1834.1 11 19 0 := ehE1864.v 19 (by decide)
              have g1877 : H1862.2.2.1 73 0 (n) = H1834.2.2.1 73 0 (n) := congrFun (ehE1864.r 73 (by decide)) _
              have g1878 : H1862.2.2.1 74 0 (n) = H1834.2.2.1 74 0 (n) := congrFun (ehE1864.r 74 (by decide)) _
              have g1879 : H1862.2.2.1 115 0 (n) = H1834.2.2.1 115 0 (n) := congrFun (ehE1864.r 115 (by decide)) _
              have g1880 : H1862.2.2.1 72 0 (n) = H1834.2.2.1 72 0 (n) := congrFun (ehE1864.r 72 (by decide)) _
              have g1881 : H1862.2.2.1 79 0 (n) = H1834.2.2.1 79 0 (n) := congrFun (ehE1864.r 79 (by decide)) _
              have g1882 : H1862.2.2.1 80 0 (n) = H1834.2.2.1 80 0 (n) := congrFun (ehE1864.r 80 (by decide)) _
              have g1883 : H1862.2.2.1 56 0 (H0.2.2.1 72 0 (n)) = H1834.2.2.1 56 0 (H0.2.2.1 72 0 (n)) := congrFun (ehE1864.r 56 (by decide)) _
              have g1884 : H1862.2.2.1 83 0 (n) = H1834.2.2.1 83 0 (n) := congrFun (ehE1864.r 83 (by decide)) _
              have g1885 : H1862.2.2.1 67 0 (x1826) = H1834.2.2.1 67 0 (x1826) := congrFun (ehE1864.r 67 (by decide)) _
              have g1886 : H1862.2.2.1 55 0 (H.2.2.1 67 0 (x1826)) = H1834.2.2.1 55 0 (H.2.2.1 67 0 (x1826)) := congrFun (ehE1864.r 55 (by decide)) _
              have rL_isMost := r1861'
              have eL_isMost := ehE1864
              try dsimp only [Option.toList, List.append, List.cons_append, List.nil_append]
              refine J.ifc rfl rfl rfl (show -2147483648 ≤ x1860 ∧ x1860 ≤ 2147483647 from ⟨by omega, by omega⟩) (fun hc => ?_) (fun hc => ?_)
              · have c1887 : ¬ (x1860 = (0 : Int)) := hc
                clear hc
                have z1 := rL_isGood.2.2 (by omega)
                rw [← eL_isMost.r 55 (by decide), ← eL_isMost.r 72 (by decide), ← eL_isGood.r 67 (by decide), ← eL_isMost.r 67 (by decide)] at z1
                have y4 : 0 ≤ H1862.2.2.1 72 0 (n) ∧ H1862.2.2.1 72 0 (n) ≤ 299 := hT1863.1 72 n
                have z0 : ¬ H1862.2.2.1 67 0 (x1826) = 0 := fun z => by rw [z] at z1; have := k1865.1; omega
                have z2 := k1865.2.2.2.1 (H1862.2.2.1 67 0 (x1826)) (by omega) (by omega)
                rw [z1, show H1862.2.2.1 72 0 (n) = H0.2.2.1 72 0 (n) by omega] at z2
                refine J.run 6 rfl (show 0 ≤ x1826 ∧ x1826 < 6000 from ⟨by omega, by omega⟩) ?_
                try dsimp only
                have f1888 : 1 ≤ H1862.1 11 12 0 ∧ H1862.1 11 12 0 ≤ 300 := hT1863.2.1 12
                refine J.inv rfl rfl rfl rfl rfl rfl jDr rfl rfl rfl rfl rfl (g_decided (n := n) (b := H1862.2.2.1 67 0 (x1826)) (u := u) hT1863 k1865 k1866 k1867 k1868 k1869 k1870 k1871 k1872 k1873 k1874 (show 0 ≤ (n) ∧ (n) < 16 from ⟨by omega, by omega⟩) (show 0 ≤ (H1862.2.2.1 67 0 (x1826)) ∧ (H1862.2.2.1 67 0 (x1826)) < 300 from ⟨by omega, by omega⟩) (show (H1862.2.2.1 67 0 (x1826)) < H1862.1 11 12 0 from by omega) (show H1862.2.2.1 80 0 ((n)) = 0 from by omega) (show (n) < (u) from by omega)) ?_
                rintro v w H1891 ⟨rfl, hT1892, ehE1893, k1894, k1895, k1896, k1897, k1898, k1899, k1900, k1901, k1902, k1903, p1904, p1905, rfl⟩
                have hE1893 := jEx.trans ehE1893 hE1864 (by decide) (by decide)
                have p1904' : 192 * H1862.2.2.1 56 0 ((H1862.2.2.1 67 0 (x1826))) ≤ 192 * H1891.2.2.1 56 0 (H1891.2.2.1 72 0 ((n))) + 6 * H1891.2.2.1 73 0 ((n)) + 2 * H1891.2.2.1 74 0 ((n)) + H1891.2.2.1 115 0 ((n)) := p1904
                have p1905' : H1862.1 11 19 0 ≤ H1891.1 11 19 0 := p1905
                have pL_decided_0 := p1904'
                have pL_decided_1 := p1905'
                have g1906 : H1891.2.2.1 79 0 (n) = H1862.2.2.1 79 0 (n) := congrFun (ehE1893.r 79 (by decide)) _
                have eL_decided := ehE1893
                try dsimp only [Option.toList, List.append, List.cons_append, List.nil_append]
                refine J.run0 1 rfl ?_
                try dsimp only
                exact J.retb rfl rfl rfl (show (1 : Int) = 0 ∨ (1 : Int) = 1 by omega) ⟨_, rfl, rfl, hT1892, hE1893, k1894, k1895, k1896, k1897, k1898, k1899, k1900, k1901, k1902, k1903, _, rfl, (show (((1 : Int)) = 0 ∨ ((1 : Int)) = 1) ∧ (((1 : Int)) = 1 → 192 * H0.2.2.1 56 0 (H0.2.2.1 72 0 (n)) + 6 * H0.2.2.1 73 0 (n) + 2 * H0.2.2.1 74 0 (n) + H0.2.2.1 115 0 (n) + 1 ≤ 192 * H1891.2.2.1 56 0 (H1891.2.2.1 72 0 (n)) + 6 * H1891.2.2.1 73 0 (n) + 2 * H1891.2.2.1 74 0 (n) + H1891.2.2.1 115 0 (n)) ∧ H0.1 11 19 0 ≤ H1891.1 11 19 0 from (by refine ⟨by omega, fun hv => ?_, by omega⟩; first | omega | (have y1 : 0 ≤ H1891.2.2.1 74 0 (n) ∧ H1891.2.2.1 74 0 (n) ≤ 2 := hT1892.1 74 n; have y2 : 0 ≤ H1891.2.2.1 115 0 (n) ∧ H1891.2.2.1 115 0 (n) ≤ 1 := hT1892.1 115 n; have y3 : 0 ≤ H1891.2.2.1 73 0 (n) ∧ H1891.2.2.1 73 0 (n) ≤ 31 := hT1892.1 73 n; rw [show H1891.2.2.1 72 0 (n) = H0.2.2.1 72 0 (n) by omega]; omega)))⟩
              · have c1907 : ¬ (¬ (x1860 = (0 : Int))) := hc
                clear hc
                refine J.run0 3 rfl ?_
                try dsimp only
                exact ih (most) (q + 1) H1862 _ (show 40 - (q + 1) < _ by omega) (show 0 ≤ (q + 1) ∧ (q + 1) ≤ 32 from ⟨by omega, by omega⟩) (show 0 ≤ (most) ∧ (most) ≤ 31 from ⟨by omega, by omega⟩) (show H1862.2.2.1 73 0 (n) = H0.2.2.1 73 0 (n) from by omega) (show H1862.2.2.1 74 0 (n) = H0.2.2.1 74 0 (n) from by omega) (show H1862.2.2.1 115 0 (n) = H0.2.2.1 115 0 (n) from by omega) (show H1862.2.2.1 72 0 (n) = H0.2.2.1 72 0 (n) from by omega) (show H1862.2.2.1 79 0 (n) = 0 from by omega) (show H1862.2.2.1 80 0 (n) = 0 from by omega) (show H1862.2.2.1 56 0 (H0.2.2.1 72 0 (n)) = H0.2.2.1 56 0 (H0.2.2.1 72 0 (n)) from by omega) (show H1862.2.2.1 83 0 (n) ≤ 3 * H0.2.2.1 73 0 (n) + H0.2.2.1 74 0 (n) + 1 from by omega) (show H0.1 11 19 0 ≤ H1862.1 11 19 0 from by omega) (show 0 ≤ H0.2.2.1 73 0 (n) ∧ H0.2.2.1 73 0 (n) ≤ 31 from ⟨by omega, by omega⟩) (show 0 ≤ H0.2.2.1 74 0 (n) ∧ H0.2.2.1 74 0 (n) ≤ 2 from ⟨by omega, by omega⟩) (show 0 ≤ H0.2.2.1 115 0 (n) ∧ H0.2.2.1 115 0 (n) ≤ 1 from ⟨by omega, by omega⟩) (show 0 ≤ H0.2.2.1 72 0 (n) ∧ H0.2.2.1 72 0 (n) ≤ 299 from ⟨by omega, by omega⟩) hT1863 hE1864 k1865 k1866 k1867 k1868 k1869 k1870 k1871 k1872 k1873 k1874 (Or.inr (⟨_, rfl⟩))
end
