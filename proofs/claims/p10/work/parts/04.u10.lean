def xdr (k a n : Nat) : Bool := match xmts[k]?, xcodes[k]? with
  | some q, some t => (List.range n).all fun j => match t[a + j]? with
    | some (some z) => decide (decode q.2.2.1 (a + j) = .ok z)
    | _ => true
  | _, _ => false
theorem xdk_of {k : Nat} (cs : List (Nat × Nat)) (hc : (match xcodes[k]? with | some t => (List.range t.length).all fun pc => cs.any fun q => decide (q.1 ≤ pc ∧ pc < q.1 + q.2) | none => false) = true) (h : ∀ q ∈ cs, xdr k q.1 q.2 = true) : xdk k = true := by
  unfold xdk
  cases hq : xmts[k]? with
  | none =>
    cases ht : xcodes[k]? with
    | none => rw [ht] at hc; cases hc
    | some t =>
      rw [ht] at hc
      cases cs with
      | nil =>
        exfalso
        have h0 : t.length = 0 := by
          rcases Nat.eq_zero_or_pos t.length with z | z
          · exact z
          · have := List.all_eq_true.mp hc 0 (List.mem_range.mpr z)
            simp at this
        have hk : k < xcodes.length := (List.getElem?_eq_some_iff.mp ht).1
        have hk2 : ¬ k < xmts.length := fun z => by rw [List.getElem?_eq_getElem z] at hq; cases hq
        have e1 : xcodes.length = xmts.length := by decide +kernel
        omega
      | cons q cs =>
        have := h q List.mem_cons_self
        unfold xdr at this
        rw [hq] at this
        cases this
  | some q =>
    cases ht : xcodes[k]? with
    | none => rw [ht] at hc; cases hc
    | some t =>
      rw [ht] at hc
      dsimp only at hc ⊢
      refine List.all_eq_true.mpr fun pc hpc => ?_
      have h1 := List.all_eq_true.mp hc pc hpc
      obtain ⟨c, hcs, hin⟩ := List.any_eq_true.mp h1
      have hin := of_decide_eq_true hin
      have h2 := h c hcs
      unfold xdr at h2
      rw [hq, ht] at h2
      dsimp only at h2
      have h3 := List.all_eq_true.mp h2 (pc - c.1) (List.mem_range.mpr (by omega))
      rw [show c.1 + (pc - c.1) = pc by omega] at h3
      exact h3
set_option maxRecDepth 100000 in
theorem xd_191_0 : xdr 191 0 120 = true := by decide +kernel
set_option maxRecDepth 100000 in
theorem xd_191_120 : xdr 191 120 120 = true := by decide +kernel
set_option maxRecDepth 100000 in
theorem xd_191_240 : xdr 191 240 120 = true := by decide +kernel
set_option maxRecDepth 100000 in
theorem xd_191_360 : xdr 191 360 120 = true := by decide +kernel
set_option maxRecDepth 100000 in
theorem xd_191_480 : xdr 191 480 120 = true := by decide +kernel
set_option maxRecDepth 100000 in
theorem xd_191_600 : xdr 191 600 120 = true := by decide +kernel
set_option maxRecDepth 100000 in
theorem xd_191_720 : xdr 191 720 120 = true := by decide +kernel
set_option maxRecDepth 100000 in
theorem xd_191_840 : xdr 191 840 120 = true := by decide +kernel
set_option maxRecDepth 100000 in
theorem xd_191_960 : xdr 191 960 120 = true := by decide +kernel
set_option maxRecDepth 100000 in
theorem xd_191_1080 : xdr 191 1080 120 = true := by decide +kernel
set_option maxRecDepth 100000 in
theorem xd_191_1200 : xdr 191 1200 120 = true := by decide +kernel
set_option maxRecDepth 100000 in
theorem xd_191_1320 : xdr 191 1320 120 = true := by decide +kernel
theorem xd_191 : xdk 191 = true := xdk_of [(0, 120), (120, 120), (240, 120), (360, 120), (480, 120), (600, 120), (720, 120), (840, 120), (960, 120), (1080, 120), (1200, 120), (1320, 120)] (by decide +kernel) (by
  intro q hq
  simp only [List.mem_cons, List.not_mem_nil, or_false] at hq
  rcases hq with rfl | rfl | rfl | rfl | rfl | rfl | rfl | rfl | rfl | rfl | rfl | rfl
  · exact xd_191_0
  · exact xd_191_120
  · exact xd_191_240
  · exact xd_191_360
  · exact xd_191_480
  · exact xd_191_600
  · exact xd_191_720
  · exact xd_191_840
  · exact xd_191_960
  · exact xd_191_1080
  · exact xd_191_1200
  · exact xd_191_1320)
theorem xd_all : ∀ k : Nat, k < 192 → xdk k = true
  | 0, _ => xd_0
  | 1, _ => xd_1
  | 2, _ => xd_2
  | 3, _ => xd_3
  | 4, _ => xd_4
  | 5, _ => xd_5
  | 6, _ => xd_6
  | 7, _ => xd_7
  | 8, _ => xd_8
  | 9, _ => xd_9
  | 10, _ => xd_10
  | 11, _ => xd_11
  | 12, _ => xd_12
  | 13, _ => xd_13
  | 14, _ => xd_14
  | 15, _ => xd_15
  | 16, _ => xd_16
  | 17, _ => xd_17
  | 18, _ => xd_18
  | 19, _ => xd_19
  | 20, _ => xd_20
  | 21, _ => xd_21
  | 22, _ => xd_22
  | 23, _ => xd_23
  | 24, _ => xd_24
  | 25, _ => xd_25
  | 26, _ => xd_26
  | 27, _ => xd_27
  | 28, _ => xd_28
  | 29, _ => xd_29
  | 30, _ => xd_30
  | 31, _ => xd_31
  | 32, _ => xd_32
  | 33, _ => xd_33
  | 34, _ => xd_34
  | 35, _ => xd_35
  | 36, _ => xd_36
  | 37, _ => xd_37
  | 38, _ => xd_38
  | 39, _ => xd_39
  | 40, _ => xd_40
  | 41, _ => xd_41
  | 42, _ => xd_42
  | 43, _ => xd_43
  | 44, _ => xd_44
  | 45, _ => xd_45
  | 46, _ => xd_46
  | 47, _ => xd_47
  | 48, _ => xd_48
  | 49, _ => xd_49
  | 50, _ => xd_50
  | 51, _ => xd_51
  | 52, _ => xd_52
  | 53, _ => xd_53
  | 54, _ => xd_54
  | 55, _ => xd_55
  | 56, _ => xd_56
  | 57, _ => xd_57
  | 58, _ => xd_58
  | 59, _ => xd_59
  | 60, _ => xd_60
  | 61, _ => xd_61
  | 62, _ => xd_62
  | 63, _ => xd_63
  | 64, _ => xd_64
  | 65, _ => xd_65
  | 66, _ => xd_66
  | 67, _ => xd_67
  | 68, _ => xd_68
  | 69, _ => xd_69
  | 70, _ => xd_70
  | 71, _ => xd_71
  | 72, _ => xd_72
  | 73, _ => xd_73
  | 74, _ => xd_74
  | 75, _ => xd_75
  | 76, _ => xd_76
  | 77, _ => xd_77
  | 78, _ => xd_78
  | 79, _ => xd_79
  | 80, _ => xd_80
  | 81, _ => xd_81
  | 82, _ => xd_82
  | 83, _ => xd_83
  | 84, _ => xd_84
  | 85, _ => xd_85
  | 86, _ => xd_86
  | 87, _ => xd_87
  | 88, _ => xd_88
  | 89, _ => xd_89
  | 90, _ => xd_90
  | 91, _ => xd_91
  | 92, _ => xd_92
  | 93, _ => xd_93
  | 94, _ => xd_94
  | 95, _ => xd_95
  | 96, _ => xd_96
  | 97, _ => xd_97
  | 98, _ => xd_98
  | 99, _ => xd_99
  | 100, _ => xd_100
  | 101, _ => xd_101
  | 102, _ => xd_102
  | 103, _ => xd_103
  | 104, _ => xd_104
  | 105, _ => xd_105
  | 106, _ => xd_106
  | 107, _ => xd_107
  | 108, _ => xd_108
  | 109, _ => xd_109
  | 110, _ => xd_110
  | 111, _ => xd_111
  | 112, _ => xd_112
  | 113, _ => xd_113
  | 114, _ => xd_114
  | 115, _ => xd_115
  | 116, _ => xd_116
  | 117, _ => xd_117
  | 118, _ => xd_118
  | 119, _ => xd_119
  | 120, _ => xd_120
  | 121, _ => xd_121
  | 122, _ => xd_122
  | 123, _ => xd_123
  | 124, _ => xd_124
  | 125, _ => xd_125
  | 126, _ => xd_126
  | 127, _ => xd_127
  | 128, _ => xd_128
  | 129, _ => xd_129
  | 130, _ => xd_130
  | 131, _ => xd_131
  | 132, _ => xd_132
  | 133, _ => xd_133
  | 134, _ => xd_134
  | 135, _ => xd_135
  | 136, _ => xd_136
  | 137, _ => xd_137
  | 138, _ => xd_138
  | 139, _ => xd_139
  | 140, _ => xd_140
  | 141, _ => xd_141
  | 142, _ => xd_142
  | 143, _ => xd_143
  | 144, _ => xd_144
  | 145, _ => xd_145
  | 146, _ => xd_146
  | 147, _ => xd_147
  | 148, _ => xd_148
  | 149, _ => xd_149
  | 150, _ => xd_150
  | 151, _ => xd_151
  | 152, _ => xd_152
  | 153, _ => xd_153
  | 154, _ => xd_154
  | 155, _ => xd_155
  | 156, _ => xd_156
  | 157, _ => xd_157
  | 158, _ => xd_158
  | 159, _ => xd_159
  | 160, _ => xd_160
  | 161, _ => xd_161
  | 162, _ => xd_162
  | 163, _ => xd_163
  | 164, _ => xd_164
  | 165, _ => xd_165
  | 166, _ => xd_166
  | 167, _ => xd_167
  | 168, _ => xd_168
  | 169, _ => xd_169
  | 170, _ => xd_170
  | 171, _ => xd_171
  | 172, _ => xd_172
  | 173, _ => xd_173
  | 174, _ => xd_174
  | 175, _ => xd_175
  | 176, _ => xd_176
  | 177, _ => xd_177
  | 178, _ => xd_178
  | 179, _ => xd_179
  | 180, _ => xd_180
  | 181, _ => xd_181
  | 182, _ => xd_182
  | 183, _ => xd_183
  | 184, _ => xd_184
  | 185, _ => xd_185
  | 186, _ => xd_186
  | 187, _ => xd_187
  | 188, _ => xd_188
  | 189, _ => xd_189
  | 190, _ => xd_190
  | 191, _ => xd_191
  | n + 192, h => absurd h (by omega)
