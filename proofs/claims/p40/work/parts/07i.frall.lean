/-! no instruction calls deeper: put together -/
theorem frq_all : ∀ k, 12 < k → k < 145 → frQ k := by
  intro k h1 h2
  match k, h1, h2 with
  | 13, _, _ => exact frq_13
  | 14, _, _ => exact frq_14
  | 15, _, _ => exact frq_15
  | 16, _, _ => exact frq_16
  | 17, _, _ => exact frq_17
  | 18, _, _ => exact frq_18
  | 19, _, _ => exact frq_19
  | 20, _, _ => exact frq_20
  | 21, _, _ => exact frq_21
  | 22, _, _ => exact frq_22
  | 23, _, _ => exact frq_23
  | 24, _, _ => exact frq_24
  | 25, _, _ => exact frq_25
  | 26, _, _ => exact frq_26
  | 27, _, _ => exact frq_27
  | 28, _, _ => exact frq_28
  | 29, _, _ => exact frq_29
  | 30, _, _ => exact frq_30
  | 31, _, _ => exact frq_31
  | 32, _, _ => exact frq_32
  | 33, _, _ => exact frq_33
  | 34, _, _ => exact frq_34
  | 35, _, _ => exact frq_35
  | 36, _, _ => exact frq_36
  | 37, _, _ => exact frq_37
  | 38, _, _ => exact frq_38
  | 39, _, _ => exact frq_39
  | 40, _, _ => exact frq_40
  | 41, _, _ => exact frq_41
  | 42, _, _ => exact frq_42
  | 43, _, _ => exact frq_43
  | 44, _, _ => exact frq_44
  | 45, _, _ => exact frq_45
  | 46, _, _ => exact frq_46
  | 47, _, _ => exact frq_47
  | 48, _, _ => exact frq_48
  | 49, _, _ => exact frq_49
  | 50, _, _ => exact frq_50
  | 51, _, _ => exact frq_51
  | 52, _, _ => exact frq_52
  | 53, _, _ => exact frq_53
  | 54, _, _ => exact frq_54
  | 55, _, _ => exact frq_55
  | 56, _, _ => exact frq_56
  | 57, _, _ => exact frq_57
  | 58, _, _ => exact frq_58
  | 59, _, _ => exact frq_59
  | 60, _, _ => exact frq_60
  | 61, _, _ => exact frq_61
  | 62, _, _ => exact frq_62
  | 63, _, _ => exact frq_63
  | 64, _, _ => exact frq_64
  | 65, _, _ => exact frq_65
  | 66, _, _ => exact frq_66
  | 67, _, _ => exact frq_67
  | 68, _, _ => exact frq_68
  | 69, _, _ => exact frq_69
  | 70, _, _ => exact frq_70
  | 71, _, _ => exact frq_71
  | 72, _, _ => exact frq_72
  | 73, _, _ => exact frq_73
  | 74, _, _ => exact frq_74
  | 75, _, _ => exact frq_75
  | 76, _, _ => exact frq_76
  | 77, _, _ => exact frq_77
  | 78, _, _ => exact frq_78
  | 79, _, _ => exact frq_79
  | 80, _, _ => exact frq_80
  | 81, _, _ => exact frq_81
  | 82, _, _ => exact frq_82
  | 83, _, _ => exact frq_83
  | 84, _, _ => exact frq_84
  | 85, _, _ => exact frq_85
  | 86, _, _ => exact frq_86
  | 87, _, _ => exact frq_87
  | 88, _, _ => exact frq_88
  | 89, _, _ => exact frq_89
  | 90, _, _ => exact frq_90
  | 91, _, _ => exact frq_91
  | 92, _, _ => exact frq_92
  | 93, _, _ => exact frq_93
  | 94, _, _ => exact frq_94
  | 95, _, _ => exact frq_95
  | 96, _, _ => exact frq_96
  | 97, _, _ => exact frq_97
  | 98, _, _ => exact frq_98
  | 99, _, _ => exact frq_99
  | 100, _, _ => exact frq_100
  | 101, _, _ => exact frq_101
  | 102, _, _ => exact frq_102
  | 103, _, _ => exact frq_103
  | 104, _, _ => exact frq_104
  | 105, _, _ => exact frq_105
  | 106, _, _ => exact frq_106
  | 107, _, _ => exact frq_107
  | 108, _, _ => exact frq_108
  | 109, _, _ => exact frq_109
  | 110, _, _ => exact frq_110
  | 111, _, _ => exact frq_111
  | 112, _, _ => exact frq_112
  | 113, _, _ => exact frq_113
  | 114, _, _ => exact frq_114
  | 115, _, _ => exact frq_115
  | 116, _, _ => exact frq_116
  | 117, _, _ => exact frq_117
  | 118, _, _ => exact frq_118
  | 119, _, _ => exact frq_119
  | 120, _, _ => exact frq_120
  | 121, _, _ => exact frq_121
  | 122, _, _ => exact frq_122
  | 123, _, _ => exact frq_123
  | 124, _, _ => exact frq_124
  | 125, _, _ => exact frq_125
  | 126, _, _ => exact frq_126
  | 127, _, _ => exact frq_127
  | 128, _, _ => exact frq_128
  | 129, _, _ => exact frq_129
  | 130, _, _ => exact frq_130
  | 131, _, _ => exact frq_131
  | 132, _, _ => exact frq_132
  | 133, _, _ => exact frq_133
  | 134, _, _ => exact frq_134
  | 135, _, _ => exact frq_135
  | 136, _, _ => exact frq_136
  | 137, _, _ => exact frq_137
  | 138, _, _ => exact frq_138
  | 139, _, _ => exact frq_139
  | 140, _, _ => exact frq_140
  | 141, _, _ => exact frq_141
  | 142, _, _ => exact frq_142
  | 143, _, _ => exact frq_143
  | 144, _, _ => exact frq_144
  | z + 145, _, h => omega
set_option maxRecDepth 100000 in
theorem frN : mPT.length = 145 := by decide +kernel
theorem mth_lt {k : Nat} {M : MI} (h : mth k = some M) : k < 145 := by
  unfold mth at h
  rw [← frN]
  cases hz : mPT[k]? with
  | none => rw [hz] at h; cases h
  | some e => exact (List.getElem?_eq_some_iff.mp hz).1
theorem fr_of {k : Nat} {M : MI} (h12 : 12 < k) (hM : mth k = some M) {pc len : Nat} {i : Instr} (hd : decode M.2.1 pc = .ok (i, len)) : frB k M.2.2.2.2.1 i = true := by
  have h := frq_all k h12 (mth_lt hM)
  unfold frQ at h
  rw [hM] at h
  have h : frC k M = true := h
  unfold frC at h
  have h9 := List.all_eq_true.mp h pc (List.mem_range.mpr (decode_lt hd))
  rw [hd] at h9
  exact h9
theorem fr_call {k : Nat} {M : MI} (h12 : 12 < k) (hM : mth k = some M) {pc len idx kk mid : Nat} {i : Instr} (hd : decode M.2.1 pc = .ok (i, len)) (hi : cixOf i = some idx) (hc : callOf M.2.2.2.2.1 idx = some (kk, mid)) (hk : kk ≤ 3) : frT mid + 1 ≤ frT k := by
  have h := fr_of h12 hM hd
  unfold frB at h
  rw [hi] at h
  simp only [hc, Bool.or_eq_true, decide_eq_true_eq] at h
  omega
theorem fr_throw {k : Nat} {M : MI} (h12 : 12 < k) (hM : mth k = some M) {pc len idx c : Nat} (hd : decode M.2.1 pc = .ok (.new idx, len)) (hc : clOf M.2.2.2.2.1 idx = some c) (h : 100 ≤ c) : 6 ≤ frT k := by
  have h := fr_of h12 hM hd
  unfold frB cixOf at h
  simp only [hc, Bool.or_eq_true, decide_eq_true_eq] at h
  omega
