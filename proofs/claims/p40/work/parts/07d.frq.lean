/-! no instruction calls deeper: method by method, printed -/
set_option maxRecDepth 100000 in
theorem frq_57 : frQ 57 := by unfold frQ; decide +kernel
set_option maxRecDepth 100000 in
theorem frq_58 : frQ 58 := by unfold frQ; decide +kernel
set_option maxRecDepth 100000 in
theorem frq_59 : frQ 59 := by unfold frQ; decide +kernel
set_option maxRecDepth 100000 in
theorem frq_60 : frQ 60 := by unfold frQ; decide +kernel
set_option maxRecDepth 100000 in
theorem frq_61 : frQ 61 := by unfold frQ; decide +kernel
set_option maxRecDepth 100000 in
theorem frq_62 : frQ 62 := by unfold frQ; decide +kernel
set_option maxRecDepth 100000 in
theorem frq_63 : frQ 63 := by unfold frQ; decide +kernel
set_option maxRecDepth 100000 in
theorem frq_64 : frQ 64 := by unfold frQ; decide +kernel
set_option maxRecDepth 100000 in
theorem frq_65 : frQ 65 := by unfold frQ; decide +kernel
set_option maxRecDepth 100000 in
theorem frq_66 : frQ 66 := by unfold frQ; decide +kernel
set_option maxRecDepth 100000 in
theorem frq_67 : frQ 67 := by unfold frQ; decide +kernel
set_option maxRecDepth 100000 in
theorem frq_68 : frQ 68 := by unfold frQ; decide +kernel
set_option maxRecDepth 100000 in
theorem frq_69 : frQ 69 := by unfold frQ; decide +kernel
set_option maxRecDepth 100000 in
theorem frq_70 : frQ 70 := by unfold frQ; decide +kernel
set_option maxRecDepth 100000 in
theorem frq_71 : frQ 71 := by unfold frQ; decide +kernel
set_option maxRecDepth 100000 in
theorem frq_72 : frQ 72 := by unfold frQ; decide +kernel
set_option maxRecDepth 100000 in
theorem frq_73 : frQ 73 := by unfold frQ; decide +kernel
set_option maxRecDepth 100000 in
theorem frq_74 : frQ 74 := by unfold frQ; decide +kernel
set_option maxRecDepth 100000 in
theorem frq_75 : frQ 75 := by unfold frQ; decide +kernel
set_option maxRecDepth 100000 in
theorem frq_76 : frQ 76 := by unfold frQ; decide +kernel
set_option maxRecDepth 100000 in
theorem frq_77 : frQ 77 := by unfold frQ; decide +kernel
set_option maxRecDepth 100000 in
theorem frq_78 : frQ 78 := by unfold frQ; decide +kernel
set_option maxRecDepth 100000 in
theorem frq_79 : frQ 79 := by unfold frQ; decide +kernel
set_option maxRecDepth 100000 in
theorem frq_80 : frQ 80 := by unfold frQ; decide +kernel
set_option maxRecDepth 100000 in
theorem frq_81 : frQ 81 := by unfold frQ; decide +kernel
set_option maxRecDepth 100000 in
theorem frq_82 : frQ 82 := by unfold frQ; decide +kernel
set_option maxRecDepth 100000 in
theorem frq_83 : frQ 83 := by unfold frQ; decide +kernel
set_option maxRecDepth 100000 in
theorem frq_84 : frQ 84 := by unfold frQ; decide +kernel
set_option maxRecDepth 100000 in
theorem frq_85 : frQ 85 := by unfold frQ; decide +kernel
set_option maxRecDepth 100000 in
theorem frq_86 : frQ 86 := by unfold frQ; decide +kernel
set_option maxRecDepth 100000 in
theorem frq_87 : frQ 87 := by unfold frQ; decide +kernel
set_option maxRecDepth 100000 in
theorem frq_88 : frQ 88 := by unfold frQ; decide +kernel
set_option maxRecDepth 100000 in
theorem frq_89 : frQ 89 := by unfold frQ; decide +kernel
set_option maxRecDepth 100000 in
theorem frq_90 : frQ 90 := by unfold frQ; decide +kernel
set_option maxRecDepth 100000 in
theorem frq_91 : frQ 91 := by unfold frQ; decide +kernel
set_option maxRecDepth 100000 in
theorem frq_92 : frQ 92 := by unfold frQ; decide +kernel
set_option maxRecDepth 100000 in
theorem frq_93 : frQ 93 := by unfold frQ; decide +kernel
set_option maxRecDepth 100000 in
theorem frq_94 : frQ 94 := by unfold frQ; decide +kernel
set_option maxRecDepth 100000 in
theorem frq_95 : frQ 95 := by unfold frQ; decide +kernel
set_option maxRecDepth 100000 in
theorem frq_96 : frQ 96 := by unfold frQ; decide +kernel
set_option maxRecDepth 100000 in
theorem frq_97 : frQ 97 := by unfold frQ; decide +kernel
set_option maxRecDepth 100000 in
theorem frq_98 : frQ 98 := by unfold frQ; decide +kernel
set_option maxRecDepth 100000 in
theorem frq_99 : frQ 99 := by unfold frQ; decide +kernel
set_option maxRecDepth 100000 in
theorem frq_100 : frQ 100 := by unfold frQ; decide +kernel
