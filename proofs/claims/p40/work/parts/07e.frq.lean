/-! no instruction calls deeper: method by method, printed -/
set_option maxRecDepth 100000 in
theorem frq_101 : frQ 101 := by unfold frQ; decide +kernel
set_option maxRecDepth 100000 in
theorem frq_102 : frQ 102 := by unfold frQ; decide +kernel
set_option maxRecDepth 100000 in
theorem frq_103 : frQ 103 := by unfold frQ; decide +kernel
set_option maxRecDepth 100000 in
theorem frq_104 : frQ 104 := by unfold frQ; decide +kernel
set_option maxRecDepth 100000 in
theorem frq_105 : frQ 105 := by unfold frQ; decide +kernel
set_option maxRecDepth 100000 in
theorem frq_106 : frQ 106 := by unfold frQ; decide +kernel
set_option maxRecDepth 100000 in
theorem frq_107 : frQ 107 := by unfold frQ; decide +kernel
set_option maxRecDepth 100000 in
theorem frq_108 : frQ 108 := by unfold frQ; decide +kernel
set_option maxRecDepth 100000 in
theorem frq_109 : frQ 109 := by unfold frQ; decide +kernel
set_option maxRecDepth 100000 in
theorem frq_110 : frQ 110 := by unfold frQ; decide +kernel
set_option maxRecDepth 100000 in
theorem frq_111 : frQ 111 := by unfold frQ; decide +kernel
set_option maxRecDepth 100000 in
theorem frq_112 : frQ 112 := by unfold frQ; decide +kernel
set_option maxRecDepth 100000 in
theorem frq_113 : frQ 113 := by unfold frQ; decide +kernel
set_option maxRecDepth 100000 in
theorem frq_114 : frQ 114 := by unfold frQ; decide +kernel
set_option maxRecDepth 100000 in
theorem frq_115 : frQ 115 := by unfold frQ; decide +kernel
set_option maxRecDepth 100000 in
theorem frq_116 : frQ 116 := by unfold frQ; decide +kernel
set_option maxRecDepth 100000 in
theorem frq_117 : frQ 117 := by unfold frQ; decide +kernel
set_option maxRecDepth 100000 in
theorem frq_118 : frQ 118 := by unfold frQ; decide +kernel
set_option maxRecDepth 100000 in
theorem frq_119 : frQ 119 := by unfold frQ; decide +kernel
set_option maxRecDepth 100000 in
theorem frq_120 : frQ 120 := by unfold frQ; decide +kernel
set_option maxRecDepth 100000 in
theorem frq_121 : frQ 121 := by unfold frQ; decide +kernel
set_option maxRecDepth 100000 in
theorem frq_122 : frQ 122 := by unfold frQ; decide +kernel
set_option maxRecDepth 100000 in
theorem frq_123 : frQ 123 := by unfold frQ; decide +kernel
set_option maxRecDepth 100000 in
theorem frq_124 : frQ 124 := by unfold frQ; decide +kernel
set_option maxRecDepth 100000 in
theorem frq_125 : frQ 125 := by unfold frQ; decide +kernel
set_option maxRecDepth 100000 in
theorem frq_126 : frQ 126 := by unfold frQ; decide +kernel
set_option maxRecDepth 100000 in
theorem frq_127 : frQ 127 := by unfold frQ; decide +kernel
set_option maxRecDepth 100000 in
theorem frq_128 : frQ 128 := by unfold frQ; decide +kernel
set_option maxRecDepth 100000 in
theorem frq_129 : frQ 129 := by unfold frQ; decide +kernel
set_option maxRecDepth 100000 in
theorem frq_130 : frQ 130 := by unfold frQ; decide +kernel
set_option maxRecDepth 100000 in
theorem frq_131 : frQ 131 := by unfold frQ; decide +kernel
set_option maxRecDepth 100000 in
theorem frq_132 : frQ 132 := by unfold frQ; decide +kernel
set_option maxRecDepth 100000 in
theorem frq_133 : frQ 133 := by unfold frQ; decide +kernel
set_option maxRecDepth 100000 in
theorem frq_134 : frQ 134 := by unfold frQ; decide +kernel
set_option maxRecDepth 100000 in
theorem frq_135 : frQ 135 := by unfold frQ; decide +kernel
set_option maxRecDepth 100000 in
theorem frq_136 : frQ 136 := by unfold frQ; decide +kernel
set_option maxRecDepth 100000 in
theorem frq_137 : frQ 137 := by unfold frQ; decide +kernel
set_option maxRecDepth 100000 in
theorem frq_138 : frQ 138 := by unfold frQ; decide +kernel
set_option maxRecDepth 100000 in
theorem frq_139 : frQ 139 := by unfold frQ; decide +kernel
set_option maxRecDepth 100000 in
theorem frq_140 : frQ 140 := by unfold frQ; decide +kernel
set_option maxRecDepth 100000 in
theorem frq_141 : frQ 141 := by unfold frQ; decide +kernel
set_option maxRecDepth 100000 in
theorem frq_142 : frQ 142 := by unfold frQ; decide +kernel
set_option maxRecDepth 100000 in
theorem frq_143 : frQ 143 := by unfold frQ; decide +kernel
set_option maxRecDepth 100000 in
theorem frq_144 : frQ 144 := by unfold frQ; decide +kernel
