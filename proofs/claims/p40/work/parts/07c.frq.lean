/-! no instruction calls deeper: method by method, printed -/
set_option maxRecDepth 100000 in
theorem frq_13 : frQ 13 := by unfold frQ; decide +kernel
set_option maxRecDepth 100000 in
theorem frq_14 : frQ 14 := by unfold frQ; decide +kernel
set_option maxRecDepth 100000 in
theorem frq_15 : frQ 15 := by unfold frQ; decide +kernel
set_option maxRecDepth 100000 in
theorem frq_16 : frQ 16 := by unfold frQ; decide +kernel
set_option maxRecDepth 100000 in
theorem frq_17 : frQ 17 := by unfold frQ; decide +kernel
set_option maxRecDepth 100000 in
theorem frq_18 : frQ 18 := by unfold frQ; decide +kernel
set_option maxRecDepth 100000 in
theorem frq_19 : frQ 19 := by unfold frQ; decide +kernel
set_option maxRecDepth 100000 in
theorem frq_20 : frQ 20 := by unfold frQ; decide +kernel
set_option maxRecDepth 100000 in
theorem frq_21 : frQ 21 := by unfold frQ; decide +kernel
set_option maxRecDepth 100000 in
theorem frq_22 : frQ 22 := by unfold frQ; decide +kernel
set_option maxRecDepth 100000 in
theorem frq_23 : frQ 23 := by unfold frQ; decide +kernel
set_option maxRecDepth 100000 in
theorem frq_24 : frQ 24 := by unfold frQ; decide +kernel
set_option maxRecDepth 100000 in
theorem frq_25 : frQ 25 := by unfold frQ; decide +kernel
set_option maxRecDepth 100000 in
theorem frq_26 : frQ 26 := by unfold frQ; decide +kernel
set_option maxRecDepth 100000 in
theorem frq_27 : frQ 27 := by unfold frQ; decide +kernel
set_option maxRecDepth 100000 in
theorem frq_28 : frQ 28 := by unfold frQ; decide +kernel
set_option maxRecDepth 100000 in
theorem frq_29 : frQ 29 := by unfold frQ; decide +kernel
set_option maxRecDepth 100000 in
theorem frq_30 : frQ 30 := by unfold frQ; decide +kernel
set_option maxRecDepth 100000 in
theorem frq_31 : frQ 31 := by unfold frQ; decide +kernel
set_option maxRecDepth 100000 in
theorem frq_32 : frQ 32 := by unfold frQ; decide +kernel
set_option maxRecDepth 100000 in
theorem frq_33 : frQ 33 := by unfold frQ; decide +kernel
set_option maxRecDepth 100000 in
theorem frq_34 : frQ 34 := by unfold frQ; decide +kernel
set_option maxRecDepth 100000 in
theorem frq_35 : frQ 35 := by unfold frQ; decide +kernel
set_option maxRecDepth 100000 in
theorem frq_36 : frQ 36 := by unfold frQ; decide +kernel
set_option maxRecDepth 100000 in
theorem frq_37 : frQ 37 := by unfold frQ; decide +kernel
set_option maxRecDepth 100000 in
theorem frq_38 : frQ 38 := by unfold frQ; decide +kernel
set_option maxRecDepth 100000 in
theorem frq_39 : frQ 39 := by unfold frQ; decide +kernel
set_option maxRecDepth 100000 in
theorem frq_40 : frQ 40 := by unfold frQ; decide +kernel
set_option maxRecDepth 100000 in
theorem frq_41 : frQ 41 := by unfold frQ; decide +kernel
set_option maxRecDepth 100000 in
theorem frq_42 : frQ 42 := by unfold frQ; decide +kernel
set_option maxRecDepth 100000 in
theorem frq_43 : frQ 43 := by unfold frQ; decide +kernel
set_option maxRecDepth 100000 in
theorem frq_44 : frQ 44 := by unfold frQ; decide +kernel
set_option maxRecDepth 100000 in
theorem frq_45 : frQ 45 := by unfold frQ; decide +kernel
set_option maxRecDepth 100000 in
theorem frq_46 : frQ 46 := by unfold frQ; decide +kernel
set_option maxRecDepth 100000 in
theorem frq_47 : frQ 47 := by unfold frQ; decide +kernel
set_option maxRecDepth 100000 in
theorem frq_48 : frQ 48 := by unfold frQ; decide +kernel
set_option maxRecDepth 100000 in
theorem frq_49 : frQ 49 := by unfold frQ; decide +kernel
set_option maxRecDepth 100000 in
theorem frq_50 : frQ 50 := by unfold frQ; decide +kernel
set_option maxRecDepth 100000 in
theorem frq_51 : frQ 51 := by unfold frQ; decide +kernel
set_option maxRecDepth 100000 in
theorem frq_52 : frQ 52 := by unfold frQ; decide +kernel
set_option maxRecDepth 100000 in
theorem frq_53 : frQ 53 := by unfold frQ; decide +kernel
set_option maxRecDepth 100000 in
theorem frq_54 : frQ 54 := by unfold frQ; decide +kernel
set_option maxRecDepth 100000 in
theorem frq_55 : frQ 55 := by unfold frQ; decide +kernel
set_option maxRecDepth 100000 in
theorem frq_56 : frQ 56 := by unfold frQ; decide +kernel
