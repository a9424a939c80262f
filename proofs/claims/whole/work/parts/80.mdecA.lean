theorem dX7_init_0 : decode cX7_init 0 = .ok (.aload_n 0, 1) := by decide +kernel
theorem dX7_init_1 : decode cX7_init 1 = .ok (.invokespecial 1, 3) := by decide +kernel
theorem dX7_init_4 : decode cX7_init 4 = .ok (.aload_n 0, 1) := by decide +kernel
theorem dX7_init_5 : decode cX7_init 5 = .ok (.bipush 8, 2) := by decide +kernel
theorem dX7_init_7 : decode cX7_init 7 = .ok (.newarray .int, 2) := by decide +kernel
theorem dX7_init_9 : decode cX7_init 9 = .ok (.dup, 1) := by decide +kernel
theorem dX7_init_10 : decode cX7_init 10 = .ok (.iconst 0, 1) := by decide +kernel
theorem dX7_init_11 : decode cX7_init 11 = .ok (.ldc 7, 2) := by decide +kernel
theorem dX7_init_13 : decode cX7_init 13 = .ok (.iastore, 1) := by decide +kernel
theorem dX7_init_14 : decode cX7_init 14 = .ok (.dup, 1) := by decide +kernel
theorem dX7_init_15 : decode cX7_init 15 = .ok (.iconst 1, 1) := by decide +kernel
theorem dX7_init_16 : decode cX7_init 16 = .ok (.ldc 8, 2) := by decide +kernel
theorem dX7_init_18 : decode cX7_init 18 = .ok (.iastore, 1) := by decide +kernel
theorem dX7_init_19 : decode cX7_init 19 = .ok (.dup, 1) := by decide +kernel
theorem dX7_init_20 : decode cX7_init 20 = .ok (.iconst 2, 1) := by decide +kernel
theorem dX7_init_21 : decode cX7_init 21 = .ok (.ldc 9, 2) := by decide +kernel
theorem dX7_init_23 : decode cX7_init 23 = .ok (.iastore, 1) := by decide +kernel
theorem dX7_init_24 : decode cX7_init 24 = .ok (.dup, 1) := by decide +kernel
theorem dX7_init_25 : decode cX7_init 25 = .ok (.iconst 3, 1) := by decide +kernel
theorem dX7_init_26 : decode cX7_init 26 = .ok (.ldc 10, 2) := by decide +kernel
theorem dX7_init_28 : decode cX7_init 28 = .ok (.iastore, 1) := by decide +kernel
theorem dX7_init_29 : decode cX7_init 29 = .ok (.dup, 1) := by decide +kernel
theorem dX7_init_30 : decode cX7_init 30 = .ok (.iconst 4, 1) := by decide +kernel
theorem dX7_init_31 : decode cX7_init 31 = .ok (.ldc 11, 2) := by decide +kernel
theorem dX7_init_33 : decode cX7_init 33 = .ok (.iastore, 1) := by decide +kernel
theorem dX7_init_34 : decode cX7_init 34 = .ok (.dup, 1) := by decide +kernel
theorem dX7_init_35 : decode cX7_init 35 = .ok (.iconst 5, 1) := by decide +kernel
theorem dX7_init_36 : decode cX7_init 36 = .ok (.ldc 12, 2) := by decide +kernel
theorem dX7_init_38 : decode cX7_init 38 = .ok (.iastore, 1) := by decide +kernel
theorem dX7_init_39 : decode cX7_init 39 = .ok (.dup, 1) := by decide +kernel
theorem dX7_init_40 : decode cX7_init 40 = .ok (.bipush 6, 2) := by decide +kernel
theorem dX7_init_42 : decode cX7_init 42 = .ok (.ldc 13, 2) := by decide +kernel
theorem dX7_init_44 : decode cX7_init 44 = .ok (.iastore, 1) := by decide +kernel
theorem dX7_init_45 : decode cX7_init 45 = .ok (.dup, 1) := by decide +kernel
theorem dX7_init_46 : decode cX7_init 46 = .ok (.bipush 7, 2) := by decide +kernel
theorem dX7_init_48 : decode cX7_init 48 = .ok (.ldc 14, 2) := by decide +kernel
theorem dX7_init_50 : decode cX7_init 50 = .ok (.iastore, 1) := by decide +kernel
theorem dX7_init_51 : decode cX7_init 51 = .ok (.putfield 15, 3) := by decide +kernel
theorem dX7_init_54 : decode cX7_init 54 = .ok (.aload_n 0, 1) := by decide +kernel
theorem dX7_init_55 : decode cX7_init 55 = .ok (.bipush 28, 2) := by decide +kernel
theorem dX7_init_57 : decode cX7_init 57 = .ok (.newarray .int, 2) := by decide +kernel
theorem dX7_init_59 : decode cX7_init 59 = .ok (.dup, 1) := by decide +kernel
theorem dX7_init_60 : decode cX7_init 60 = .ok (.iconst 0, 1) := by decide +kernel
theorem dX7_init_61 : decode cX7_init 61 = .ok (.bipush 104, 2) := by decide +kernel
theorem dX7_init_63 : decode cX7_init 63 = .ok (.iastore, 1) := by decide +kernel
theorem dX7_init_64 : decode cX7_init 64 = .ok (.dup, 1) := by decide +kernel
theorem dX7_init_65 : decode cX7_init 65 = .ok (.iconst 1, 1) := by decide +kernel
theorem dX7_init_66 : decode cX7_init 66 = .ok (.bipush 97, 2) := by decide +kernel
theorem dX7_init_68 : decode cX7_init 68 = .ok (.iastore, 1) := by decide +kernel
theorem dX7_init_69 : decode cX7_init 69 = .ok (.dup, 1) := by decide +kernel
theorem dX7_init_70 : decode cX7_init 70 = .ok (.iconst 2, 1) := by decide +kernel
theorem dX7_init_71 : decode cX7_init 71 = .ok (.bipush 108, 2) := by decide +kernel
theorem dX7_init_73 : decode cX7_init 73 = .ok (.iastore, 1) := by decide +kernel
theorem dX7_init_74 : decode cX7_init 74 = .ok (.dup, 1) := by decide +kernel
theorem dX7_init_75 : decode cX7_init 75 = .ok (.iconst 3, 1) := by decide +kernel
theorem dX7_init_76 : decode cX7_init 76 = .ok (.bipush 102, 2) := by decide +kernel
theorem dX7_init_78 : decode cX7_init 78 = .ok (.iastore, 1) := by decide +kernel
theorem dX7_init_79 : decode cX7_init 79 = .ok (.dup, 1) := by decide +kernel
theorem dX7_init_80 : decode cX7_init 80 = .ok (.iconst 4, 1) := by decide +kernel
theorem dX7_init_81 : decode cX7_init 81 = .ok (.bipush 115, 2) := by decide +kernel
theorem dX7_init_83 : decode cX7_init 83 = .ok (.iastore, 1) := by decide +kernel
theorem dX7_init_84 : decode cX7_init 84 = .ok (.dup, 1) := by decide +kernel
theorem dX7_init_85 : decode cX7_init 85 = .ok (.iconst 5, 1) := by decide +kernel
theorem dX7_init_86 : decode cX7_init 86 = .ok (.bipush 108, 2) := by decide +kernel
theorem dX7_init_88 : decode cX7_init 88 = .ok (.iastore, 1) := by decide +kernel
theorem dX7_init_89 : decode cX7_init 89 = .ok (.dup, 1) := by decide +kernel
theorem dX7_init_90 : decode cX7_init 90 = .ok (.bipush 6, 2) := by decide +kernel
theorem dX7_init_92 : decode cX7_init 92 = .ok (.bipush 111, 2) := by decide +kernel
theorem dX7_init_94 : decode cX7_init 94 = .ok (.iastore, 1) := by decide +kernel
theorem dX7_init_95 : decode cX7_init 95 = .ok (.dup, 1) := by decide +kernel
theorem dX7_init_96 : decode cX7_init 96 = .ok (.bipush 7, 2) := by decide +kernel
theorem dX7_init_98 : decode cX7_init 98 = .ok (.bipush 116, 2) := by decide +kernel
theorem dX7_init_100 : decode cX7_init 100 = .ok (.iastore, 1) := by decide +kernel
theorem dX7_init_101 : decode cX7_init 101 = .ok (.dup, 1) := by decide +kernel
theorem dX7_init_102 : decode cX7_init 102 = .ok (.bipush 8, 2) := by decide +kernel
theorem dX7_init_104 : decode cX7_init 104 = .ok (.bipush 103, 2) := by decide +kernel
theorem dX7_init_106 : decode cX7_init 106 = .ok (.iastore, 1) := by decide +kernel
theorem dX7_init_107 : decode cX7_init 107 = .ok (.dup, 1) := by decide +kernel
theorem dX7_init_108 : decode cX7_init 108 = .ok (.bipush 9, 2) := by decide +kernel
theorem dX7_init_110 : decode cX7_init 110 = .ok (.bipush 111, 2) := by decide +kernel
theorem dX7_init_112 : decode cX7_init 112 = .ok (.iastore, 1) := by decide +kernel
theorem dX7_init_113 : decode cX7_init 113 = .ok (.dup, 1) := by decide +kernel
theorem dX7_init_114 : decode cX7_init 114 = .ok (.bipush 10, 2) := by decide +kernel
theorem dX7_init_116 : decode cX7_init 116 = .ok (.bipush 110, 2) := by decide +kernel
theorem dX7_init_118 : decode cX7_init 118 = .ok (.iastore, 1) := by decide +kernel
theorem dX7_init_119 : decode cX7_init 119 = .ok (.dup, 1) := by decide +kernel
theorem dX7_init_120 : decode cX7_init 120 = .ok (.bipush 11, 2) := by decide +kernel
theorem dX7_init_122 : decode cX7_init 122 = .ok (.bipush 101, 2) := by decide +kernel
theorem dX7_init_124 : decode cX7_init 124 = .ok (.iastore, 1) := by decide +kernel
theorem dX7_init_125 : decode cX7_init 125 = .ok (.dup, 1) := by decide +kernel
theorem dX7_init_126 : decode cX7_init 126 = .ok (.bipush 12, 2) := by decide +kernel
theorem dX7_init_128 : decode cX7_init 128 = .ok (.bipush 115, 2) := by decide +kernel
theorem dX7_init_130 : decode cX7_init 130 = .ok (.iastore, 1) := by decide +kernel
theorem dX7_init_131 : decode cX7_init 131 = .ok (.dup, 1) := by decide +kernel
theorem dX7_init_132 : decode cX7_init 132 = .ok (.bipush 13, 2) := by decide +kernel
theorem dX7_init_134 : decode cX7_init 134 = .ok (.bipush 119, 2) := by decide +kernel
theorem dX7_init_136 : decode cX7_init 136 = .ok (.iastore, 1) := by decide +kernel
theorem dX7_init_137 : decode cX7_init 137 = .ok (.dup, 1) := by decide +kernel
theorem dX7_init_138 : decode cX7_init 138 = .ok (.bipush 14, 2) := by decide +kernel
theorem dX7_init_140 : decode cX7_init 140 = .ok (.bipush 97, 2) := by decide +kernel
theorem dX7_init_142 : decode cX7_init 142 = .ok (.iastore, 1) := by decide +kernel
theorem dX7_init_143 : decode cX7_init 143 = .ok (.dup, 1) := by decide +kernel
theorem dX7_init_144 : decode cX7_init 144 = .ok (.bipush 15, 2) := by decide +kernel
theorem dX7_init_146 : decode cX7_init 146 = .ok (.bipush 112, 2) := by decide +kernel
theorem dX7_init_148 : decode cX7_init 148 = .ok (.iastore, 1) := by decide +kernel
theorem dX7_init_149 : decode cX7_init 149 = .ok (.dup, 1) := by decide +kernel
theorem dX7_init_150 : decode cX7_init 150 = .ok (.bipush 16, 2) := by decide +kernel
theorem dX7_init_152 : decode cX7_init 152 = .ok (.bipush 111, 2) := by decide +kernel
theorem dX7_init_154 : decode cX7_init 154 = .ok (.iastore, 1) := by decide +kernel
theorem dX7_init_155 : decode cX7_init 155 = .ok (.dup, 1) := by decide +kernel
theorem ko_X7 : kc_oi "FlapDamperModel" 1 := ⟨(List.mem_filter.mpr ⟨List.mem_append_right _ (List.mem_of_getElem? (i := 575) (by decide +kernel)), by decide +kernel⟩), (List.mem_filter.mpr ⟨List.mem_append_right _ (List.mem_of_getElem? (i := 22) (by decide +kernel)), by decide +kernel⟩), (List.mem_filter.mpr ⟨List.mem_append_right _ (List.mem_of_getElem? (i := 23) (by decide +kernel)), by decide +kernel⟩)⟩
theorem kd_X7_7 : (Cond.constant "FlapDamperModel" 7 65536) ∈ fd_T := (List.mem_filter.mpr ⟨List.mem_append_right _ (List.mem_of_getElem? (i := 576) (by decide +kernel)), by decide +kernel⟩)
theorem kd_X7_8 : (Cond.constant "FlapDamperModel" 8 60097) ∈ fd_T := (List.mem_filter.mpr ⟨List.mem_append_right _ (List.mem_of_getElem? (i := 577) (by decide +kernel)), by decide +kernel⟩)
theorem kd_X7_9 : (Cond.constant "FlapDamperModel" 9 55109) ∈ fd_T := (List.mem_filter.mpr ⟨List.mem_append_right _ (List.mem_of_getElem? (i := 578) (by decide +kernel)), by decide +kernel⟩)
theorem kd_X7_10 : (Cond.constant "FlapDamperModel" 10 50535) ∈ fd_T := (List.mem_filter.mpr ⟨List.mem_append_right _ (List.mem_of_getElem? (i := 579) (by decide +kernel)), by decide +kernel⟩)
theorem kd_X7_11 : (Cond.constant "FlapDamperModel" 11 46341) ∈ fd_T := (List.mem_filter.mpr ⟨List.mem_append_right _ (List.mem_of_getElem? (i := 580) (by decide +kernel)), by decide +kernel⟩)
theorem kd_X7_12 : (Cond.constant "FlapDamperModel" 12 42495) ∈ fd_T := (List.mem_filter.mpr ⟨List.mem_append_right _ (List.mem_of_getElem? (i := 581) (by decide +kernel)), by decide +kernel⟩)
theorem kd_X7_13 : (Cond.constant "FlapDamperModel" 13 38968) ∈ fd_T := (List.mem_filter.mpr ⟨List.mem_append_right _ (List.mem_of_getElem? (i := 582) (by decide +kernel)), by decide +kernel⟩)
theorem kd_X7_14 : (Cond.constant "FlapDamperModel" 14 35734) ∈ fd_T := (List.mem_filter.mpr ⟨List.mem_append_right _ (List.mem_of_getElem? (i := 583) (by decide +kernel)), by decide +kernel⟩)
theorem kf_X7_15 : (Cond.fieldLink "FlapDamperModel" 15 "FlapDamperModel" "row" "[I") ∈ fd_T := (List.mem_filter.mpr ⟨List.mem_append_right _ (List.mem_of_getElem? (i := 584) (by decide +kernel)), by decide +kernel⟩)
theorem kf_X7_21 : (Cond.fieldLink "FlapDamperModel" 21 "FlapDamperModel" "names" "[I") ∈ fd_T := (List.mem_filter.mpr ⟨List.mem_append_right _ (List.mem_of_getElem? (i := 585) (by decide +kernel)), by decide +kernel⟩)
theorem kf_X7_24 : (Cond.fieldLink "FlapDamperModel" 24 "FlapDamperModel" "lows" "[I") ∈ fd_T := (List.mem_filter.mpr ⟨List.mem_append_right _ (List.mem_of_getElem? (i := 586) (by decide +kernel)), by decide +kernel⟩)
theorem kf_X7_27 : (Cond.fieldLink "FlapDamperModel" 27 "FlapDamperModel" "highs" "[I") ∈ fd_T := (List.mem_filter.mpr ⟨List.mem_append_right _ (List.mem_of_getElem? (i := 587) (by decide +kernel)), by decide +kernel⟩)
theorem kf_X7_30 : (Cond.fieldLink "FlapDamperModel" 30 "FlapDamperModel" "state" "[I") ∈ fd_T := (List.mem_filter.mpr ⟨List.mem_append_right _ (List.mem_of_getElem? (i := 588) (by decide +kernel)), by decide +kernel⟩)
theorem kf_X7_33 : (Cond.fieldLink "FlapDamperModel" 33 "FlapDamperModel" "images" "[I") ∈ fd_T := (List.mem_filter.mpr ⟨List.mem_append_right _ (List.mem_of_getElem? (i := 589) (by decide +kernel)), by decide +kernel⟩)
theorem kf_X7_36 : (Cond.fieldLink "FlapDamperModel" 36 "FlapDamperModel" "isKept" "[Z") ∈ fd_T := (List.mem_filter.mpr ⟨List.mem_append_right _ (List.mem_of_getElem? (i := 590) (by decide +kernel)), by decide +kernel⟩)
theorem kf_X7_40 : (Cond.fieldLink "FlapDamperModel" 40 "FlapDamperModel" "text" "[I") ∈ fd_T := (List.mem_filter.mpr ⟨List.mem_append_right _ (List.mem_of_getElem? (i := 591) (by decide +kernel)), by decide +kernel⟩)
theorem kc_fl0 (N : Nat) (v : Int32) (f : Nat → Int32) : kc_fl N v f 0 = f := by
  funext j
  unfold kc_fl
  rw [if_neg (by omega)]
