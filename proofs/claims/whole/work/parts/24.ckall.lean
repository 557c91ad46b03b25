theorem ck_157 : ∀ i, i < 1120 → chk 157 i = true := by
  intro i hi
  by_cases h0 : i < 24
  · exact chkR_at ck_157_0 (by omega) (by omega)
  by_cases h24 : i < 48
  · exact chkR_at ck_157_24 (by omega) (by omega)
  by_cases h48 : i < 72
  · exact chkR_at ck_157_48 (by omega) (by omega)
  by_cases h72 : i < 96
  · exact chkR_at ck_157_72 (by omega) (by omega)
  by_cases h96 : i < 120
  · exact chkR_at ck_157_96 (by omega) (by omega)
  by_cases h120 : i < 144
  · exact chkR_at ck_157_120 (by omega) (by omega)
  by_cases h144 : i < 168
  · exact chkR_at ck_157_144 (by omega) (by omega)
  by_cases h168 : i < 192
  · exact chkR_at ck_157_168 (by omega) (by omega)
  by_cases h192 : i < 216
  · exact chkR_at ck_157_192 (by omega) (by omega)
  by_cases h216 : i < 240
  · exact chkR_at ck_157_216 (by omega) (by omega)
  by_cases h240 : i < 264
  · exact chkR_at ck_157_240 (by omega) (by omega)
  by_cases h264 : i < 288
  · exact chkR_at ck_157_264 (by omega) (by omega)
  by_cases h288 : i < 312
  · exact chkR_at ck_157_288 (by omega) (by omega)
  by_cases h312 : i < 336
  · exact chkR_at ck_157_312 (by omega) (by omega)
  by_cases h336 : i < 360
  · exact chkR_at ck_157_336 (by omega) (by omega)
  by_cases h360 : i < 384
  · exact chkR_at ck_157_360 (by omega) (by omega)
  by_cases h384 : i < 408
  · exact chkR_at ck_157_384 (by omega) (by omega)
  by_cases h408 : i < 432
  · exact chkR_at ck_157_408 (by omega) (by omega)
  by_cases h432 : i < 456
  · exact chkR_at ck_157_432 (by omega) (by omega)
  by_cases h456 : i < 480
  · exact chkR_at ck_157_456 (by omega) (by omega)
  by_cases h480 : i < 504
  · exact chkR_at ck_157_480 (by omega) (by omega)
  by_cases h504 : i < 528
  · exact chkR_at ck_157_504 (by omega) (by omega)
  by_cases h528 : i < 552
  · exact chkR_at ck_157_528 (by omega) (by omega)
  by_cases h552 : i < 576
  · exact chkR_at ck_157_552 (by omega) (by omega)
  by_cases h576 : i < 600
  · exact chkR_at ck_157_576 (by omega) (by omega)
  by_cases h600 : i < 624
  · exact chkR_at ck_157_600 (by omega) (by omega)
  by_cases h624 : i < 648
  · exact chkR_at ck_157_624 (by omega) (by omega)
  by_cases h648 : i < 672
  · exact chkR_at ck_157_648 (by omega) (by omega)
  by_cases h672 : i < 696
  · exact chkR_at ck_157_672 (by omega) (by omega)
  by_cases h696 : i < 720
  · exact chkR_at ck_157_696 (by omega) (by omega)
  by_cases h720 : i < 744
  · exact chkR_at ck_157_720 (by omega) (by omega)
  by_cases h744 : i < 768
  · exact chkR_at ck_157_744 (by omega) (by omega)
  by_cases h768 : i < 792
  · exact chkR_at ck_157_768 (by omega) (by omega)
  by_cases h792 : i < 816
  · exact chkR_at ck_157_792 (by omega) (by omega)
  by_cases h816 : i < 840
  · exact chkR_at ck_157_816 (by omega) (by omega)
  by_cases h840 : i < 864
  · exact chkR_at ck_157_840 (by omega) (by omega)
  by_cases h864 : i < 888
  · exact chkR_at ck_157_864 (by omega) (by omega)
  by_cases h888 : i < 912
  · exact chkR_at ck_157_888 (by omega) (by omega)
  by_cases h912 : i < 936
  · exact chkR_at ck_157_912 (by omega) (by omega)
  by_cases h936 : i < 960
  · exact chkR_at ck_157_936 (by omega) (by omega)
  by_cases h960 : i < 984
  · exact chkR_at ck_157_960 (by omega) (by omega)
  by_cases h984 : i < 1008
  · exact chkR_at ck_157_984 (by omega) (by omega)
  by_cases h1008 : i < 1032
  · exact chkR_at ck_157_1008 (by omega) (by omega)
  by_cases h1032 : i < 1056
  · exact chkR_at ck_157_1032 (by omega) (by omega)
  by_cases h1056 : i < 1080
  · exact chkR_at ck_157_1056 (by omega) (by omega)
  by_cases h1080 : i < 1104
  · exact chkR_at ck_157_1080 (by omega) (by omega)
  exact chkR_at ck_157_1104 (by omega) (by omega)
theorem len_law : (pg_cs.getD 157 []).length = 1120 := by decide +kernel
theorem ck_all : ∀ y i, i < (pg_cs.getD y []).length → (pg_own y ≠ "java/lang/Math") → chk y i = true := by
  intro y i hi hn
  match y, hi, hn with
  | 0, hi, _ => exact ck_0 i hi
  | 1, hi, _ => exact ck_1 i hi
  | 2, hi, _ => exact ck_2 i hi
  | 3, hi, _ => exact ck_3 i hi
  | 4, hi, _ => exact ck_4 i hi
  | 5, hi, _ => exact ck_5 i hi
  | 6, hi, _ => exact ck_6 i hi
  | 7, hi, _ => exact ck_7 i hi
  | 8, hi, _ => exact ck_8 i hi
  | 9, hi, _ => exact ck_9 i hi
  | 10, hi, _ => exact ck_10 i hi
  | 11, hi, _ => exact ck_11 i hi
  | 12, hi, _ => exact ck_12 i hi
  | 13, hi, _ => exact ck_13 i hi
  | 14, hi, _ => exact ck_14 i hi
  | 15, hi, _ => exact ck_15 i hi
  | 16, hi, _ => exact ck_16 i hi
  | 17, hi, _ => exact ck_17 i hi
  | 18, hi, _ => exact ck_18 i hi
  | 19, hi, _ => exact ck_19 i hi
  | 20, hi, _ => exact ck_20 i hi
  | 21, hi, _ => exact ck_21 i hi
  | 22, hi, _ => exact ck_22 i hi
  | 23, hi, _ => exact ck_23 i hi
  | 24, hi, _ => exact ck_24 i hi
  | 25, hi, _ => exact ck_25 i hi
  | 26, hi, _ => exact ck_26 i hi
  | 27, hi, _ => exact ck_27 i hi
  | 28, hi, _ => exact ck_28 i hi
  | 29, hi, _ => exact ck_29 i hi
  | 30, hi, _ => exact ck_30 i hi
  | 31, hi, _ => exact ck_31 i hi
  | 32, hi, _ => exact ck_32 i hi
  | 33, hi, _ => exact ck_33 i hi
  | 34, hi, _ => exact ck_34 i hi
  | 35, hi, _ => exact ck_35 i hi
  | 36, hi, _ => exact ck_36 i hi
  | 37, hi, _ => exact ck_37 i hi
  | 38, hi, _ => exact ck_38 i hi
  | 39, hi, _ => exact ck_39 i hi
  | 40, hi, _ => exact ck_40 i hi
  | 41, hi, _ => exact ck_41 i hi
  | 42, hi, _ => exact ck_42 i hi
  | 43, hi, _ => exact ck_43 i hi
  | 44, hi, _ => exact ck_44 i hi
  | 45, hi, _ => exact ck_45 i hi
  | 46, hi, _ => exact ck_46 i hi
  | 47, hi, _ => exact ck_47 i hi
  | 48, hi, _ => exact ck_48 i hi
  | 49, hi, _ => exact ck_49 i hi
  | 50, hi, _ => exact ck_50 i hi
  | 51, hi, _ => exact ck_51 i hi
  | 52, hi, _ => exact ck_52 i hi
  | 53, hi, _ => exact ck_53 i hi
  | 54, hi, _ => exact ck_54 i hi
  | 55, hi, _ => exact ck_55 i hi
  | 56, hi, _ => exact ck_56 i hi
  | 57, hi, _ => exact ck_57 i hi
  | 58, hi, _ => exact ck_58 i hi
  | 59, hi, _ => exact ck_59 i hi
  | 60, hi, _ => exact ck_60 i hi
  | 61, hi, _ => exact ck_61 i hi
  | 62, hi, _ => exact ck_62 i hi
  | 63, hi, _ => exact ck_63 i hi
  | 64, hi, _ => exact ck_64 i hi
  | 65, hi, _ => exact ck_65 i hi
  | 66, hi, _ => exact ck_66 i hi
  | 67, hi, _ => exact ck_67 i hi
  | 68, hi, _ => exact ck_68 i hi
  | 69, hi, _ => exact ck_69 i hi
  | 70, hi, _ => exact ck_70 i hi
  | 71, hi, _ => exact ck_71 i hi
  | 72, hi, _ => exact ck_72 i hi
  | 73, hi, _ => exact ck_73 i hi
  | 74, hi, _ => exact ck_74 i hi
  | 75, hi, _ => exact ck_75 i hi
  | 76, hi, _ => exact ck_76 i hi
  | 77, hi, _ => exact ck_77 i hi
  | 78, hi, _ => exact ck_78 i hi
  | 79, hi, _ => exact ck_79 i hi
  | 80, hi, _ => exact ck_80 i hi
  | 81, hi, _ => exact ck_81 i hi
  | 82, hi, _ => exact ck_82 i hi
  | 83, hi, _ => exact ck_83 i hi
  | 84, hi, _ => exact ck_84 i hi
  | 85, hi, _ => exact ck_85 i hi
  | 86, hi, _ => exact ck_86 i hi
  | 87, hi, _ => exact ck_87 i hi
  | 88, hi, _ => exact ck_88 i hi
  | 89, hi, _ => exact ck_89 i hi
  | 90, hi, _ => exact ck_90 i hi
  | 91, hi, _ => exact ck_91 i hi
  | 92, hi, _ => exact ck_92 i hi
  | 93, hi, _ => exact ck_93 i hi
  | 94, hi, _ => exact ck_94 i hi
  | 95, hi, _ => exact ck_95 i hi
  | 96, hi, _ => exact ck_96 i hi
  | 97, hi, _ => exact ck_97 i hi
  | 98, hi, _ => exact ck_98 i hi
  | 99, hi, _ => exact ck_99 i hi
  | 100, hi, _ => exact ck_100 i hi
  | 101, hi, _ => exact ck_101 i hi
  | 102, hi, _ => exact ck_102 i hi
  | 103, hi, _ => exact ck_103 i hi
  | 104, hi, _ => exact ck_104 i hi
  | 105, hi, _ => exact ck_105 i hi
  | 106, hi, _ => exact ck_106 i hi
  | 107, hi, _ => exact ck_107 i hi
  | 108, hi, _ => exact ck_108 i hi
  | 109, hi, _ => exact ck_109 i hi
  | 110, hi, _ => exact ck_110 i hi
  | 111, hi, _ => exact ck_111 i hi
  | 112, hi, _ => exact ck_112 i hi
  | 113, hi, _ => exact ck_113 i hi
  | 114, hi, _ => exact ck_114 i hi
  | 115, hi, _ => exact ck_115 i hi
  | 116, hi, _ => exact ck_116 i hi
  | 117, hi, _ => exact ck_117 i hi
  | 118, hi, _ => exact ck_118 i hi
  | 119, hi, _ => exact ck_119 i hi
  | 120, hi, _ => exact ck_120 i hi
  | 121, hi, _ => exact ck_121 i hi
  | 122, hi, _ => exact ck_122 i hi
  | 123, hi, _ => exact ck_123 i hi
  | 124, hi, _ => exact ck_124 i hi
  | 125, hi, _ => exact ck_125 i hi
  | 126, hi, _ => exact ck_126 i hi
  | 127, hi, _ => exact ck_127 i hi
  | 128, _, hn => exact absurd rfl hn
  | 129, _, hn => exact absurd rfl hn
  | 130, _, hn => exact absurd rfl hn
  | 131, hi, _ => exact ck_131 i hi
  | 132, hi, _ => exact ck_132 i hi
  | 133, hi, _ => exact ck_133 i hi
  | 134, hi, _ => exact ck_134 i hi
  | 135, hi, _ => exact ck_135 i hi
  | 136, hi, _ => exact ck_136 i hi
  | 137, hi, _ => exact ck_137 i hi
  | 138, hi, _ => exact ck_138 i hi
  | 139, hi, _ => exact ck_139 i hi
  | 140, hi, _ => exact ck_140 i hi
  | 141, hi, _ => exact ck_141 i hi
  | 142, hi, _ => exact ck_142 i hi
  | 143, hi, _ => exact ck_143 i hi
  | 144, hi, _ => exact ck_144 i hi
  | 145, hi, _ => exact ck_145 i hi
  | 146, hi, _ => exact ck_146 i hi
  | 147, hi, _ => exact ck_147 i hi
  | 148, hi, _ => exact ck_148 i hi
  | 149, hi, _ => exact ck_149 i hi
  | 150, hi, _ => exact ck_150 i hi
  | 151, hi, _ => exact ck_151 i hi
  | 152, hi, _ => exact ck_152 i hi
  | 153, hi, _ => exact ck_153 i hi
  | 154, hi, _ => exact ck_154 i hi
  | 155, hi, _ => exact ck_155 i hi
  | 156, hi, _ => exact ck_156 i hi
  | 157, hi, _ => exact ck_157 i (by rw [len_law] at hi; exact hi)
  | n + 158, hi, _ =>
    have : pg_cs.getD (n + 158) [] = [] := by
      rw [List.getD_eq_getElem?_getD, List.getElem?_eq_none (by show 158 ≤ n + 158; omega)]; rfl
    rw [this] at hi
    exact absurd hi (Nat.not_lt_zero _)
theorem HCK : ∀ y i r, pg_at y i = some r → pg_own y ≠ "java/lang/Math" → chk y i = true := by
  intro y i r h hn
  refine ck_all y i ?_ hn
  unfold pg_at at h
  exact (List.getElem?_eq_some_iff.mp h).1
