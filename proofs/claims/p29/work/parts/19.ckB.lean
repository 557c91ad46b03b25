set_option maxRecDepth 100000 in
theorem ck_77_0 : chkR 77 0 24 = true := by decide +kernel
set_option maxRecDepth 100000 in
theorem ck_77_24 : chkR 77 24 2 = true := by decide +kernel
theorem ck_77 : ∀ i, i < 26 → chk 77 i = true := by
  intro i hi
  by_cases h0 : i < 24
  · exact chkR_at ck_77_0 (by omega) (by omega)
  exact chkR_at ck_77_24 (by omega) (by omega)
set_option maxRecDepth 100000 in
theorem ck_78_0 : chkR 78 0 6 = true := by decide +kernel
theorem ck_78 : ∀ i, i < 6 → chk 78 i = true := by
  intro i hi
  exact chkR_at ck_78_0 (by omega) (by omega)
set_option maxRecDepth 100000 in
theorem ck_79_0 : chkR 79 0 8 = true := by decide +kernel
theorem ck_79 : ∀ i, i < 8 → chk 79 i = true := by
  intro i hi
  exact chkR_at ck_79_0 (by omega) (by omega)
set_option maxRecDepth 100000 in
theorem ck_80_0 : chkR 80 0 13 = true := by decide +kernel
theorem ck_80 : ∀ i, i < 13 → chk 80 i = true := by
  intro i hi
  exact chkR_at ck_80_0 (by omega) (by omega)
set_option maxRecDepth 100000 in
theorem ck_81_0 : chkR 81 0 24 = true := by decide +kernel
set_option maxRecDepth 100000 in
theorem ck_81_24 : chkR 81 24 14 = true := by decide +kernel
theorem ck_81 : ∀ i, i < 38 → chk 81 i = true := by
  intro i hi
  by_cases h0 : i < 24
  · exact chkR_at ck_81_0 (by omega) (by omega)
  exact chkR_at ck_81_24 (by omega) (by omega)
set_option maxRecDepth 100000 in
theorem ck_82_0 : chkR 82 0 24 = true := by decide +kernel
set_option maxRecDepth 100000 in
theorem ck_82_24 : chkR 82 24 2 = true := by decide +kernel
theorem ck_82 : ∀ i, i < 26 → chk 82 i = true := by
  intro i hi
  by_cases h0 : i < 24
  · exact chkR_at ck_82_0 (by omega) (by omega)
  exact chkR_at ck_82_24 (by omega) (by omega)
set_option maxRecDepth 100000 in
theorem ck_83_0 : chkR 83 0 24 = true := by decide +kernel
set_option maxRecDepth 100000 in
theorem ck_83_24 : chkR 83 24 15 = true := by decide +kernel
theorem ck_83 : ∀ i, i < 39 → chk 83 i = true := by
  intro i hi
  by_cases h0 : i < 24
  · exact chkR_at ck_83_0 (by omega) (by omega)
  exact chkR_at ck_83_24 (by omega) (by omega)
set_option maxRecDepth 100000 in
theorem ck_84_0 : chkR 84 0 18 = true := by decide +kernel
theorem ck_84 : ∀ i, i < 18 → chk 84 i = true := by
  intro i hi
  exact chkR_at ck_84_0 (by omega) (by omega)
set_option maxRecDepth 100000 in
theorem ck_85_0 : chkR 85 0 24 = true := by decide +kernel
set_option maxRecDepth 100000 in
theorem ck_85_24 : chkR 85 24 24 = true := by decide +kernel
set_option maxRecDepth 100000 in
theorem ck_85_48 : chkR 85 48 24 = true := by decide +kernel
set_option maxRecDepth 100000 in
theorem ck_85_72 : chkR 85 72 24 = true := by decide +kernel
set_option maxRecDepth 100000 in
theorem ck_85_96 : chkR 85 96 24 = true := by decide +kernel
set_option maxRecDepth 100000 in
theorem ck_85_120 : chkR 85 120 24 = true := by decide +kernel
set_option maxRecDepth 100000 in
theorem ck_85_144 : chkR 85 144 24 = true := by decide +kernel
set_option maxRecDepth 100000 in
theorem ck_85_168 : chkR 85 168 24 = true := by decide +kernel
set_option maxRecDepth 100000 in
theorem ck_85_192 : chkR 85 192 24 = true := by decide +kernel
set_option maxRecDepth 100000 in
theorem ck_85_216 : chkR 85 216 24 = true := by decide +kernel
set_option maxRecDepth 100000 in
theorem ck_85_240 : chkR 85 240 24 = true := by decide +kernel
set_option maxRecDepth 100000 in
theorem ck_85_264 : chkR 85 264 24 = true := by decide +kernel
set_option maxRecDepth 100000 in
theorem ck_85_288 : chkR 85 288 1 = true := by decide +kernel
theorem ck_85 : ∀ i, i < 289 → chk 85 i = true := by
  intro i hi
  by_cases h0 : i < 24
  · exact chkR_at ck_85_0 (by omega) (by omega)
  by_cases h24 : i < 48
  · exact chkR_at ck_85_24 (by omega) (by omega)
  by_cases h48 : i < 72
  · exact chkR_at ck_85_48 (by omega) (by omega)
  by_cases h72 : i < 96
  · exact chkR_at ck_85_72 (by omega) (by omega)
  by_cases h96 : i < 120
  · exact chkR_at ck_85_96 (by omega) (by omega)
  by_cases h120 : i < 144
  · exact chkR_at ck_85_120 (by omega) (by omega)
  by_cases h144 : i < 168
  · exact chkR_at ck_85_144 (by omega) (by omega)
  by_cases h168 : i < 192
  · exact chkR_at ck_85_168 (by omega) (by omega)
  by_cases h192 : i < 216
  · exact chkR_at ck_85_192 (by omega) (by omega)
  by_cases h216 : i < 240
  · exact chkR_at ck_85_216 (by omega) (by omega)
  by_cases h240 : i < 264
  · exact chkR_at ck_85_240 (by omega) (by omega)
  by_cases h264 : i < 288
  · exact chkR_at ck_85_264 (by omega) (by omega)
  exact chkR_at ck_85_288 (by omega) (by omega)
set_option maxRecDepth 100000 in
theorem ck_86_0 : chkR 86 0 24 = true := by decide +kernel
set_option maxRecDepth 100000 in
theorem ck_86_24 : chkR 86 24 21 = true := by decide +kernel
theorem ck_86 : ∀ i, i < 45 → chk 86 i = true := by
  intro i hi
  by_cases h0 : i < 24
  · exact chkR_at ck_86_0 (by omega) (by omega)
  exact chkR_at ck_86_24 (by omega) (by omega)
set_option maxRecDepth 100000 in
theorem ck_87_0 : chkR 87 0 24 = true := by decide +kernel
set_option maxRecDepth 100000 in
theorem ck_87_24 : chkR 87 24 24 = true := by decide +kernel
set_option maxRecDepth 100000 in
theorem ck_87_48 : chkR 87 48 17 = true := by decide +kernel
theorem ck_87 : ∀ i, i < 65 → chk 87 i = true := by
  intro i hi
  by_cases h0 : i < 24
  · exact chkR_at ck_87_0 (by omega) (by omega)
  by_cases h24 : i < 48
  · exact chkR_at ck_87_24 (by omega) (by omega)
  exact chkR_at ck_87_48 (by omega) (by omega)
set_option maxRecDepth 100000 in
theorem ck_88_0 : chkR 88 0 19 = true := by decide +kernel
theorem ck_88 : ∀ i, i < 19 → chk 88 i = true := by
  intro i hi
  exact chkR_at ck_88_0 (by omega) (by omega)
set_option maxRecDepth 100000 in
theorem ck_89_0 : chkR 89 0 24 = true := by decide +kernel
set_option maxRecDepth 100000 in
theorem ck_89_24 : chkR 89 24 24 = true := by decide +kernel
set_option maxRecDepth 100000 in
theorem ck_89_48 : chkR 89 48 24 = true := by decide +kernel
set_option maxRecDepth 100000 in
theorem ck_89_72 : chkR 89 72 24 = true := by decide +kernel
set_option maxRecDepth 100000 in
theorem ck_89_96 : chkR 89 96 24 = true := by decide +kernel
set_option maxRecDepth 100000 in
theorem ck_89_120 : chkR 89 120 24 = true := by decide +kernel
set_option maxRecDepth 100000 in
theorem ck_89_144 : chkR 89 144 24 = true := by decide +kernel
set_option maxRecDepth 100000 in
theorem ck_89_168 : chkR 89 168 24 = true := by decide +kernel
set_option maxRecDepth 100000 in
theorem ck_89_192 : chkR 89 192 24 = true := by decide +kernel
set_option maxRecDepth 100000 in
theorem ck_89_216 : chkR 89 216 12 = true := by decide +kernel
theorem ck_89 : ∀ i, i < 228 → chk 89 i = true := by
  intro i hi
  by_cases h0 : i < 24
  · exact chkR_at ck_89_0 (by omega) (by omega)
  by_cases h24 : i < 48
  · exact chkR_at ck_89_24 (by omega) (by omega)
  by_cases h48 : i < 72
  · exact chkR_at ck_89_48 (by omega) (by omega)
  by_cases h72 : i < 96
  · exact chkR_at ck_89_72 (by omega) (by omega)
  by_cases h96 : i < 120
  · exact chkR_at ck_89_96 (by omega) (by omega)
  by_cases h120 : i < 144
  · exact chkR_at ck_89_120 (by omega) (by omega)
  by_cases h144 : i < 168
  · exact chkR_at ck_89_144 (by omega) (by omega)
  by_cases h168 : i < 192
  · exact chkR_at ck_89_168 (by omega) (by omega)
  by_cases h192 : i < 216
  · exact chkR_at ck_89_192 (by omega) (by omega)
  exact chkR_at ck_89_216 (by omega) (by omega)
set_option maxRecDepth 100000 in
theorem ck_90_0 : chkR 90 0 24 = true := by decide +kernel
set_option maxRecDepth 100000 in
theorem ck_90_24 : chkR 90 24 9 = true := by decide +kernel
theorem ck_90 : ∀ i, i < 33 → chk 90 i = true := by
  intro i hi
  by_cases h0 : i < 24
  · exact chkR_at ck_90_0 (by omega) (by omega)
  exact chkR_at ck_90_24 (by omega) (by omega)
set_option maxRecDepth 100000 in
theorem ck_91_0 : chkR 91 0 24 = true := by decide +kernel
set_option maxRecDepth 100000 in
theorem ck_91_24 : chkR 91 24 24 = true := by decide +kernel
set_option maxRecDepth 100000 in
theorem ck_91_48 : chkR 91 48 24 = true := by decide +kernel
set_option maxRecDepth 100000 in
theorem ck_91_72 : chkR 91 72 23 = true := by decide +kernel
theorem ck_91 : ∀ i, i < 95 → chk 91 i = true := by
  intro i hi
  by_cases h0 : i < 24
  · exact chkR_at ck_91_0 (by omega) (by omega)
  by_cases h24 : i < 48
  · exact chkR_at ck_91_24 (by omega) (by omega)
  by_cases h48 : i < 72
  · exact chkR_at ck_91_48 (by omega) (by omega)
  exact chkR_at ck_91_72 (by omega) (by omega)
set_option maxRecDepth 100000 in
theorem ck_92_0 : chkR 92 0 24 = true := by decide +kernel
set_option maxRecDepth 100000 in
theorem ck_92_24 : chkR 92 24 24 = true := by decide +kernel
set_option maxRecDepth 100000 in
theorem ck_92_48 : chkR 92 48 24 = true := by decide +kernel
set_option maxRecDepth 100000 in
theorem ck_92_72 : chkR 92 72 24 = true := by decide +kernel
set_option maxRecDepth 100000 in
theorem ck_92_96 : chkR 92 96 24 = true := by decide +kernel
set_option maxRecDepth 100000 in
theorem ck_92_120 : chkR 92 120 24 = true := by decide +kernel
set_option maxRecDepth 100000 in
theorem ck_92_144 : chkR 92 144 23 = true := by decide +kernel
theorem ck_92 : ∀ i, i < 167 → chk 92 i = true := by
  intro i hi
  by_cases h0 : i < 24
  · exact chkR_at ck_92_0 (by omega) (by omega)
  by_cases h24 : i < 48
  · exact chkR_at ck_92_24 (by omega) (by omega)
  by_cases h48 : i < 72
  · exact chkR_at ck_92_48 (by omega) (by omega)
  by_cases h72 : i < 96
  · exact chkR_at ck_92_72 (by omega) (by omega)
  by_cases h96 : i < 120
  · exact chkR_at ck_92_96 (by omega) (by omega)
  by_cases h120 : i < 144
  · exact chkR_at ck_92_120 (by omega) (by omega)
  exact chkR_at ck_92_144 (by omega) (by omega)
set_option maxRecDepth 100000 in
theorem ck_93_0 : chkR 93 0 24 = true := by decide +kernel
set_option maxRecDepth 100000 in
theorem ck_93_24 : chkR 93 24 5 = true := by decide +kernel
theorem ck_93 : ∀ i, i < 29 → chk 93 i = true := by
  intro i hi
  by_cases h0 : i < 24
  · exact chkR_at ck_93_0 (by omega) (by omega)
  exact chkR_at ck_93_24 (by omega) (by omega)
set_option maxRecDepth 100000 in
theorem ck_94_0 : chkR 94 0 24 = true := by decide +kernel
set_option maxRecDepth 100000 in
theorem ck_94_24 : chkR 94 24 24 = true := by decide +kernel
set_option maxRecDepth 100000 in
theorem ck_94_48 : chkR 94 48 19 = true := by decide +kernel
theorem ck_94 : ∀ i, i < 67 → chk 94 i = true := by
  intro i hi
  by_cases h0 : i < 24
  · exact chkR_at ck_94_0 (by omega) (by omega)
  by_cases h24 : i < 48
  · exact chkR_at ck_94_24 (by omega) (by omega)
  exact chkR_at ck_94_48 (by omega) (by omega)
set_option maxRecDepth 100000 in
theorem ck_95_0 : chkR 95 0 24 = true := by decide +kernel
set_option maxRecDepth 100000 in
theorem ck_95_24 : chkR 95 24 24 = true := by decide +kernel
set_option maxRecDepth 100000 in
theorem ck_95_48 : chkR 95 48 24 = true := by decide +kernel
set_option maxRecDepth 100000 in
theorem ck_95_72 : chkR 95 72 24 = true := by decide +kernel
set_option maxRecDepth 100000 in
theorem ck_95_96 : chkR 95 96 24 = true := by decide +kernel
set_option maxRecDepth 100000 in
theorem ck_95_120 : chkR 95 120 24 = true := by decide +kernel
set_option maxRecDepth 100000 in
theorem ck_95_144 : chkR 95 144 24 = true := by decide +kernel
set_option maxRecDepth 100000 in
theorem ck_95_168 : chkR 95 168 24 = true := by decide +kernel
set_option maxRecDepth 100000 in
theorem ck_95_192 : chkR 95 192 24 = true := by decide +kernel
set_option maxRecDepth 100000 in
theorem ck_95_216 : chkR 95 216 24 = true := by decide +kernel
set_option maxRecDepth 100000 in
theorem ck_95_240 : chkR 95 240 6 = true := by decide +kernel
theorem ck_95 : ∀ i, i < 246 → chk 95 i = true := by
  intro i hi
  by_cases h0 : i < 24
  · exact chkR_at ck_95_0 (by omega) (by omega)
  by_cases h24 : i < 48
  · exact chkR_at ck_95_24 (by omega) (by omega)
  by_cases h48 : i < 72
  · exact chkR_at ck_95_48 (by omega) (by omega)
  by_cases h72 : i < 96
  · exact chkR_at ck_95_72 (by omega) (by omega)
  by_cases h96 : i < 120
  · exact chkR_at ck_95_96 (by omega) (by omega)
  by_cases h120 : i < 144
  · exact chkR_at ck_95_120 (by omega) (by omega)
  by_cases h144 : i < 168
  · exact chkR_at ck_95_144 (by omega) (by omega)
  by_cases h168 : i < 192
  · exact chkR_at ck_95_168 (by omega) (by omega)
  by_cases h192 : i < 216
  · exact chkR_at ck_95_192 (by omega) (by omega)
  by_cases h216 : i < 240
  · exact chkR_at ck_95_216 (by omega) (by omega)
  exact chkR_at ck_95_240 (by omega) (by omega)
set_option maxRecDepth 100000 in
theorem ck_96_0 : chkR 96 0 24 = true := by decide +kernel
set_option maxRecDepth 100000 in
theorem ck_96_24 : chkR 96 24 24 = true := by decide +kernel
set_option maxRecDepth 100000 in
theorem ck_96_48 : chkR 96 48 24 = true := by decide +kernel
set_option maxRecDepth 100000 in
theorem ck_96_72 : chkR 96 72 24 = true := by decide +kernel
set_option maxRecDepth 100000 in
theorem ck_96_96 : chkR 96 96 24 = true := by decide +kernel
set_option maxRecDepth 100000 in
theorem ck_96_120 : chkR 96 120 24 = true := by decide +kernel
set_option maxRecDepth 100000 in
theorem ck_96_144 : chkR 96 144 24 = true := by decide +kernel
set_option maxRecDepth 100000 in
theorem ck_96_168 : chkR 96 168 24 = true := by decide +kernel
set_option maxRecDepth 100000 in
theorem ck_96_192 : chkR 96 192 24 = true := by decide +kernel
set_option maxRecDepth 100000 in
theorem ck_96_216 : chkR 96 216 24 = true := by decide +kernel
set_option maxRecDepth 100000 in
theorem ck_96_240 : chkR 96 240 24 = true := by decide +kernel
set_option maxRecDepth 100000 in
theorem ck_96_264 : chkR 96 264 24 = true := by decide +kernel
set_option maxRecDepth 100000 in
theorem ck_96_288 : chkR 96 288 24 = true := by decide +kernel
set_option maxRecDepth 100000 in
theorem ck_96_312 : chkR 96 312 24 = true := by decide +kernel
set_option maxRecDepth 100000 in
theorem ck_96_336 : chkR 96 336 24 = true := by decide +kernel
set_option maxRecDepth 100000 in
theorem ck_96_360 : chkR 96 360 24 = true := by decide +kernel
set_option maxRecDepth 100000 in
theorem ck_96_384 : chkR 96 384 24 = true := by decide +kernel
set_option maxRecDepth 100000 in
theorem ck_96_408 : chkR 96 408 24 = true := by decide +kernel
set_option maxRecDepth 100000 in
theorem ck_96_432 : chkR 96 432 24 = true := by decide +kernel
set_option maxRecDepth 100000 in
theorem ck_96_456 : chkR 96 456 24 = true := by decide +kernel
set_option maxRecDepth 100000 in
theorem ck_96_480 : chkR 96 480 2 = true := by decide +kernel
theorem ck_96 : ∀ i, i < 482 → chk 96 i = true := by
  intro i hi
  by_cases h0 : i < 24
  · exact chkR_at ck_96_0 (by omega) (by omega)
  by_cases h24 : i < 48
  · exact chkR_at ck_96_24 (by omega) (by omega)
  by_cases h48 : i < 72
  · exact chkR_at ck_96_48 (by omega) (by omega)
  by_cases h72 : i < 96
  · exact chkR_at ck_96_72 (by omega) (by omega)
  by_cases h96 : i < 120
  · exact chkR_at ck_96_96 (by omega) (by omega)
  by_cases h120 : i < 144
  · exact chkR_at ck_96_120 (by omega) (by omega)
  by_cases h144 : i < 168
  · exact chkR_at ck_96_144 (by omega) (by omega)
  by_cases h168 : i < 192
  · exact chkR_at ck_96_168 (by omega) (by omega)
  by_cases h192 : i < 216
  · exact chkR_at ck_96_192 (by omega) (by omega)
  by_cases h216 : i < 240
  · exact chkR_at ck_96_216 (by omega) (by omega)
  by_cases h240 : i < 264
  · exact chkR_at ck_96_240 (by omega) (by omega)
  by_cases h264 : i < 288
  · exact chkR_at ck_96_264 (by omega) (by omega)
  by_cases h288 : i < 312
  · exact chkR_at ck_96_288 (by omega) (by omega)
  by_cases h312 : i < 336
  · exact chkR_at ck_96_312 (by omega) (by omega)
  by_cases h336 : i < 360
  · exact chkR_at ck_96_336 (by omega) (by omega)
  by_cases h360 : i < 384
  · exact chkR_at ck_96_360 (by omega) (by omega)
  by_cases h384 : i < 408
  · exact chkR_at ck_96_384 (by omega) (by omega)
  by_cases h408 : i < 432
  · exact chkR_at ck_96_408 (by omega) (by omega)
  by_cases h432 : i < 456
  · exact chkR_at ck_96_432 (by omega) (by omega)
  by_cases h456 : i < 480
  · exact chkR_at ck_96_456 (by omega) (by omega)
  exact chkR_at ck_96_480 (by omega) (by omega)
set_option maxRecDepth 100000 in
theorem ck_97_0 : chkR 97 0 24 = true := by decide +kernel
set_option maxRecDepth 100000 in
theorem ck_97_24 : chkR 97 24 24 = true := by decide +kernel
set_option maxRecDepth 100000 in
theorem ck_97_48 : chkR 97 48 24 = true := by decide +kernel
set_option maxRecDepth 100000 in
theorem ck_97_72 : chkR 97 72 24 = true := by decide +kernel
set_option maxRecDepth 100000 in
theorem ck_97_96 : chkR 97 96 24 = true := by decide +kernel
set_option maxRecDepth 100000 in
theorem ck_97_120 : chkR 97 120 24 = true := by decide +kernel
set_option maxRecDepth 100000 in
theorem ck_97_144 : chkR 97 144 14 = true := by decide +kernel
theorem ck_97 : ∀ i, i < 158 → chk 97 i = true := by
  intro i hi
  by_cases h0 : i < 24
  · exact chkR_at ck_97_0 (by omega) (by omega)
  by_cases h24 : i < 48
  · exact chkR_at ck_97_24 (by omega) (by omega)
  by_cases h48 : i < 72
  · exact chkR_at ck_97_48 (by omega) (by omega)
  by_cases h72 : i < 96
  · exact chkR_at ck_97_72 (by omega) (by omega)
  by_cases h96 : i < 120
  · exact chkR_at ck_97_96 (by omega) (by omega)
  by_cases h120 : i < 144
  · exact chkR_at ck_97_120 (by omega) (by omega)
  exact chkR_at ck_97_144 (by omega) (by omega)
set_option maxRecDepth 100000 in
theorem ck_98_0 : chkR 98 0 24 = true := by decide +kernel
set_option maxRecDepth 100000 in
theorem ck_98_24 : chkR 98 24 24 = true := by decide +kernel
set_option maxRecDepth 100000 in
theorem ck_98_48 : chkR 98 48 24 = true := by decide +kernel
set_option maxRecDepth 100000 in
theorem ck_98_72 : chkR 98 72 24 = true := by decide +kernel
set_option maxRecDepth 100000 in
theorem ck_98_96 : chkR 98 96 24 = true := by decide +kernel
set_option maxRecDepth 100000 in
theorem ck_98_120 : chkR 98 120 24 = true := by decide +kernel
set_option maxRecDepth 100000 in
theorem ck_98_144 : chkR 98 144 24 = true := by decide +kernel
set_option maxRecDepth 100000 in
theorem ck_98_168 : chkR 98 168 24 = true := by decide +kernel
set_option maxRecDepth 100000 in
theorem ck_98_192 : chkR 98 192 24 = true := by decide +kernel
set_option maxRecDepth 100000 in
theorem ck_98_216 : chkR 98 216 24 = true := by decide +kernel
set_option maxRecDepth 100000 in
theorem ck_98_240 : chkR 98 240 24 = true := by decide +kernel
set_option maxRecDepth 100000 in
theorem ck_98_264 : chkR 98 264 24 = true := by decide +kernel
set_option maxRecDepth 100000 in
theorem ck_98_288 : chkR 98 288 24 = true := by decide +kernel
set_option maxRecDepth 100000 in
theorem ck_98_312 : chkR 98 312 24 = true := by decide +kernel
set_option maxRecDepth 100000 in
theorem ck_98_336 : chkR 98 336 2 = true := by decide +kernel
theorem ck_98 : ∀ i, i < 338 → chk 98 i = true := by
  intro i hi
  by_cases h0 : i < 24
  · exact chkR_at ck_98_0 (by omega) (by omega)
  by_cases h24 : i < 48
  · exact chkR_at ck_98_24 (by omega) (by omega)
  by_cases h48 : i < 72
  · exact chkR_at ck_98_48 (by omega) (by omega)
  by_cases h72 : i < 96
  · exact chkR_at ck_98_72 (by omega) (by omega)
  by_cases h96 : i < 120
  · exact chkR_at ck_98_96 (by omega) (by omega)
  by_cases h120 : i < 144
  · exact chkR_at ck_98_120 (by omega) (by omega)
  by_cases h144 : i < 168
  · exact chkR_at ck_98_144 (by omega) (by omega)
  by_cases h168 : i < 192
  · exact chkR_at ck_98_168 (by omega) (by omega)
  by_cases h192 : i < 216
  · exact chkR_at ck_98_192 (by omega) (by omega)
  by_cases h216 : i < 240
  · exact chkR_at ck_98_216 (by omega) (by omega)
  by_cases h240 : i < 264
  · exact chkR_at ck_98_240 (by omega) (by omega)
  by_cases h264 : i < 288
  · exact chkR_at ck_98_264 (by omega) (by omega)
  by_cases h288 : i < 312
  · exact chkR_at ck_98_288 (by omega) (by omega)
  by_cases h312 : i < 336
  · exact chkR_at ck_98_312 (by omega) (by omega)
  exact chkR_at ck_98_336 (by omega) (by omega)
set_option maxRecDepth 100000 in
theorem ck_99_0 : chkR 99 0 24 = true := by decide +kernel
set_option maxRecDepth 100000 in
theorem ck_99_24 : chkR 99 24 24 = true := by decide +kernel
set_option maxRecDepth 100000 in
theorem ck_99_48 : chkR 99 48 24 = true := by decide +kernel
set_option maxRecDepth 100000 in
theorem ck_99_72 : chkR 99 72 24 = true := by decide +kernel
set_option maxRecDepth 100000 in
theorem ck_99_96 : chkR 99 96 24 = true := by decide +kernel
set_option maxRecDepth 100000 in
theorem ck_99_120 : chkR 99 120 24 = true := by decide +kernel
set_option maxRecDepth 100000 in
theorem ck_99_144 : chkR 99 144 3 = true := by decide +kernel
theorem ck_99 : ∀ i, i < 147 → chk 99 i = true := by
  intro i hi
  by_cases h0 : i < 24
  · exact chkR_at ck_99_0 (by omega) (by omega)
  by_cases h24 : i < 48
  · exact chkR_at ck_99_24 (by omega) (by omega)
  by_cases h48 : i < 72
  · exact chkR_at ck_99_48 (by omega) (by omega)
  by_cases h72 : i < 96
  · exact chkR_at ck_99_72 (by omega) (by omega)
  by_cases h96 : i < 120
  · exact chkR_at ck_99_96 (by omega) (by omega)
  by_cases h120 : i < 144
  · exact chkR_at ck_99_120 (by omega) (by omega)
  exact chkR_at ck_99_144 (by omega) (by omega)
set_option maxRecDepth 100000 in
theorem ck_100_0 : chkR 100 0 24 = true := by decide +kernel
set_option maxRecDepth 100000 in
theorem ck_100_24 : chkR 100 24 24 = true := by decide +kernel
set_option maxRecDepth 100000 in
theorem ck_100_48 : chkR 100 48 24 = true := by decide +kernel
set_option maxRecDepth 100000 in
theorem ck_100_72 : chkR 100 72 24 = true := by decide +kernel
set_option maxRecDepth 100000 in
theorem ck_100_96 : chkR 100 96 24 = true := by decide +kernel
set_option maxRecDepth 100000 in
theorem ck_100_120 : chkR 100 120 24 = true := by decide +kernel
set_option maxRecDepth 100000 in
theorem ck_100_144 : chkR 100 144 24 = true := by decide +kernel
set_option maxRecDepth 100000 in
theorem ck_100_168 : chkR 100 168 24 = true := by decide +kernel
set_option maxRecDepth 100000 in
theorem ck_100_192 : chkR 100 192 24 = true := by decide +kernel
set_option maxRecDepth 100000 in
theorem ck_100_216 : chkR 100 216 4 = true := by decide +kernel
theorem ck_100 : ∀ i, i < 220 → chk 100 i = true := by
  intro i hi
  by_cases h0 : i < 24
  · exact chkR_at ck_100_0 (by omega) (by omega)
  by_cases h24 : i < 48
  · exact chkR_at ck_100_24 (by omega) (by omega)
  by_cases h48 : i < 72
  · exact chkR_at ck_100_48 (by omega) (by omega)
  by_cases h72 : i < 96
  · exact chkR_at ck_100_72 (by omega) (by omega)
  by_cases h96 : i < 120
  · exact chkR_at ck_100_96 (by omega) (by omega)
  by_cases h120 : i < 144
  · exact chkR_at ck_100_120 (by omega) (by omega)
  by_cases h144 : i < 168
  · exact chkR_at ck_100_144 (by omega) (by omega)
  by_cases h168 : i < 192
  · exact chkR_at ck_100_168 (by omega) (by omega)
  by_cases h192 : i < 216
  · exact chkR_at ck_100_192 (by omega) (by omega)
  exact chkR_at ck_100_216 (by omega) (by omega)
set_option maxRecDepth 100000 in
theorem ck_101_0 : chkR 101 0 12 = true := by decide +kernel
theorem ck_101 : ∀ i, i < 12 → chk 101 i = true := by
  intro i hi
  exact chkR_at ck_101_0 (by omega) (by omega)
set_option maxRecDepth 100000 in
theorem ck_102_0 : chkR 102 0 3 = true := by decide +kernel
theorem ck_102 : ∀ i, i < 3 → chk 102 i = true := by
  intro i hi
  exact chkR_at ck_102_0 (by omega) (by omega)
