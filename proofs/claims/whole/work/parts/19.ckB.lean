set_option maxRecDepth 100000 in
def ck_74_0 : chkR 74 0 3 = true := by decide +kernel
theorem ck_74 : ∀ i, i < 3 → chk 74 i = true := by
  intro i hi
  exact chkR_at ck_74_0 (by omega) (by omega)
set_option maxRecDepth 100000 in
def ck_75_0 : chkR 75 0 10 = true := by decide +kernel
theorem ck_75 : ∀ i, i < 10 → chk 75 i = true := by
  intro i hi
  exact chkR_at ck_75_0 (by omega) (by omega)
set_option maxRecDepth 100000 in
def ck_76_0 : chkR 76 0 22 = true := by decide +kernel
theorem ck_76 : ∀ i, i < 22 → chk 76 i = true := by
  intro i hi
  exact chkR_at ck_76_0 (by omega) (by omega)
set_option maxRecDepth 100000 in
def ck_77_0 : chkR 77 0 5 = true := by decide +kernel
theorem ck_77 : ∀ i, i < 5 → chk 77 i = true := by
  intro i hi
  exact chkR_at ck_77_0 (by omega) (by omega)
set_option maxRecDepth 100000 in
def ck_78_0 : chkR 78 0 8 = true := by decide +kernel
theorem ck_78 : ∀ i, i < 8 → chk 78 i = true := by
  intro i hi
  exact chkR_at ck_78_0 (by omega) (by omega)
set_option maxRecDepth 100000 in
def ck_79_0 : chkR 79 0 8 = true := by decide +kernel
theorem ck_79 : ∀ i, i < 8 → chk 79 i = true := by
  intro i hi
  exact chkR_at ck_79_0 (by omega) (by omega)
set_option maxRecDepth 100000 in
def ck_80_0 : chkR 80 0 19 = true := by decide +kernel
theorem ck_80 : ∀ i, i < 19 → chk 80 i = true := by
  intro i hi
  exact chkR_at ck_80_0 (by omega) (by omega)
set_option maxRecDepth 100000 in
def ck_81_0 : chkR 81 0 13 = true := by decide +kernel
theorem ck_81 : ∀ i, i < 13 → chk 81 i = true := by
  intro i hi
  exact chkR_at ck_81_0 (by omega) (by omega)
set_option maxRecDepth 100000 in
def ck_82_0 : chkR 82 0 10 = true := by decide +kernel
theorem ck_82 : ∀ i, i < 10 → chk 82 i = true := by
  intro i hi
  exact chkR_at ck_82_0 (by omega) (by omega)
set_option maxRecDepth 100000 in
def ck_83_0 : chkR 83 0 24 = true := by decide +kernel
set_option maxRecDepth 100000 in
def ck_83_24 : chkR 83 24 24 = true := by decide +kernel
set_option maxRecDepth 100000 in
def ck_83_48 : chkR 83 48 12 = true := by decide +kernel
theorem ck_83 : ∀ i, i < 60 → chk 83 i = true := by
  intro i hi
  by_cases h0 : i < 24
  · exact chkR_at ck_83_0 (by omega) (by omega)
  by_cases h24 : i < 48
  · exact chkR_at ck_83_24 (by omega) (by omega)
  exact chkR_at ck_83_48 (by omega) (by omega)
set_option maxRecDepth 100000 in
def ck_84_0 : chkR 84 0 24 = true := by decide +kernel
set_option maxRecDepth 100000 in
def ck_84_24 : chkR 84 24 1 = true := by decide +kernel
theorem ck_84 : ∀ i, i < 25 → chk 84 i = true := by
  intro i hi
  by_cases h0 : i < 24
  · exact chkR_at ck_84_0 (by omega) (by omega)
  exact chkR_at ck_84_24 (by omega) (by omega)
set_option maxRecDepth 100000 in
def ck_85_0 : chkR 85 0 24 = true := by decide +kernel
set_option maxRecDepth 100000 in
def ck_85_24 : chkR 85 24 24 = true := by decide +kernel
set_option maxRecDepth 100000 in
def ck_85_48 : chkR 85 48 4 = true := by decide +kernel
theorem ck_85 : ∀ i, i < 52 → chk 85 i = true := by
  intro i hi
  by_cases h0 : i < 24
  · exact chkR_at ck_85_0 (by omega) (by omega)
  by_cases h24 : i < 48
  · exact chkR_at ck_85_24 (by omega) (by omega)
  exact chkR_at ck_85_48 (by omega) (by omega)
set_option maxRecDepth 100000 in
def ck_86_0 : chkR 86 0 24 = true := by decide +kernel
set_option maxRecDepth 100000 in
def ck_86_24 : chkR 86 24 1 = true := by decide +kernel
theorem ck_86 : ∀ i, i < 25 → chk 86 i = true := by
  intro i hi
  by_cases h0 : i < 24
  · exact chkR_at ck_86_0 (by omega) (by omega)
  exact chkR_at ck_86_24 (by omega) (by omega)
set_option maxRecDepth 100000 in
def ck_87_0 : chkR 87 0 20 = true := by decide +kernel
theorem ck_87 : ∀ i, i < 20 → chk 87 i = true := by
  intro i hi
  exact chkR_at ck_87_0 (by omega) (by omega)
set_option maxRecDepth 100000 in
def ck_88_0 : chkR 88 0 21 = true := by decide +kernel
theorem ck_88 : ∀ i, i < 21 → chk 88 i = true := by
  intro i hi
  exact chkR_at ck_88_0 (by omega) (by omega)
set_option maxRecDepth 100000 in
def ck_89_0 : chkR 89 0 24 = true := by decide +kernel
set_option maxRecDepth 100000 in
def ck_89_24 : chkR 89 24 10 = true := by decide +kernel
theorem ck_89 : ∀ i, i < 34 → chk 89 i = true := by
  intro i hi
  by_cases h0 : i < 24
  · exact chkR_at ck_89_0 (by omega) (by omega)
  exact chkR_at ck_89_24 (by omega) (by omega)
set_option maxRecDepth 100000 in
def ck_90_0 : chkR 90 0 24 = true := by decide +kernel
set_option maxRecDepth 100000 in
def ck_90_24 : chkR 90 24 10 = true := by decide +kernel
theorem ck_90 : ∀ i, i < 34 → chk 90 i = true := by
  intro i hi
  by_cases h0 : i < 24
  · exact chkR_at ck_90_0 (by omega) (by omega)
  exact chkR_at ck_90_24 (by omega) (by omega)
set_option maxRecDepth 100000 in
def ck_91_0 : chkR 91 0 22 = true := by decide +kernel
theorem ck_91 : ∀ i, i < 22 → chk 91 i = true := by
  intro i hi
  exact chkR_at ck_91_0 (by omega) (by omega)
set_option maxRecDepth 100000 in
def ck_92_0 : chkR 92 0 24 = true := by decide +kernel
set_option maxRecDepth 100000 in
def ck_92_24 : chkR 92 24 24 = true := by decide +kernel
set_option maxRecDepth 100000 in
def ck_92_48 : chkR 92 48 24 = true := by decide +kernel
set_option maxRecDepth 100000 in
def ck_92_72 : chkR 92 72 24 = true := by decide +kernel
set_option maxRecDepth 100000 in
def ck_92_96 : chkR 92 96 7 = true := by decide +kernel
theorem ck_92 : ∀ i, i < 103 → chk 92 i = true := by
  intro i hi
  by_cases h0 : i < 24
  · exact chkR_at ck_92_0 (by omega) (by omega)
  by_cases h24 : i < 48
  · exact chkR_at ck_92_24 (by omega) (by omega)
  by_cases h48 : i < 72
  · exact chkR_at ck_92_48 (by omega) (by omega)
  by_cases h72 : i < 96
  · exact chkR_at ck_92_72 (by omega) (by omega)
  exact chkR_at ck_92_96 (by omega) (by omega)
set_option maxRecDepth 100000 in
def ck_93_0 : chkR 93 0 24 = true := by decide +kernel
set_option maxRecDepth 100000 in
def ck_93_24 : chkR 93 24 24 = true := by decide +kernel
set_option maxRecDepth 100000 in
def ck_93_48 : chkR 93 48 24 = true := by decide +kernel
set_option maxRecDepth 100000 in
def ck_93_72 : chkR 93 72 24 = true := by decide +kernel
set_option maxRecDepth 100000 in
def ck_93_96 : chkR 93 96 24 = true := by decide +kernel
set_option maxRecDepth 100000 in
def ck_93_120 : chkR 93 120 24 = true := by decide +kernel
set_option maxRecDepth 100000 in
def ck_93_144 : chkR 93 144 12 = true := by decide +kernel
theorem ck_93 : ∀ i, i < 156 → chk 93 i = true := by
  intro i hi
  by_cases h0 : i < 24
  · exact chkR_at ck_93_0 (by omega) (by omega)
  by_cases h24 : i < 48
  · exact chkR_at ck_93_24 (by omega) (by omega)
  by_cases h48 : i < 72
  · exact chkR_at ck_93_48 (by omega) (by omega)
  by_cases h72 : i < 96
  · exact chkR_at ck_93_72 (by omega) (by omega)
  by_cases h96 : i < 120
  · exact chkR_at ck_93_96 (by omega) (by omega)
  by_cases h120 : i < 144
  · exact chkR_at ck_93_120 (by omega) (by omega)
  exact chkR_at ck_93_144 (by omega) (by omega)
set_option maxRecDepth 100000 in
def ck_94_0 : chkR 94 0 24 = true := by decide +kernel
set_option maxRecDepth 100000 in
def ck_94_24 : chkR 94 24 17 = true := by decide +kernel
theorem ck_94 : ∀ i, i < 41 → chk 94 i = true := by
  intro i hi
  by_cases h0 : i < 24
  · exact chkR_at ck_94_0 (by omega) (by omega)
  exact chkR_at ck_94_24 (by omega) (by omega)
set_option maxRecDepth 100000 in
def ck_95_0 : chkR 95 0 24 = true := by decide +kernel
set_option maxRecDepth 100000 in
def ck_95_24 : chkR 95 24 7 = true := by decide +kernel
theorem ck_95 : ∀ i, i < 31 → chk 95 i = true := by
  intro i hi
  by_cases h0 : i < 24
  · exact chkR_at ck_95_0 (by omega) (by omega)
  exact chkR_at ck_95_24 (by omega) (by omega)
set_option maxRecDepth 100000 in
def ck_96_0 : chkR 96 0 24 = true := by decide +kernel
set_option maxRecDepth 100000 in
def ck_96_24 : chkR 96 24 24 = true := by decide +kernel
set_option maxRecDepth 100000 in
def ck_96_48 : chkR 96 48 4 = true := by decide +kernel
theorem ck_96 : ∀ i, i < 52 → chk 96 i = true := by
  intro i hi
  by_cases h0 : i < 24
  · exact chkR_at ck_96_0 (by omega) (by omega)
  by_cases h24 : i < 48
  · exact chkR_at ck_96_24 (by omega) (by omega)
  exact chkR_at ck_96_48 (by omega) (by omega)
set_option maxRecDepth 100000 in
def ck_97_0 : chkR 97 0 24 = true := by decide +kernel
set_option maxRecDepth 100000 in
def ck_97_24 : chkR 97 24 23 = true := by decide +kernel
theorem ck_97 : ∀ i, i < 47 → chk 97 i = true := by
  intro i hi
  by_cases h0 : i < 24
  · exact chkR_at ck_97_0 (by omega) (by omega)
  exact chkR_at ck_97_24 (by omega) (by omega)
set_option maxRecDepth 100000 in
def ck_98_0 : chkR 98 0 21 = true := by decide +kernel
theorem ck_98 : ∀ i, i < 21 → chk 98 i = true := by
  intro i hi
  exact chkR_at ck_98_0 (by omega) (by omega)
set_option maxRecDepth 100000 in
def ck_99_0 : chkR 99 0 24 = true := by decide +kernel
set_option maxRecDepth 100000 in
def ck_99_24 : chkR 99 24 15 = true := by decide +kernel
theorem ck_99 : ∀ i, i < 39 → chk 99 i = true := by
  intro i hi
  by_cases h0 : i < 24
  · exact chkR_at ck_99_0 (by omega) (by omega)
  exact chkR_at ck_99_24 (by omega) (by omega)
set_option maxRecDepth 100000 in
def ck_100_0 : chkR 100 0 24 = true := by decide +kernel
set_option maxRecDepth 100000 in
def ck_100_24 : chkR 100 24 24 = true := by decide +kernel
set_option maxRecDepth 100000 in
def ck_100_48 : chkR 100 48 2 = true := by decide +kernel
theorem ck_100 : ∀ i, i < 50 → chk 100 i = true := by
  intro i hi
  by_cases h0 : i < 24
  · exact chkR_at ck_100_0 (by omega) (by omega)
  by_cases h24 : i < 48
  · exact chkR_at ck_100_24 (by omega) (by omega)
  exact chkR_at ck_100_48 (by omega) (by omega)
set_option maxRecDepth 100000 in
def ck_101_0 : chkR 101 0 24 = true := by decide +kernel
set_option maxRecDepth 100000 in
def ck_101_24 : chkR 101 24 10 = true := by decide +kernel
theorem ck_101 : ∀ i, i < 34 → chk 101 i = true := by
  intro i hi
  by_cases h0 : i < 24
  · exact chkR_at ck_101_0 (by omega) (by omega)
  exact chkR_at ck_101_24 (by omega) (by omega)
set_option maxRecDepth 100000 in
def ck_102_0 : chkR 102 0 24 = true := by decide +kernel
set_option maxRecDepth 100000 in
def ck_102_24 : chkR 102 24 24 = true := by decide +kernel
set_option maxRecDepth 100000 in
def ck_102_48 : chkR 102 48 24 = true := by decide +kernel
set_option maxRecDepth 100000 in
def ck_102_72 : chkR 102 72 24 = true := by decide +kernel
set_option maxRecDepth 100000 in
def ck_102_96 : chkR 102 96 24 = true := by decide +kernel
set_option maxRecDepth 100000 in
def ck_102_120 : chkR 102 120 5 = true := by decide +kernel
theorem ck_102 : ∀ i, i < 125 → chk 102 i = true := by
  intro i hi
  by_cases h0 : i < 24
  · exact chkR_at ck_102_0 (by omega) (by omega)
  by_cases h24 : i < 48
  · exact chkR_at ck_102_24 (by omega) (by omega)
  by_cases h48 : i < 72
  · exact chkR_at ck_102_48 (by omega) (by omega)
  by_cases h72 : i < 96
  · exact chkR_at ck_102_72 (by omega) (by omega)
  by_cases h96 : i < 120
  · exact chkR_at ck_102_96 (by omega) (by omega)
  exact chkR_at ck_102_120 (by omega) (by omega)
set_option maxRecDepth 100000 in
def ck_103_0 : chkR 103 0 24 = true := by decide +kernel
set_option maxRecDepth 100000 in
def ck_103_24 : chkR 103 24 24 = true := by decide +kernel
set_option maxRecDepth 100000 in
def ck_103_48 : chkR 103 48 24 = true := by decide +kernel
set_option maxRecDepth 100000 in
def ck_103_72 : chkR 103 72 16 = true := by decide +kernel
theorem ck_103 : ∀ i, i < 88 → chk 103 i = true := by
  intro i hi
  by_cases h0 : i < 24
  · exact chkR_at ck_103_0 (by omega) (by omega)
  by_cases h24 : i < 48
  · exact chkR_at ck_103_24 (by omega) (by omega)
  by_cases h48 : i < 72
  · exact chkR_at ck_103_48 (by omega) (by omega)
  exact chkR_at ck_103_72 (by omega) (by omega)
set_option maxRecDepth 100000 in
def ck_104_0 : chkR 104 0 20 = true := by decide +kernel
theorem ck_104 : ∀ i, i < 20 → chk 104 i = true := by
  intro i hi
  exact chkR_at ck_104_0 (by omega) (by omega)
set_option maxRecDepth 100000 in
def ck_105_0 : chkR 105 0 24 = true := by decide +kernel
set_option maxRecDepth 100000 in
def ck_105_24 : chkR 105 24 24 = true := by decide +kernel
set_option maxRecDepth 100000 in
def ck_105_48 : chkR 105 48 24 = true := by decide +kernel
set_option maxRecDepth 100000 in
def ck_105_72 : chkR 105 72 24 = true := by decide +kernel
set_option maxRecDepth 100000 in
def ck_105_96 : chkR 105 96 11 = true := by decide +kernel
theorem ck_105 : ∀ i, i < 107 → chk 105 i = true := by
  intro i hi
  by_cases h0 : i < 24
  · exact chkR_at ck_105_0 (by omega) (by omega)
  by_cases h24 : i < 48
  · exact chkR_at ck_105_24 (by omega) (by omega)
  by_cases h48 : i < 72
  · exact chkR_at ck_105_48 (by omega) (by omega)
  by_cases h72 : i < 96
  · exact chkR_at ck_105_72 (by omega) (by omega)
  exact chkR_at ck_105_96 (by omega) (by omega)
set_option maxRecDepth 100000 in
def ck_106_0 : chkR 106 0 12 = true := by decide +kernel
theorem ck_106 : ∀ i, i < 12 → chk 106 i = true := by
  intro i hi
  exact chkR_at ck_106_0 (by omega) (by omega)
set_option maxRecDepth 100000 in
def ck_107_0 : chkR 107 0 3 = true := by decide +kernel
theorem ck_107 : ∀ i, i < 3 → chk 107 i = true := by
  intro i hi
  exact chkR_at ck_107_0 (by omega) (by omega)
set_option maxRecDepth 100000 in
def ck_108_0 : chkR 108 0 24 = true := by decide +kernel
set_option maxRecDepth 100000 in
def ck_108_24 : chkR 108 24 7 = true := by decide +kernel
theorem ck_108 : ∀ i, i < 31 → chk 108 i = true := by
  intro i hi
  by_cases h0 : i < 24
  · exact chkR_at ck_108_0 (by omega) (by omega)
  exact chkR_at ck_108_24 (by omega) (by omega)
set_option maxRecDepth 100000 in
def ck_109_0 : chkR 109 0 24 = true := by decide +kernel
set_option maxRecDepth 100000 in
def ck_109_24 : chkR 109 24 24 = true := by decide +kernel
set_option maxRecDepth 100000 in
def ck_109_48 : chkR 109 48 23 = true := by decide +kernel
theorem ck_109 : ∀ i, i < 71 → chk 109 i = true := by
  intro i hi
  by_cases h0 : i < 24
  · exact chkR_at ck_109_0 (by omega) (by omega)
  by_cases h24 : i < 48
  · exact chkR_at ck_109_24 (by omega) (by omega)
  exact chkR_at ck_109_48 (by omega) (by omega)
set_option maxRecDepth 100000 in
def ck_110_0 : chkR 110 0 24 = true := by decide +kernel
set_option maxRecDepth 100000 in
def ck_110_24 : chkR 110 24 11 = true := by decide +kernel
theorem ck_110 : ∀ i, i < 35 → chk 110 i = true := by
  intro i hi
  by_cases h0 : i < 24
  · exact chkR_at ck_110_0 (by omega) (by omega)
  exact chkR_at ck_110_24 (by omega) (by omega)
set_option maxRecDepth 100000 in
def ck_111_0 : chkR 111 0 24 = true := by decide +kernel
set_option maxRecDepth 100000 in
def ck_111_24 : chkR 111 24 24 = true := by decide +kernel
set_option maxRecDepth 100000 in
def ck_111_48 : chkR 111 48 17 = true := by decide +kernel
theorem ck_111 : ∀ i, i < 65 → chk 111 i = true := by
  intro i hi
  by_cases h0 : i < 24
  · exact chkR_at ck_111_0 (by omega) (by omega)
  by_cases h24 : i < 48
  · exact chkR_at ck_111_24 (by omega) (by omega)
  exact chkR_at ck_111_48 (by omega) (by omega)
set_option maxRecDepth 100000 in
def ck_112_0 : chkR 112 0 24 = true := by decide +kernel
set_option maxRecDepth 100000 in
def ck_112_24 : chkR 112 24 24 = true := by decide +kernel
set_option maxRecDepth 100000 in
def ck_112_48 : chkR 112 48 24 = true := by decide +kernel
set_option maxRecDepth 100000 in
def ck_112_72 : chkR 112 72 24 = true := by decide +kernel
set_option maxRecDepth 100000 in
def ck_112_96 : chkR 112 96 24 = true := by decide +kernel
set_option maxRecDepth 100000 in
def ck_112_120 : chkR 112 120 24 = true := by decide +kernel
set_option maxRecDepth 100000 in
def ck_112_144 : chkR 112 144 16 = true := by decide +kernel
theorem ck_112 : ∀ i, i < 160 → chk 112 i = true := by
  intro i hi
  by_cases h0 : i < 24
  · exact chkR_at ck_112_0 (by omega) (by omega)
  by_cases h24 : i < 48
  · exact chkR_at ck_112_24 (by omega) (by omega)
  by_cases h48 : i < 72
  · exact chkR_at ck_112_48 (by omega) (by omega)
  by_cases h72 : i < 96
  · exact chkR_at ck_112_72 (by omega) (by omega)
  by_cases h96 : i < 120
  · exact chkR_at ck_112_96 (by omega) (by omega)
  by_cases h120 : i < 144
  · exact chkR_at ck_112_120 (by omega) (by omega)
  exact chkR_at ck_112_144 (by omega) (by omega)
set_option maxRecDepth 100000 in
def ck_113_0 : chkR 113 0 24 = true := by decide +kernel
set_option maxRecDepth 100000 in
def ck_113_24 : chkR 113 24 24 = true := by decide +kernel
set_option maxRecDepth 100000 in
def ck_113_48 : chkR 113 48 18 = true := by decide +kernel
theorem ck_113 : ∀ i, i < 66 → chk 113 i = true := by
  intro i hi
  by_cases h0 : i < 24
  · exact chkR_at ck_113_0 (by omega) (by omega)
  by_cases h24 : i < 48
  · exact chkR_at ck_113_24 (by omega) (by omega)
  exact chkR_at ck_113_48 (by omega) (by omega)
set_option maxRecDepth 100000 in
def ck_114_0 : chkR 114 0 24 = true := by decide +kernel
set_option maxRecDepth 100000 in
def ck_114_24 : chkR 114 24 24 = true := by decide +kernel
set_option maxRecDepth 100000 in
def ck_114_48 : chkR 114 48 24 = true := by decide +kernel
set_option maxRecDepth 100000 in
def ck_114_72 : chkR 114 72 10 = true := by decide +kernel
theorem ck_114 : ∀ i, i < 82 → chk 114 i = true := by
  intro i hi
  by_cases h0 : i < 24
  · exact chkR_at ck_114_0 (by omega) (by omega)
  by_cases h24 : i < 48
  · exact chkR_at ck_114_24 (by omega) (by omega)
  by_cases h48 : i < 72
  · exact chkR_at ck_114_48 (by omega) (by omega)
  exact chkR_at ck_114_72 (by omega) (by omega)
set_option maxRecDepth 100000 in
def ck_115_0 : chkR 115 0 24 = true := by decide +kernel
set_option maxRecDepth 100000 in
def ck_115_24 : chkR 115 24 24 = true := by decide +kernel
set_option maxRecDepth 100000 in
def ck_115_48 : chkR 115 48 24 = true := by decide +kernel
theorem ck_115 : ∀ i, i < 72 → chk 115 i = true := by
  intro i hi
  by_cases h0 : i < 24
  · exact chkR_at ck_115_0 (by omega) (by omega)
  by_cases h24 : i < 48
  · exact chkR_at ck_115_24 (by omega) (by omega)
  exact chkR_at ck_115_48 (by omega) (by omega)
set_option maxRecDepth 100000 in
def ck_116_0 : chkR 116 0 6 = true := by decide +kernel
theorem ck_116 : ∀ i, i < 6 → chk 116 i = true := by
  intro i hi
  exact chkR_at ck_116_0 (by omega) (by omega)
set_option maxRecDepth 100000 in
def ck_117_0 : chkR 117 0 23 = true := by decide +kernel
theorem ck_117 : ∀ i, i < 23 → chk 117 i = true := by
  intro i hi
  exact chkR_at ck_117_0 (by omega) (by omega)
set_option maxRecDepth 100000 in
def ck_118_0 : chkR 118 0 24 = true := by decide +kernel
set_option maxRecDepth 100000 in
def ck_118_24 : chkR 118 24 24 = true := by decide +kernel
set_option maxRecDepth 100000 in
def ck_118_48 : chkR 118 48 9 = true := by decide +kernel
theorem ck_118 : ∀ i, i < 57 → chk 118 i = true := by
  intro i hi
  by_cases h0 : i < 24
  · exact chkR_at ck_118_0 (by omega) (by omega)
  by_cases h24 : i < 48
  · exact chkR_at ck_118_24 (by omega) (by omega)
  exact chkR_at ck_118_48 (by omega) (by omega)
set_option maxRecDepth 100000 in
def ck_119_0 : chkR 119 0 24 = true := by decide +kernel
set_option maxRecDepth 100000 in
def ck_119_24 : chkR 119 24 2 = true := by decide +kernel
theorem ck_119 : ∀ i, i < 26 → chk 119 i = true := by
  intro i hi
  by_cases h0 : i < 24
  · exact chkR_at ck_119_0 (by omega) (by omega)
  exact chkR_at ck_119_24 (by omega) (by omega)
set_option maxRecDepth 100000 in
def ck_120_0 : chkR 120 0 22 = true := by decide +kernel
theorem ck_120 : ∀ i, i < 22 → chk 120 i = true := by
  intro i hi
  exact chkR_at ck_120_0 (by omega) (by omega)
set_option maxRecDepth 100000 in
def ck_121_0 : chkR 121 0 24 = true := by decide +kernel
set_option maxRecDepth 100000 in
def ck_121_24 : chkR 121 24 24 = true := by decide +kernel
set_option maxRecDepth 100000 in
def ck_121_48 : chkR 121 48 10 = true := by decide +kernel
theorem ck_121 : ∀ i, i < 58 → chk 121 i = true := by
  intro i hi
  by_cases h0 : i < 24
  · exact chkR_at ck_121_0 (by omega) (by omega)
  by_cases h24 : i < 48
  · exact chkR_at ck_121_24 (by omega) (by omega)
  exact chkR_at ck_121_48 (by omega) (by omega)
set_option maxRecDepth 100000 in
def ck_122_0 : chkR 122 0 24 = true := by decide +kernel
set_option maxRecDepth 100000 in
def ck_122_24 : chkR 122 24 24 = true := by decide +kernel
set_option maxRecDepth 100000 in
def ck_122_48 : chkR 122 48 1 = true := by decide +kernel
theorem ck_122 : ∀ i, i < 49 → chk 122 i = true := by
  intro i hi
  by_cases h0 : i < 24
  · exact chkR_at ck_122_0 (by omega) (by omega)
  by_cases h24 : i < 48
  · exact chkR_at ck_122_24 (by omega) (by omega)
  exact chkR_at ck_122_48 (by omega) (by omega)
set_option maxRecDepth 100000 in
def ck_123_0 : chkR 123 0 24 = true := by decide +kernel
set_option maxRecDepth 100000 in
def ck_123_24 : chkR 123 24 24 = true := by decide +kernel
set_option maxRecDepth 100000 in
def ck_123_48 : chkR 123 48 4 = true := by decide +kernel
theorem ck_123 : ∀ i, i < 52 → chk 123 i = true := by
  intro i hi
  by_cases h0 : i < 24
  · exact chkR_at ck_123_0 (by omega) (by omega)
  by_cases h24 : i < 48
  · exact chkR_at ck_123_24 (by omega) (by omega)
  exact chkR_at ck_123_48 (by omega) (by omega)
set_option maxRecDepth 100000 in
def ck_124_0 : chkR 124 0 14 = true := by decide +kernel
theorem ck_124 : ∀ i, i < 14 → chk 124 i = true := by
  intro i hi
  exact chkR_at ck_124_0 (by omega) (by omega)
set_option maxRecDepth 100000 in
def ck_125_0 : chkR 125 0 24 = true := by decide +kernel
set_option maxRecDepth 100000 in
def ck_125_24 : chkR 125 24 3 = true := by decide +kernel
theorem ck_125 : ∀ i, i < 27 → chk 125 i = true := by
  intro i hi
  by_cases h0 : i < 24
  · exact chkR_at ck_125_0 (by omega) (by omega)
  exact chkR_at ck_125_24 (by omega) (by omega)
set_option maxRecDepth 100000 in
def ck_126_0 : chkR 126 0 5 = true := by decide +kernel
theorem ck_126 : ∀ i, i < 5 → chk 126 i = true := by
  intro i hi
  exact chkR_at ck_126_0 (by omega) (by omega)
set_option maxRecDepth 100000 in
def ck_127_0 : chkR 127 0 14 = true := by decide +kernel
theorem ck_127 : ∀ i, i < 14 → chk 127 i = true := by
  intro i hi
  exact chkR_at ck_127_0 (by omega) (by omega)
set_option maxRecDepth 100000 in
def ck_131_0 : chkR 131 0 15 = true := by decide +kernel
theorem ck_131 : ∀ i, i < 15 → chk 131 i = true := by
  intro i hi
  exact chkR_at ck_131_0 (by omega) (by omega)
set_option maxRecDepth 100000 in
def ck_132_0 : chkR 132 0 18 = true := by decide +kernel
theorem ck_132 : ∀ i, i < 18 → chk 132 i = true := by
  intro i hi
  exact chkR_at ck_132_0 (by omega) (by omega)
set_option maxRecDepth 100000 in
def ck_133_0 : chkR 133 0 12 = true := by decide +kernel
theorem ck_133 : ∀ i, i < 12 → chk 133 i = true := by
  intro i hi
  exact chkR_at ck_133_0 (by omega) (by omega)
set_option maxRecDepth 100000 in
def ck_134_0 : chkR 134 0 18 = true := by decide +kernel
theorem ck_134 : ∀ i, i < 18 → chk 134 i = true := by
  intro i hi
  exact chkR_at ck_134_0 (by omega) (by omega)
set_option maxRecDepth 100000 in
def ck_135_0 : chkR 135 0 17 = true := by decide +kernel
theorem ck_135 : ∀ i, i < 17 → chk 135 i = true := by
  intro i hi
  exact chkR_at ck_135_0 (by omega) (by omega)
set_option maxRecDepth 100000 in
def ck_136_0 : chkR 136 0 24 = true := by decide +kernel
set_option maxRecDepth 100000 in
def ck_136_24 : chkR 136 24 1 = true := by decide +kernel
theorem ck_136 : ∀ i, i < 25 → chk 136 i = true := by
  intro i hi
  by_cases h0 : i < 24
  · exact chkR_at ck_136_0 (by omega) (by omega)
  exact chkR_at ck_136_24 (by omega) (by omega)
set_option maxRecDepth 100000 in
def ck_137_0 : chkR 137 0 17 = true := by decide +kernel
theorem ck_137 : ∀ i, i < 17 → chk 137 i = true := by
  intro i hi
  exact chkR_at ck_137_0 (by omega) (by omega)
set_option maxRecDepth 100000 in
def ck_138_0 : chkR 138 0 19 = true := by decide +kernel
theorem ck_138 : ∀ i, i < 19 → chk 138 i = true := by
  intro i hi
  exact chkR_at ck_138_0 (by omega) (by omega)
set_option maxRecDepth 100000 in
def ck_139_0 : chkR 139 0 17 = true := by decide +kernel
theorem ck_139 : ∀ i, i < 17 → chk 139 i = true := by
  intro i hi
  exact chkR_at ck_139_0 (by omega) (by omega)
set_option maxRecDepth 100000 in
def ck_140_0 : chkR 140 0 13 = true := by decide +kernel
theorem ck_140 : ∀ i, i < 13 → chk 140 i = true := by
  intro i hi
  exact chkR_at ck_140_0 (by omega) (by omega)
set_option maxRecDepth 100000 in
def ck_141_0 : chkR 141 0 12 = true := by decide +kernel
theorem ck_141 : ∀ i, i < 12 → chk 141 i = true := by
  intro i hi
  exact chkR_at ck_141_0 (by omega) (by omega)
set_option maxRecDepth 100000 in
def ck_142_0 : chkR 142 0 12 = true := by decide +kernel
theorem ck_142 : ∀ i, i < 12 → chk 142 i = true := by
  intro i hi
  exact chkR_at ck_142_0 (by omega) (by omega)
set_option maxRecDepth 100000 in
def ck_143_0 : chkR 143 0 21 = true := by decide +kernel
theorem ck_143 : ∀ i, i < 21 → chk 143 i = true := by
  intro i hi
  exact chkR_at ck_143_0 (by omega) (by omega)
set_option maxRecDepth 100000 in
def ck_144_0 : chkR 144 0 12 = true := by decide +kernel
theorem ck_144 : ∀ i, i < 12 → chk 144 i = true := by
  intro i hi
  exact chkR_at ck_144_0 (by omega) (by omega)
set_option maxRecDepth 100000 in
def ck_145_0 : chkR 145 0 17 = true := by decide +kernel
theorem ck_145 : ∀ i, i < 17 → chk 145 i = true := by
  intro i hi
  exact chkR_at ck_145_0 (by omega) (by omega)
set_option maxRecDepth 100000 in
def ck_146_0 : chkR 146 0 14 = true := by decide +kernel
theorem ck_146 : ∀ i, i < 14 → chk 146 i = true := by
  intro i hi
  exact chkR_at ck_146_0 (by omega) (by omega)
set_option maxRecDepth 100000 in
def ck_147_0 : chkR 147 0 14 = true := by decide +kernel
theorem ck_147 : ∀ i, i < 14 → chk 147 i = true := by
  intro i hi
  exact chkR_at ck_147_0 (by omega) (by omega)
set_option maxRecDepth 100000 in
def ck_148_0 : chkR 148 0 14 = true := by decide +kernel
theorem ck_148 : ∀ i, i < 14 → chk 148 i = true := by
  intro i hi
  exact chkR_at ck_148_0 (by omega) (by omega)
set_option maxRecDepth 100000 in
def ck_149_0 : chkR 149 0 18 = true := by decide +kernel
theorem ck_149 : ∀ i, i < 18 → chk 149 i = true := by
  intro i hi
  exact chkR_at ck_149_0 (by omega) (by omega)
set_option maxRecDepth 100000 in
def ck_150_0 : chkR 150 0 15 = true := by decide +kernel
theorem ck_150 : ∀ i, i < 15 → chk 150 i = true := by
  intro i hi
  exact chkR_at ck_150_0 (by omega) (by omega)
set_option maxRecDepth 100000 in
def ck_151_0 : chkR 151 0 13 = true := by decide +kernel
theorem ck_151 : ∀ i, i < 13 → chk 151 i = true := by
  intro i hi
  exact chkR_at ck_151_0 (by omega) (by omega)
set_option maxRecDepth 100000 in
def ck_152_0 : chkR 152 0 14 = true := by decide +kernel
theorem ck_152 : ∀ i, i < 14 → chk 152 i = true := by
  intro i hi
  exact chkR_at ck_152_0 (by omega) (by omega)
set_option maxRecDepth 100000 in
def ck_153_0 : chkR 153 0 14 = true := by decide +kernel
theorem ck_153 : ∀ i, i < 14 → chk 153 i = true := by
  intro i hi
  exact chkR_at ck_153_0 (by omega) (by omega)
set_option maxRecDepth 100000 in
def ck_154_0 : chkR 154 0 13 = true := by decide +kernel
theorem ck_154 : ∀ i, i < 13 → chk 154 i = true := by
  intro i hi
  exact chkR_at ck_154_0 (by omega) (by omega)
set_option maxRecDepth 100000 in
def ck_155_0 : chkR 155 0 12 = true := by decide +kernel
theorem ck_155 : ∀ i, i < 12 → chk 155 i = true := by
  intro i hi
  exact chkR_at ck_155_0 (by omega) (by omega)
set_option maxRecDepth 100000 in
def ck_156_0 : chkR 156 0 12 = true := by decide +kernel
theorem ck_156 : ∀ i, i < 12 → chk 156 i = true := by
  intro i hi
  exact chkR_at ck_156_0 (by omega) (by omega)
