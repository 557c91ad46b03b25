set_option maxRecDepth 100000 in
def ck_77_0 : chkR 77 0 24 = true := by decide +kernel
set_option maxRecDepth 100000 in
def ck_77_24 : chkR 77 24 2 = true := by decide +kernel
theorem ck_77 : ∀ i, i < 26 → chk 77 i = true := by
  intro i hi
  by_cases h0 : i < 24
  · exact chkR_at ck_77_0 (by omega) (by omega)
  exact chkR_at ck_77_24 (by omega) (by omega)
set_option maxRecDepth 100000 in
def ck_78_0 : chkR 78 0 6 = true := by decide +kernel
theorem ck_78 : ∀ i, i < 6 → chk 78 i = true := by
  intro i hi
  exact chkR_at ck_78_0 (by omega) (by omega)
set_option maxRecDepth 100000 in
def ck_79_0 : chkR 79 0 8 = true := by decide +kernel
theorem ck_79 : ∀ i, i < 8 → chk 79 i = true := by
  intro i hi
  exact chkR_at ck_79_0 (by omega) (by omega)
set_option maxRecDepth 100000 in
def ck_80_0 : chkR 80 0 13 = true := by decide +kernel
theorem ck_80 : ∀ i, i < 13 → chk 80 i = true := by
  intro i hi
  exact chkR_at ck_80_0 (by omega) (by omega)
set_option maxRecDepth 100000 in
def ck_81_0 : chkR 81 0 24 = true := by decide +kernel
set_option maxRecDepth 100000 in
def ck_81_24 : chkR 81 24 14 = true := by decide +kernel
theorem ck_81 : ∀ i, i < 38 → chk 81 i = true := by
  intro i hi
  by_cases h0 : i < 24
  · exact chkR_at ck_81_0 (by omega) (by omega)
  exact chkR_at ck_81_24 (by omega) (by omega)
set_option maxRecDepth 100000 in
def ck_82_0 : chkR 82 0 24 = true := by decide +kernel
set_option maxRecDepth 100000 in
def ck_82_24 : chkR 82 24 2 = true := by decide +kernel
theorem ck_82 : ∀ i, i < 26 → chk 82 i = true := by
  intro i hi
  by_cases h0 : i < 24
  · exact chkR_at ck_82_0 (by omega) (by omega)
  exact chkR_at ck_82_24 (by omega) (by omega)
set_option maxRecDepth 100000 in
def ck_83_0 : chkR 83 0 24 = true := by decide +kernel
set_option maxRecDepth 100000 in
def ck_83_24 : chkR 83 24 15 = true := by decide +kernel
theorem ck_83 : ∀ i, i < 39 → chk 83 i = true := by
  intro i hi
  by_cases h0 : i < 24
  · exact chkR_at ck_83_0 (by omega) (by omega)
  exact chkR_at ck_83_24 (by omega) (by omega)
set_option maxRecDepth 100000 in
def ck_84_0 : chkR 84 0 18 = true := by decide +kernel
theorem ck_84 : ∀ i, i < 18 → chk 84 i = true := by
  intro i hi
  exact chkR_at ck_84_0 (by omega) (by omega)
set_option maxRecDepth 100000 in
def ck_85_0 : chkR 85 0 24 = true := by decide +kernel
set_option maxRecDepth 100000 in
def ck_85_24 : chkR 85 24 24 = true := by decide +kernel
set_option maxRecDepth 100000 in
def ck_85_48 : chkR 85 48 24 = true := by decide +kernel
set_option maxRecDepth 100000 in
def ck_85_72 : chkR 85 72 24 = true := by decide +kernel
set_option maxRecDepth 100000 in
def ck_85_96 : chkR 85 96 24 = true := by decide +kernel
set_option maxRecDepth 100000 in
def ck_85_120 : chkR 85 120 24 = true := by decide +kernel
set_option maxRecDepth 100000 in
def ck_85_144 : chkR 85 144 24 = true := by decide +kernel
set_option maxRecDepth 100000 in
def ck_85_168 : chkR 85 168 24 = true := by decide +kernel
set_option maxRecDepth 100000 in
def ck_85_192 : chkR 85 192 24 = true := by decide +kernel
set_option maxRecDepth 100000 in
def ck_85_216 : chkR 85 216 24 = true := by decide +kernel
set_option maxRecDepth 100000 in
def ck_85_240 : chkR 85 240 24 = true := by decide +kernel
set_option maxRecDepth 100000 in
def ck_85_264 : chkR 85 264 24 = true := by decide +kernel
set_option maxRecDepth 100000 in
def ck_85_288 : chkR 85 288 1 = true := by decide +kernel
theorem ck_85 : ∀ i, i < 289 → chk 85 i = true := by
  intro i hi
  by_cases h0 : i < 24
  · exact chkR_at ck_85_0 (by omega) (by omega)
  by_cases h24 : i < 48
  · exact chkR_at ck_85_24 (by omega) (by omega)
  by_cases h48 : i < 72
  · exact chkR_at ck_85_48 (by omega) (by omega)
  by_cases h72 : i < 96
  · exact chkR_at ck_85_72 (by omega) (by omega)
  by_cases h96 : i < 120
  · exact chkR_at ck_85_96 (by omega) (by omega)
  by_cases h120 : i < 144
  · exact chkR_at ck_85_120 (by omega) (by omega)
  by_cases h144 : i < 168
  · exact chkR_at ck_85_144 (by omega) (by omega)
  by_cases h168 : i < 192
  · exact chkR_at ck_85_168 (by omega) (by omega)
  by_cases h192 : i < 216
  · exact chkR_at ck_85_192 (by omega) (by omega)
  by_cases h216 : i < 240
  · exact chkR_at ck_85_216 (by omega) (by omega)
  by_cases h240 : i < 264
  · exact chkR_at ck_85_240 (by omega) (by omega)
  by_cases h264 : i < 288
  · exact chkR_at ck_85_264 (by omega) (by omega)
  exact chkR_at ck_85_288 (by omega) (by omega)
set_option maxRecDepth 100000 in
def ck_86_0 : chkR 86 0 24 = true := by decide +kernel
set_option maxRecDepth 100000 in
def ck_86_24 : chkR 86 24 21 = true := by decide +kernel
theorem ck_86 : ∀ i, i < 45 → chk 86 i = true := by
  intro i hi
  by_cases h0 : i < 24
  · exact chkR_at ck_86_0 (by omega) (by omega)
  exact chkR_at ck_86_24 (by omega) (by omega)
set_option maxRecDepth 100000 in
def ck_87_0 : chkR 87 0 24 = true := by decide +kernel
set_option maxRecDepth 100000 in
def ck_87_24 : chkR 87 24 24 = true := by decide +kernel
set_option maxRecDepth 100000 in
def ck_87_48 : chkR 87 48 17 = true := by decide +kernel
theorem ck_87 : ∀ i, i < 65 → chk 87 i = true := by
  intro i hi
  by_cases h0 : i < 24
  · exact chkR_at ck_87_0 (by omega) (by omega)
  by_cases h24 : i < 48
  · exact chkR_at ck_87_24 (by omega) (by omega)
  exact chkR_at ck_87_48 (by omega) (by omega)
set_option maxRecDepth 100000 in
def ck_88_0 : chkR 88 0 19 = true := by decide +kernel
theorem ck_88 : ∀ i, i < 19 → chk 88 i = true := by
  intro i hi
  exact chkR_at ck_88_0 (by omega) (by omega)
set_option maxRecDepth 100000 in
def ck_89_0 : chkR 89 0 24 = true := by decide +kernel
set_option maxRecDepth 100000 in
def ck_89_24 : chkR 89 24 24 = true := by decide +kernel
set_option maxRecDepth 100000 in
def ck_89_48 : chkR 89 48 24 = true := by decide +kernel
set_option maxRecDepth 100000 in
def ck_89_72 : chkR 89 72 24 = true := by decide +kernel
set_option maxRecDepth 100000 in
def ck_89_96 : chkR 89 96 24 = true := by decide +kernel
set_option maxRecDepth 100000 in
def ck_89_120 : chkR 89 120 24 = true := by decide +kernel
set_option maxRecDepth 100000 in
def ck_89_144 : chkR 89 144 24 = true := by decide +kernel
set_option maxRecDepth 100000 in
def ck_89_168 : chkR 89 168 24 = true := by decide +kernel
set_option maxRecDepth 100000 in
def ck_89_192 : chkR 89 192 24 = true := by decide +kernel
set_option maxRecDepth 100000 in
def ck_89_216 : chkR 89 216 12 = true := by decide +kernel
theorem ck_89 : ∀ i, i < 228 → chk 89 i = true := by
  intro i hi
  by_cases h0 : i < 24
  · exact chkR_at ck_89_0 (by omega) (by omega)
  by_cases h24 : i < 48
  · exact chkR_at ck_89_24 (by omega) (by omega)
  by_cases h48 : i < 72
  · exact chkR_at ck_89_48 (by omega) (by omega)
  by_cases h72 : i < 96
  · exact chkR_at ck_89_72 (by omega) (by omega)
  by_cases h96 : i < 120
  · exact chkR_at ck_89_96 (by omega) (by omega)
  by_cases h120 : i < 144
  · exact chkR_at ck_89_120 (by omega) (by omega)
  by_cases h144 : i < 168
  · exact chkR_at ck_89_144 (by omega) (by omega)
  by_cases h168 : i < 192
  · exact chkR_at ck_89_168 (by omega) (by omega)
  by_cases h192 : i < 216
  · exact chkR_at ck_89_192 (by omega) (by omega)
  exact chkR_at ck_89_216 (by omega) (by omega)
set_option maxRecDepth 100000 in
def ck_90_0 : chkR 90 0 24 = true := by decide +kernel
set_option maxRecDepth 100000 in
def ck_90_24 : chkR 90 24 9 = true := by decide +kernel
theorem ck_90 : ∀ i, i < 33 → chk 90 i = true := by
  intro i hi
  by_cases h0 : i < 24
  · exact chkR_at ck_90_0 (by omega) (by omega)
  exact chkR_at ck_90_24 (by omega) (by omega)
set_option maxRecDepth 100000 in
def ck_91_0 : chkR 91 0 24 = true := by decide +kernel
set_option maxRecDepth 100000 in
def ck_91_24 : chkR 91 24 24 = true := by decide +kernel
set_option maxRecDepth 100000 in
def ck_91_48 : chkR 91 48 24 = true := by decide +kernel
set_option maxRecDepth 100000 in
def ck_91_72 : chkR 91 72 23 = true := by decide +kernel
theorem ck_91 : ∀ i, i < 95 → chk 91 i = true := by
  intro i hi
  by_cases h0 : i < 24
  · exact chkR_at ck_91_0 (by omega) (by omega)
  by_cases h24 : i < 48
  · exact chkR_at ck_91_24 (by omega) (by omega)
  by_cases h48 : i < 72
  · exact chkR_at ck_91_48 (by omega) (by omega)
  exact chkR_at ck_91_72 (by omega) (by omega)
