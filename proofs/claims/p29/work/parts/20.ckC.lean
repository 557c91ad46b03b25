set_option maxRecDepth 100000 in
def ck_92_0 : chkR 92 0 24 = true := by decide +kernel
set_option maxRecDepth 100000 in
def ck_92_24 : chkR 92 24 24 = true := by decide +kernel
set_option maxRecDepth 100000 in
def ck_92_48 : chkR 92 48 24 = true := by decide +kernel
set_option maxRecDepth 100000 in
def ck_92_72 : chkR 92 72 24 = true := by decide +kernel
set_option maxRecDepth 100000 in
def ck_92_96 : chkR 92 96 24 = true := by decide +kernel
set_option maxRecDepth 100000 in
def ck_92_120 : chkR 92 120 24 = true := by decide +kernel
set_option maxRecDepth 100000 in
def ck_92_144 : chkR 92 144 23 = true := by decide +kernel
theorem ck_92 : ∀ i, i < 167 → chk 92 i = true := by
  intro i hi
  by_cases h0 : i < 24
  · exact chkR_at ck_92_0 (by omega) (by omega)
  by_cases h24 : i < 48
  · exact chkR_at ck_92_24 (by omega) (by omega)
  by_cases h48 : i < 72
  · exact chkR_at ck_92_48 (by omega) (by omega)
  by_cases h72 : i < 96
  · exact chkR_at ck_92_72 (by omega) (by omega)
  by_cases h96 : i < 120
  · exact chkR_at ck_92_96 (by omega) (by omega)
  by_cases h120 : i < 144
  · exact chkR_at ck_92_120 (by omega) (by omega)
  exact chkR_at ck_92_144 (by omega) (by omega)
set_option maxRecDepth 100000 in
def ck_93_0 : chkR 93 0 24 = true := by decide +kernel
set_option maxRecDepth 100000 in
def ck_93_24 : chkR 93 24 5 = true := by decide +kernel
theorem ck_93 : ∀ i, i < 29 → chk 93 i = true := by
  intro i hi
  by_cases h0 : i < 24
  · exact chkR_at ck_93_0 (by omega) (by omega)
  exact chkR_at ck_93_24 (by omega) (by omega)
set_option maxRecDepth 100000 in
def ck_94_0 : chkR 94 0 24 = true := by decide +kernel
set_option maxRecDepth 100000 in
def ck_94_24 : chkR 94 24 24 = true := by decide +kernel
set_option maxRecDepth 100000 in
def ck_94_48 : chkR 94 48 19 = true := by decide +kernel
theorem ck_94 : ∀ i, i < 67 → chk 94 i = true := by
  intro i hi
  by_cases h0 : i < 24
  · exact chkR_at ck_94_0 (by omega) (by omega)
  by_cases h24 : i < 48
  · exact chkR_at ck_94_24 (by omega) (by omega)
  exact chkR_at ck_94_48 (by omega) (by omega)
set_option maxRecDepth 100000 in
def ck_95_0 : chkR 95 0 24 = true := by decide +kernel
set_option maxRecDepth 100000 in
def ck_95_24 : chkR 95 24 24 = true := by decide +kernel
set_option maxRecDepth 100000 in
def ck_95_48 : chkR 95 48 24 = true := by decide +kernel
set_option maxRecDepth 100000 in
def ck_95_72 : chkR 95 72 24 = true := by decide +kernel
set_option maxRecDepth 100000 in
def ck_95_96 : chkR 95 96 24 = true := by decide +kernel
set_option maxRecDepth 100000 in
def ck_95_120 : chkR 95 120 24 = true := by decide +kernel
set_option maxRecDepth 100000 in
def ck_95_144 : chkR 95 144 24 = true := by decide +kernel
set_option maxRecDepth 100000 in
def ck_95_168 : chkR 95 168 24 = true := by decide +kernel
set_option maxRecDepth 100000 in
def ck_95_192 : chkR 95 192 24 = true := by decide +kernel
set_option maxRecDepth 100000 in
def ck_95_216 : chkR 95 216 24 = true := by decide +kernel
set_option maxRecDepth 100000 in
def ck_95_240 : chkR 95 240 6 = true := by decide +kernel
theorem ck_95 : ∀ i, i < 246 → chk 95 i = true := by
  intro i hi
  by_cases h0 : i < 24
  · exact chkR_at ck_95_0 (by omega) (by omega)
  by_cases h24 : i < 48
  · exact chkR_at ck_95_24 (by omega) (by omega)
  by_cases h48 : i < 72
  · exact chkR_at ck_95_48 (by omega) (by omega)
  by_cases h72 : i < 96
  · exact chkR_at ck_95_72 (by omega) (by omega)
  by_cases h96 : i < 120
  · exact chkR_at ck_95_96 (by omega) (by omega)
  by_cases h120 : i < 144
  · exact chkR_at ck_95_120 (by omega) (by omega)
  by_cases h144 : i < 168
  · exact chkR_at ck_95_144 (by omega) (by omega)
  by_cases h168 : i < 192
  · exact chkR_at ck_95_168 (by omega) (by omega)
  by_cases h192 : i < 216
  · exact chkR_at ck_95_192 (by omega) (by omega)
  by_cases h216 : i < 240
  · exact chkR_at ck_95_216 (by omega) (by omega)
  exact chkR_at ck_95_240 (by omega) (by omega)
set_option maxRecDepth 100000 in
def ck_96_0 : chkR 96 0 24 = true := by decide +kernel
set_option maxRecDepth 100000 in
def ck_96_24 : chkR 96 24 24 = true := by decide +kernel
set_option maxRecDepth 100000 in
def ck_96_48 : chkR 96 48 24 = true := by decide +kernel
set_option maxRecDepth 100000 in
def ck_96_72 : chkR 96 72 24 = true := by decide +kernel
set_option maxRecDepth 100000 in
def ck_96_96 : chkR 96 96 24 = true := by decide +kernel
set_option maxRecDepth 100000 in
def ck_96_120 : chkR 96 120 24 = true := by decide +kernel
set_option maxRecDepth 100000 in
def ck_96_144 : chkR 96 144 24 = true := by decide +kernel
set_option maxRecDepth 100000 in
def ck_96_168 : chkR 96 168 24 = true := by decide +kernel
set_option maxRecDepth 100000 in
def ck_96_192 : chkR 96 192 24 = true := by decide +kernel
set_option maxRecDepth 100000 in
def ck_96_216 : chkR 96 216 24 = true := by decide +kernel
set_option maxRecDepth 100000 in
def ck_96_240 : chkR 96 240 24 = true := by decide +kernel
set_option maxRecDepth 100000 in
def ck_96_264 : chkR 96 264 24 = true := by decide +kernel
set_option maxRecDepth 100000 in
def ck_96_288 : chkR 96 288 24 = true := by decide +kernel
set_option maxRecDepth 100000 in
def ck_96_312 : chkR 96 312 24 = true := by decide +kernel
set_option maxRecDepth 100000 in
def ck_96_336 : chkR 96 336 24 = true := by decide +kernel
set_option maxRecDepth 100000 in
def ck_96_360 : chkR 96 360 24 = true := by decide +kernel
set_option maxRecDepth 100000 in
def ck_96_384 : chkR 96 384 24 = true := by decide +kernel
set_option maxRecDepth 100000 in
def ck_96_408 : chkR 96 408 24 = true := by decide +kernel
set_option maxRecDepth 100000 in
def ck_96_432 : chkR 96 432 24 = true := by decide +kernel
set_option maxRecDepth 100000 in
def ck_96_456 : chkR 96 456 24 = true := by decide +kernel
set_option maxRecDepth 100000 in
def ck_96_480 : chkR 96 480 2 = true := by decide +kernel
theorem ck_96 : ∀ i, i < 482 → chk 96 i = true := by
  intro i hi
  by_cases h0 : i < 24
  · exact chkR_at ck_96_0 (by omega) (by omega)
  by_cases h24 : i < 48
  · exact chkR_at ck_96_24 (by omega) (by omega)
  by_cases h48 : i < 72
  · exact chkR_at ck_96_48 (by omega) (by omega)
  by_cases h72 : i < 96
  · exact chkR_at ck_96_72 (by omega) (by omega)
  by_cases h96 : i < 120
  · exact chkR_at ck_96_96 (by omega) (by omega)
  by_cases h120 : i < 144
  · exact chkR_at ck_96_120 (by omega) (by omega)
  by_cases h144 : i < 168
  · exact chkR_at ck_96_144 (by omega) (by omega)
  by_cases h168 : i < 192
  · exact chkR_at ck_96_168 (by omega) (by omega)
  by_cases h192 : i < 216
  · exact chkR_at ck_96_192 (by omega) (by omega)
  by_cases h216 : i < 240
  · exact chkR_at ck_96_216 (by omega) (by omega)
  by_cases h240 : i < 264
  · exact chkR_at ck_96_240 (by omega) (by omega)
  by_cases h264 : i < 288
  · exact chkR_at ck_96_264 (by omega) (by omega)
  by_cases h288 : i < 312
  · exact chkR_at ck_96_288 (by omega) (by omega)
  by_cases h312 : i < 336
  · exact chkR_at ck_96_312 (by omega) (by omega)
  by_cases h336 : i < 360
  · exact chkR_at ck_96_336 (by omega) (by omega)
  by_cases h360 : i < 384
  · exact chkR_at ck_96_360 (by omega) (by omega)
  by_cases h384 : i < 408
  · exact chkR_at ck_96_384 (by omega) (by omega)
  by_cases h408 : i < 432
  · exact chkR_at ck_96_408 (by omega) (by omega)
  by_cases h432 : i < 456
  · exact chkR_at ck_96_432 (by omega) (by omega)
  by_cases h456 : i < 480
  · exact chkR_at ck_96_456 (by omega) (by omega)
  exact chkR_at ck_96_480 (by omega) (by omega)
