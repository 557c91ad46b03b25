/-! the law's last methods are checked -/
set_option maxRecDepth 1000000 in
set_option maxHeartbeats 4000000 in
theorem isw_96 : isw 685 (pg_cw 96) = true := by
  have h : lw_tbl[685]? = some (pg_cw 96) := rfl
  unfold isw
  rw [h, decide_eq_true rfl]
  decide +kernel
theorem chkC_96 : chkC 96 = true := by
  unfold chkC
  dsimp only
  rw [Bool.and_eq_true, Bool.and_eq_true, Bool.and_eq_true, Bool.and_eq_true, Bool.and_eq_true, Bool.and_eq_true, Bool.and_eq_true, Bool.and_eq_true, Bool.and_eq_true, Bool.and_eq_true, Bool.and_eq_true, Bool.and_eq_true]
  refine ⟨⟨⟨⟨⟨⟨⟨⟨⟨⟨⟨⟨isw_96, ?_⟩, ?_⟩, ?_⟩, ?_⟩, ?_⟩, ?_⟩, ?_⟩, ?_⟩, ?_⟩, ?_⟩, ?_⟩, ?_⟩
  all_goals decide +kernel
theorem chk_100_210 : chk 100 210 = true := by
  unfold chk
  rw [show pg_at 100 210 = some (40, 96, 0, 184) by decide +kernel]
  show (dc 100 210 (.invokestatic (184 : Int).toNat) 3 && chkC 96 && pg_sta 96 && isw ((pg_wd 100 210).getD 0 0) (.methodLink (pg_own 100) (184 : Int).toNat (pg_nm 96))) = true
  rw [Bool.and_eq_true, Bool.and_eq_true, Bool.and_eq_true]
  refine ⟨⟨⟨?_, chkC_96⟩, ?_⟩, ?_⟩
  all_goals decide +kernel
set_option maxRecDepth 100000 in
theorem ck_97_0 : chkR 97 0 24 = true := by decide +kernel
set_option maxRecDepth 100000 in
theorem ck_97_24 : chkR 97 24 24 = true := by decide +kernel
set_option maxRecDepth 100000 in
theorem ck_97_48 : chkR 97 48 24 = true := by decide +kernel
set_option maxRecDepth 100000 in
theorem ck_97_72 : chkR 97 72 24 = true := by decide +kernel
set_option maxRecDepth 100000 in
theorem ck_97_96 : chkR 97 96 24 = true := by decide +kernel
set_option maxRecDepth 100000 in
theorem ck_97_120 : chkR 97 120 24 = true := by decide +kernel
set_option maxRecDepth 100000 in
theorem ck_97_144 : chkR 97 144 14 = true := by decide +kernel
theorem ck_97 : ∀ i, i < 158 → chk 97 i = true := by
  intro i hi
  by_cases h0 : i < 24
  · exact chkR_at ck_97_0 (by omega) (by omega)
  by_cases h24 : i < 48
  · exact chkR_at ck_97_24 (by omega) (by omega)
  by_cases h48 : i < 72
  · exact chkR_at ck_97_48 (by omega) (by omega)
  by_cases h72 : i < 96
  · exact chkR_at ck_97_72 (by omega) (by omega)
  by_cases h96 : i < 120
  · exact chkR_at ck_97_96 (by omega) (by omega)
  by_cases h120 : i < 144
  · exact chkR_at ck_97_120 (by omega) (by omega)
  exact chkR_at ck_97_144 (by omega) (by omega)
set_option maxRecDepth 100000 in
theorem ck_98_0 : chkR 98 0 24 = true := by decide +kernel
set_option maxRecDepth 100000 in
theorem ck_98_24 : chkR 98 24 24 = true := by decide +kernel
set_option maxRecDepth 100000 in
theorem ck_98_48 : chkR 98 48 24 = true := by decide +kernel
set_option maxRecDepth 100000 in
theorem ck_98_72 : chkR 98 72 24 = true := by decide +kernel
set_option maxRecDepth 100000 in
theorem ck_98_96 : chkR 98 96 24 = true := by decide +kernel
set_option maxRecDepth 100000 in
theorem ck_98_120 : chkR 98 120 24 = true := by decide +kernel
set_option maxRecDepth 100000 in
theorem ck_98_144 : chkR 98 144 24 = true := by decide +kernel
set_option maxRecDepth 100000 in
theorem ck_98_168 : chkR 98 168 24 = true := by decide +kernel
set_option maxRecDepth 100000 in
theorem ck_98_192 : chkR 98 192 24 = true := by decide +kernel
set_option maxRecDepth 100000 in
theorem ck_98_216 : chkR 98 216 24 = true := by decide +kernel
set_option maxRecDepth 100000 in
theorem ck_98_240 : chkR 98 240 24 = true := by decide +kernel
set_option maxRecDepth 100000 in
theorem ck_98_264 : chkR 98 264 24 = true := by decide +kernel
set_option maxRecDepth 100000 in
theorem ck_98_288 : chkR 98 288 24 = true := by decide +kernel
set_option maxRecDepth 100000 in
theorem ck_98_312 : chkR 98 312 24 = true := by decide +kernel
set_option maxRecDepth 100000 in
theorem ck_98_336 : chkR 98 336 2 = true := by decide +kernel
theorem ck_98 : ∀ i, i < 338 → chk 98 i = true := by
  intro i hi
  by_cases h0 : i < 24
  · exact chkR_at ck_98_0 (by omega) (by omega)
  by_cases h24 : i < 48
  · exact chkR_at ck_98_24 (by omega) (by omega)
  by_cases h48 : i < 72
  · exact chkR_at ck_98_48 (by omega) (by omega)
  by_cases h72 : i < 96
  · exact chkR_at ck_98_72 (by omega) (by omega)
  by_cases h96 : i < 120
  · exact chkR_at ck_98_96 (by omega) (by omega)
  by_cases h120 : i < 144
  · exact chkR_at ck_98_120 (by omega) (by omega)
  by_cases h144 : i < 168
  · exact chkR_at ck_98_144 (by omega) (by omega)
  by_cases h168 : i < 192
  · exact chkR_at ck_98_168 (by omega) (by omega)
  by_cases h192 : i < 216
  · exact chkR_at ck_98_192 (by omega) (by omega)
  by_cases h216 : i < 240
  · exact chkR_at ck_98_216 (by omega) (by omega)
  by_cases h240 : i < 264
  · exact chkR_at ck_98_240 (by omega) (by omega)
  by_cases h264 : i < 288
  · exact chkR_at ck_98_264 (by omega) (by omega)
  by_cases h288 : i < 312
  · exact chkR_at ck_98_288 (by omega) (by omega)
  by_cases h312 : i < 336
  · exact chkR_at ck_98_312 (by omega) (by omega)
  exact chkR_at ck_98_336 (by omega) (by omega)
set_option maxRecDepth 100000 in
theorem ck_99_0 : chkR 99 0 24 = true := by decide +kernel
set_option maxRecDepth 100000 in
theorem ck_99_24 : chkR 99 24 24 = true := by decide +kernel
set_option maxRecDepth 100000 in
theorem ck_99_48 : chkR 99 48 24 = true := by decide +kernel
set_option maxRecDepth 100000 in
theorem ck_99_72 : chkR 99 72 24 = true := by decide +kernel
set_option maxRecDepth 100000 in
theorem ck_99_96 : chkR 99 96 24 = true := by decide +kernel
set_option maxRecDepth 100000 in
theorem ck_99_120 : chkR 99 120 24 = true := by decide +kernel
set_option maxRecDepth 100000 in
theorem ck_99_144 : chkR 99 144 3 = true := by decide +kernel
theorem ck_99 : ∀ i, i < 147 → chk 99 i = true := by
  intro i hi
  by_cases h0 : i < 24
  · exact chkR_at ck_99_0 (by omega) (by omega)
  by_cases h24 : i < 48
  · exact chkR_at ck_99_24 (by omega) (by omega)
  by_cases h48 : i < 72
  · exact chkR_at ck_99_48 (by omega) (by omega)
  by_cases h72 : i < 96
  · exact chkR_at ck_99_72 (by omega) (by omega)
  by_cases h96 : i < 120
  · exact chkR_at ck_99_96 (by omega) (by omega)
  by_cases h120 : i < 144
  · exact chkR_at ck_99_120 (by omega) (by omega)
  exact chkR_at ck_99_144 (by omega) (by omega)
set_option maxRecDepth 100000 in
theorem ck_100_0 : chkR 100 0 24 = true := by decide +kernel
set_option maxRecDepth 100000 in
theorem ck_100_24 : chkR 100 24 24 = true := by decide +kernel
set_option maxRecDepth 100000 in
theorem ck_100_48 : chkR 100 48 24 = true := by decide +kernel
set_option maxRecDepth 100000 in
theorem ck_100_72 : chkR 100 72 24 = true := by decide +kernel
set_option maxRecDepth 100000 in
theorem ck_100_96 : chkR 100 96 24 = true := by decide +kernel
set_option maxRecDepth 100000 in
theorem ck_100_120 : chkR 100 120 24 = true := by decide +kernel
set_option maxRecDepth 100000 in
theorem ck_100_144 : chkR 100 144 24 = true := by decide +kernel
set_option maxRecDepth 100000 in
theorem ck_100_168 : chkR 100 168 24 = true := by decide +kernel
set_option maxRecDepth 100000 in
theorem ck_100_192 : chkR 100 192 18 = true := by decide +kernel
theorem ck_100_210 : chkR 100 210 1 = true := by
  unfold chkR
  rw [List.all_eq_true]
  intro i hi
  have := List.mem_range.mp hi
  obtain rfl : i = 0 := by omega
  exact chk_100_210
set_option maxRecDepth 100000 in
theorem ck_100_211 : chkR 100 211 9 = true := by decide +kernel
theorem ck_100 : ∀ i, i < 220 → chk 100 i = true := by
  intro i hi
  by_cases h0 : i < 24
  · exact chkR_at ck_100_0 (by omega) (by omega)
  by_cases h24 : i < 48
  · exact chkR_at ck_100_24 (by omega) (by omega)
  by_cases h48 : i < 72
  · exact chkR_at ck_100_48 (by omega) (by omega)
  by_cases h72 : i < 96
  · exact chkR_at ck_100_72 (by omega) (by omega)
  by_cases h96 : i < 120
  · exact chkR_at ck_100_96 (by omega) (by omega)
  by_cases h120 : i < 144
  · exact chkR_at ck_100_120 (by omega) (by omega)
  by_cases h144 : i < 168
  · exact chkR_at ck_100_144 (by omega) (by omega)
  by_cases h168 : i < 192
  · exact chkR_at ck_100_168 (by omega) (by omega)
  by_cases h192 : i < 210
  · exact chkR_at ck_100_192 (by omega) (by omega)
  by_cases h210 : i < 211
  · exact chkR_at ck_100_210 (by omega) (by omega)
  exact chkR_at ck_100_211 (by omega) (by omega)
set_option maxRecDepth 100000 in
theorem ck_101_0 : chkR 101 0 12 = true := by decide +kernel
theorem ck_101 : ∀ i, i < 12 → chk 101 i = true := by
  intro i hi
  exact chkR_at ck_101_0 (by omega) (by omega)
set_option maxRecDepth 100000 in
theorem ck_102_0 : chkR 102 0 3 = true := by decide +kernel
theorem ck_102 : ∀ i, i < 3 → chk 102 i = true := by
  intro i hi
  exact chkR_at ck_102_0 (by omega) (by omega)
