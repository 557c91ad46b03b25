/-! the law's last methods are checked -/
set_option maxRecDepth 1000000 in
set_option maxHeartbeats 4000000 in
theorem isw_85 : isw 390 (pg_cw 85) = true := by
  have h : lw_tbl[390]? = some (pg_cw 85) := rfl
  unfold isw
  rw [h, decide_eq_true rfl]
  decide +kernel
theorem chkC_85 : chkC 85 = true := by
  unfold chkC
  dsimp only
  rw [Bool.and_eq_true, Bool.and_eq_true, Bool.and_eq_true, Bool.and_eq_true, Bool.and_eq_true, Bool.and_eq_true, Bool.and_eq_true, Bool.and_eq_true, Bool.and_eq_true, Bool.and_eq_true, Bool.and_eq_true, Bool.and_eq_true]
  refine ⟨⟨⟨⟨⟨⟨⟨⟨⟨⟨⟨⟨isw_85, ?_⟩, ?_⟩, ?_⟩, ?_⟩, ?_⟩, ?_⟩, ?_⟩, ?_⟩, ?_⟩, ?_⟩, ?_⟩, ?_⟩
  all_goals decide +kernel
set_option maxRecDepth 1000000 in
set_option maxHeartbeats 4000000 in
theorem isw_87 : isw 517 (pg_cw 87) = true := by
  have h : lw_tbl[517]? = some (pg_cw 87) := rfl
  unfold isw
  rw [h, decide_eq_true rfl]
  decide +kernel
theorem chkC_87 : chkC 87 = true := by
  unfold chkC
  dsimp only
  rw [Bool.and_eq_true, Bool.and_eq_true, Bool.and_eq_true, Bool.and_eq_true, Bool.and_eq_true, Bool.and_eq_true, Bool.and_eq_true, Bool.and_eq_true, Bool.and_eq_true, Bool.and_eq_true, Bool.and_eq_true, Bool.and_eq_true]
  refine ⟨⟨⟨⟨⟨⟨⟨⟨⟨⟨⟨⟨isw_87, ?_⟩, ?_⟩, ?_⟩, ?_⟩, ?_⟩, ?_⟩, ?_⟩, ?_⟩, ?_⟩, ?_⟩, ?_⟩, ?_⟩
  all_goals decide +kernel
set_option maxRecDepth 1000000 in
set_option maxHeartbeats 4000000 in
theorem isw_92 : isw 514 (pg_cw 92) = true := by
  have h : lw_tbl[514]? = some (pg_cw 92) := rfl
  unfold isw
  rw [h, decide_eq_true rfl]
  decide +kernel
theorem chkC_92 : chkC 92 = true := by
  unfold chkC
  dsimp only
  rw [Bool.and_eq_true, Bool.and_eq_true, Bool.and_eq_true, Bool.and_eq_true, Bool.and_eq_true, Bool.and_eq_true, Bool.and_eq_true, Bool.and_eq_true, Bool.and_eq_true, Bool.and_eq_true, Bool.and_eq_true, Bool.and_eq_true]
  refine ⟨⟨⟨⟨⟨⟨⟨⟨⟨⟨⟨⟨isw_92, ?_⟩, ?_⟩, ?_⟩, ?_⟩, ?_⟩, ?_⟩, ?_⟩, ?_⟩, ?_⟩, ?_⟩, ?_⟩, ?_⟩
  all_goals decide +kernel
set_option maxRecDepth 1000000 in
set_option maxHeartbeats 4000000 in
theorem isw_94 : isw 610 (pg_cw 94) = true := by
  have h : lw_tbl[610]? = some (pg_cw 94) := rfl
  unfold isw
  rw [h, decide_eq_true rfl]
  decide +kernel
theorem chkC_94 : chkC 94 = true := by
  unfold chkC
  dsimp only
  rw [Bool.and_eq_true, Bool.and_eq_true, Bool.and_eq_true, Bool.and_eq_true, Bool.and_eq_true, Bool.and_eq_true, Bool.and_eq_true, Bool.and_eq_true, Bool.and_eq_true, Bool.and_eq_true, Bool.and_eq_true, Bool.and_eq_true]
  refine ⟨⟨⟨⟨⟨⟨⟨⟨⟨⟨⟨⟨isw_94, ?_⟩, ?_⟩, ?_⟩, ?_⟩, ?_⟩, ?_⟩, ?_⟩, ?_⟩, ?_⟩, ?_⟩, ?_⟩, ?_⟩
  all_goals decide +kernel
set_option maxRecDepth 1000000 in
set_option maxHeartbeats 4000000 in
theorem isw_95 : isw 647 (pg_cw 95) = true := by
  have h : lw_tbl[647]? = some (pg_cw 95) := rfl
  unfold isw
  rw [h, decide_eq_true rfl]
  decide +kernel
theorem chkC_95 : chkC 95 = true := by
  unfold chkC
  dsimp only
  rw [Bool.and_eq_true, Bool.and_eq_true, Bool.and_eq_true, Bool.and_eq_true, Bool.and_eq_true, Bool.and_eq_true, Bool.and_eq_true, Bool.and_eq_true, Bool.and_eq_true, Bool.and_eq_true, Bool.and_eq_true, Bool.and_eq_true]
  refine ⟨⟨⟨⟨⟨⟨⟨⟨⟨⟨⟨⟨isw_95, ?_⟩, ?_⟩, ?_⟩, ?_⟩, ?_⟩, ?_⟩, ?_⟩, ?_⟩, ?_⟩, ?_⟩, ?_⟩, ?_⟩
  all_goals decide +kernel
set_option maxRecDepth 1000000 in
set_option maxHeartbeats 4000000 in
theorem isw_96 : isw 685 (pg_cw 96) = true := by
  have h : lw_tbl[685]? = some (pg_cw 96) := rfl
  unfold isw
  rw [h, decide_eq_true rfl]
  decide +kernel
theorem chkC_96 : chkC 96 = true := by
  unfold chkC
  dsimp only
  rw [Bool.and_eq_true, Bool.and_eq_true, Bool.and_eq_true, Bool.and_eq_true, Bool.and_eq_true, Bool.and_eq_true, Bool.and_eq_true, Bool.and_eq_true, Bool.and_eq_true, Bool.and_eq_true, Bool.and_eq_true, Bool.and_eq_true]
  refine ⟨⟨⟨⟨⟨⟨⟨⟨⟨⟨⟨⟨isw_96, ?_⟩, ?_⟩, ?_⟩, ?_⟩, ?_⟩, ?_⟩, ?_⟩, ?_⟩, ?_⟩, ?_⟩, ?_⟩, ?_⟩
  all_goals decide +kernel
set_option maxRecDepth 1000000 in
set_option maxHeartbeats 4000000 in
theorem isw_97 : isw 483 (pg_cw 97) = true := by
  have h : lw_tbl[483]? = some (pg_cw 97) := rfl
  unfold isw
  rw [h, decide_eq_true rfl]
  decide +kernel
theorem chkC_97 : chkC 97 = true := by
  unfold chkC
  dsimp only
  rw [Bool.and_eq_true, Bool.and_eq_true, Bool.and_eq_true, Bool.and_eq_true, Bool.and_eq_true, Bool.and_eq_true, Bool.and_eq_true, Bool.and_eq_true, Bool.and_eq_true, Bool.and_eq_true, Bool.and_eq_true, Bool.and_eq_true]
  refine ⟨⟨⟨⟨⟨⟨⟨⟨⟨⟨⟨⟨isw_97, ?_⟩, ?_⟩, ?_⟩, ?_⟩, ?_⟩, ?_⟩, ?_⟩, ?_⟩, ?_⟩, ?_⟩, ?_⟩, ?_⟩
  all_goals decide +kernel
set_option maxRecDepth 1000000 in
set_option maxHeartbeats 4000000 in
theorem isw_98 : isw 594 (pg_cw 98) = true := by
  have h : lw_tbl[594]? = some (pg_cw 98) := rfl
  unfold isw
  rw [h, decide_eq_true rfl]
  decide +kernel
theorem chkC_98 : chkC 98 = true := by
  unfold chkC
  dsimp only
  rw [Bool.and_eq_true, Bool.and_eq_true, Bool.and_eq_true, Bool.and_eq_true, Bool.and_eq_true, Bool.and_eq_true, Bool.and_eq_true, Bool.and_eq_true, Bool.and_eq_true, Bool.and_eq_true, Bool.and_eq_true, Bool.and_eq_true]
  refine ⟨⟨⟨⟨⟨⟨⟨⟨⟨⟨⟨⟨isw_98, ?_⟩, ?_⟩, ?_⟩, ?_⟩, ?_⟩, ?_⟩, ?_⟩, ?_⟩, ?_⟩, ?_⟩, ?_⟩, ?_⟩
  all_goals decide +kernel
set_option maxRecDepth 1000000 in
set_option maxHeartbeats 4000000 in
theorem isw_99 : isw 644 (pg_cw 99) = true := by
  have h : lw_tbl[644]? = some (pg_cw 99) := rfl
  unfold isw
  rw [h, decide_eq_true rfl]
  decide +kernel
theorem chkC_99 : chkC 99 = true := by
  unfold chkC
  dsimp only
  rw [Bool.and_eq_true, Bool.and_eq_true, Bool.and_eq_true, Bool.and_eq_true, Bool.and_eq_true, Bool.and_eq_true, Bool.and_eq_true, Bool.and_eq_true, Bool.and_eq_true, Bool.and_eq_true, Bool.and_eq_true, Bool.and_eq_true]
  refine ⟨⟨⟨⟨⟨⟨⟨⟨⟨⟨⟨⟨isw_99, ?_⟩, ?_⟩, ?_⟩, ?_⟩, ?_⟩, ?_⟩, ?_⟩, ?_⟩, ?_⟩, ?_⟩, ?_⟩, ?_⟩
  all_goals decide +kernel
set_option maxRecDepth 1000000 in
set_option maxHeartbeats 4000000 in
theorem isw_100 : isw 42 (pg_cw 100) = true := by
  have h : lw_tbl[42]? = some (pg_cw 100) := rfl
  unfold isw
  rw [h, decide_eq_true rfl]
  decide +kernel
theorem chkC_100 : chkC 100 = true := by
  unfold chkC
  dsimp only
  rw [Bool.and_eq_true, Bool.and_eq_true, Bool.and_eq_true, Bool.and_eq_true, Bool.and_eq_true, Bool.and_eq_true, Bool.and_eq_true, Bool.and_eq_true, Bool.and_eq_true, Bool.and_eq_true, Bool.and_eq_true, Bool.and_eq_true]
  refine ⟨⟨⟨⟨⟨⟨⟨⟨⟨⟨⟨⟨isw_100, ?_⟩, ?_⟩, ?_⟩, ?_⟩, ?_⟩, ?_⟩, ?_⟩, ?_⟩, ?_⟩, ?_⟩, ?_⟩, ?_⟩
  all_goals decide +kernel
theorem chk_98_224 : chk 98 224 = true := by
  unfold chk
  rw [show pg_at 98 224 = some (40, 94, 0, 78) by decide +kernel]
  show (dc 98 224 (.invokestatic (78 : Int).toNat) 3 && chkC 94 && pg_sta 94 && isw ((pg_wd 98 224).getD 0 0) (.methodLink (pg_own 98) (78 : Int).toNat (pg_nm 94))) = true
  rw [Bool.and_eq_true, Bool.and_eq_true, Bool.and_eq_true]
  refine ⟨⟨⟨?_, chkC_94⟩, ?_⟩, ?_⟩
  all_goals decide +kernel
theorem ck_98_224 : chkR 98 224 1 = true := by
  unfold chkR
  rw [List.all_eq_true]
  intro i hi
  have := List.mem_range.mp hi
  obtain rfl : i = 0 := by omega
  exact chk_98_224
theorem chk_99_24 : chk 99 24 = true := by
  unfold chk
  rw [show pg_at 99 24 = some (40, 87, 0, 54) by decide +kernel]
  show (dc 99 24 (.invokestatic (54 : Int).toNat) 3 && chkC 87 && pg_sta 87 && isw ((pg_wd 99 24).getD 0 0) (.methodLink (pg_own 99) (54 : Int).toNat (pg_nm 87))) = true
  rw [Bool.and_eq_true, Bool.and_eq_true, Bool.and_eq_true]
  refine ⟨⟨⟨?_, chkC_87⟩, ?_⟩, ?_⟩
  all_goals decide +kernel
theorem ck_99_24 : chkR 99 24 1 = true := by
  unfold chkR
  rw [List.all_eq_true]
  intro i hi
  have := List.mem_range.mp hi
  obtain rfl : i = 0 := by omega
  exact chk_99_24
theorem chk_99_46 : chk 99 46 = true := by
  unfold chk
  rw [show pg_at 99 46 = some (40, 95, 0, 143) by decide +kernel]
  show (dc 99 46 (.invokestatic (143 : Int).toNat) 3 && chkC 95 && pg_sta 95 && isw ((pg_wd 99 46).getD 0 0) (.methodLink (pg_own 99) (143 : Int).toNat (pg_nm 95))) = true
  rw [Bool.and_eq_true, Bool.and_eq_true, Bool.and_eq_true]
  refine ⟨⟨⟨?_, chkC_95⟩, ?_⟩, ?_⟩
  all_goals decide +kernel
theorem ck_99_46 : chkR 99 46 1 = true := by
  unfold chkR
  rw [List.all_eq_true]
  intro i hi
  have := List.mem_range.mp hi
  obtain rfl : i = 0 := by omega
  exact chk_99_46
theorem chk_100_138 : chk 100 138 = true := by
  unfold chk
  rw [show pg_at 100 138 = some (40, 85, 0, 164) by decide +kernel]
  show (dc 100 138 (.invokestatic (164 : Int).toNat) 3 && chkC 85 && pg_sta 85 && isw ((pg_wd 100 138).getD 0 0) (.methodLink (pg_own 100) (164 : Int).toNat (pg_nm 85))) = true
  rw [Bool.and_eq_true, Bool.and_eq_true, Bool.and_eq_true]
  refine ⟨⟨⟨?_, chkC_85⟩, ?_⟩, ?_⟩
  all_goals decide +kernel
theorem ck_100_138 : chkR 100 138 1 = true := by
  unfold chkR
  rw [List.all_eq_true]
  intro i hi
  have := List.mem_range.mp hi
  obtain rfl : i = 0 := by omega
  exact chk_100_138
theorem chk_100_148 : chk 100 148 = true := by
  unfold chk
  rw [show pg_at 100 148 = some (40, 97, 0, 168) by decide +kernel]
  show (dc 100 148 (.invokestatic (168 : Int).toNat) 3 && chkC 97 && pg_sta 97 && isw ((pg_wd 100 148).getD 0 0) (.methodLink (pg_own 100) (168 : Int).toNat (pg_nm 97))) = true
  rw [Bool.and_eq_true, Bool.and_eq_true, Bool.and_eq_true]
  refine ⟨⟨⟨?_, chkC_97⟩, ?_⟩, ?_⟩
  all_goals decide +kernel
theorem ck_100_148 : chkR 100 148 1 = true := by
  unfold chkR
  rw [List.all_eq_true]
  intro i hi
  have := List.mem_range.mp hi
  obtain rfl : i = 0 := by omega
  exact chk_100_148
theorem chk_100_160 : chk 100 160 = true := by
  unfold chk
  rw [show pg_at 100 160 = some (40, 92, 0, 172) by decide +kernel]
  show (dc 100 160 (.invokestatic (172 : Int).toNat) 3 && chkC 92 && pg_sta 92 && isw ((pg_wd 100 160).getD 0 0) (.methodLink (pg_own 100) (172 : Int).toNat (pg_nm 92))) = true
  rw [Bool.and_eq_true, Bool.and_eq_true, Bool.and_eq_true]
  refine ⟨⟨⟨?_, chkC_92⟩, ?_⟩, ?_⟩
  all_goals decide +kernel
theorem ck_100_160 : chkR 100 160 1 = true := by
  unfold chkR
  rw [List.all_eq_true]
  intro i hi
  have := List.mem_range.mp hi
  obtain rfl : i = 0 := by omega
  exact chk_100_160
theorem chk_100_181 : chk 100 181 = true := by
  unfold chk
  rw [show pg_at 100 181 = some (40, 98, 0, 176) by decide +kernel]
  show (dc 100 181 (.invokestatic (176 : Int).toNat) 3 && chkC 98 && pg_sta 98 && isw ((pg_wd 100 181).getD 0 0) (.methodLink (pg_own 100) (176 : Int).toNat (pg_nm 98))) = true
  rw [Bool.and_eq_true, Bool.and_eq_true, Bool.and_eq_true]
  refine ⟨⟨⟨?_, chkC_98⟩, ?_⟩, ?_⟩
  all_goals decide +kernel
theorem ck_100_181 : chkR 100 181 1 = true := by
  unfold chkR
  rw [List.all_eq_true]
  intro i hi
  have := List.mem_range.mp hi
  obtain rfl : i = 0 := by omega
  exact chk_100_181
theorem chk_100_196 : chk 100 196 = true := by
  unfold chk
  rw [show pg_at 100 196 = some (40, 99, 0, 180) by decide +kernel]
  show (dc 100 196 (.invokestatic (180 : Int).toNat) 3 && chkC 99 && pg_sta 99 && isw ((pg_wd 100 196).getD 0 0) (.methodLink (pg_own 100) (180 : Int).toNat (pg_nm 99))) = true
  rw [Bool.and_eq_true, Bool.and_eq_true, Bool.and_eq_true]
  refine ⟨⟨⟨?_, chkC_99⟩, ?_⟩, ?_⟩
  all_goals decide +kernel
theorem ck_100_196 : chkR 100 196 1 = true := by
  unfold chkR
  rw [List.all_eq_true]
  intro i hi
  have := List.mem_range.mp hi
  obtain rfl : i = 0 := by omega
  exact chk_100_196
theorem chk_100_210 : chk 100 210 = true := by
  unfold chk
  rw [show pg_at 100 210 = some (40, 96, 0, 184) by decide +kernel]
  show (dc 100 210 (.invokestatic (184 : Int).toNat) 3 && chkC 96 && pg_sta 96 && isw ((pg_wd 100 210).getD 0 0) (.methodLink (pg_own 100) (184 : Int).toNat (pg_nm 96))) = true
  rw [Bool.and_eq_true, Bool.and_eq_true, Bool.and_eq_true]
  refine ⟨⟨⟨?_, chkC_96⟩, ?_⟩, ?_⟩
  all_goals decide +kernel
theorem ck_100_210 : chkR 100 210 1 = true := by
  unfold chkR
  rw [List.all_eq_true]
  intro i hi
  have := List.mem_range.mp hi
  obtain rfl : i = 0 := by omega
  exact chk_100_210
theorem chk_101_1 : chk 101 1 = true := by
  unfold chk
  rw [show pg_at 101 1 = some (40, 100, 0, 188) by decide +kernel]
  show (dc 101 1 (.invokestatic (188 : Int).toNat) 3 && chkC 100 && pg_sta 100 && isw ((pg_wd 101 1).getD 0 0) (.methodLink (pg_own 101) (188 : Int).toNat (pg_nm 100))) = true
  rw [Bool.and_eq_true, Bool.and_eq_true, Bool.and_eq_true]
  refine ⟨⟨⟨?_, chkC_100⟩, ?_⟩, ?_⟩
  all_goals decide +kernel
theorem ck_101_1 : chkR 101 1 1 = true := by
  unfold chkR
  rw [List.all_eq_true]
  intro i hi
  have := List.mem_range.mp hi
  obtain rfl : i = 0 := by omega
  exact chk_101_1
set_option maxRecDepth 100000 in
def ck_97_0 : chkR 97 0 24 = true := by decide +kernel
set_option maxRecDepth 100000 in
def ck_97_24 : chkR 97 24 24 = true := by decide +kernel
set_option maxRecDepth 100000 in
def ck_97_48 : chkR 97 48 24 = true := by decide +kernel
set_option maxRecDepth 100000 in
def ck_97_72 : chkR 97 72 24 = true := by decide +kernel
set_option maxRecDepth 100000 in
def ck_97_96 : chkR 97 96 24 = true := by decide +kernel
set_option maxRecDepth 100000 in
def ck_97_120 : chkR 97 120 24 = true := by decide +kernel
set_option maxRecDepth 100000 in
def ck_97_144 : chkR 97 144 14 = true := by decide +kernel
theorem ck_97 : ∀ i, i < 158 → chk 97 i = true := by
  intro i hi
  by_cases h0 : i < 24
  · exact chkR_at ck_97_0 (by omega) (by omega)
  by_cases h24 : i < 48
  · exact chkR_at ck_97_24 (by omega) (by omega)
  by_cases h48 : i < 72
  · exact chkR_at ck_97_48 (by omega) (by omega)
  by_cases h72 : i < 96
  · exact chkR_at ck_97_72 (by omega) (by omega)
  by_cases h96 : i < 120
  · exact chkR_at ck_97_96 (by omega) (by omega)
  by_cases h120 : i < 144
  · exact chkR_at ck_97_120 (by omega) (by omega)
  exact chkR_at ck_97_144 (by omega) (by omega)
set_option maxRecDepth 100000 in
def ck_98_0 : chkR 98 0 24 = true := by decide +kernel
set_option maxRecDepth 100000 in
def ck_98_24 : chkR 98 24 24 = true := by decide +kernel
set_option maxRecDepth 100000 in
def ck_98_48 : chkR 98 48 24 = true := by decide +kernel
set_option maxRecDepth 100000 in
def ck_98_72 : chkR 98 72 24 = true := by decide +kernel
set_option maxRecDepth 100000 in
def ck_98_96 : chkR 98 96 24 = true := by decide +kernel
set_option maxRecDepth 100000 in
def ck_98_120 : chkR 98 120 24 = true := by decide +kernel
set_option maxRecDepth 100000 in
def ck_98_144 : chkR 98 144 24 = true := by decide +kernel
set_option maxRecDepth 100000 in
def ck_98_168 : chkR 98 168 24 = true := by decide +kernel
set_option maxRecDepth 100000 in
def ck_98_192 : chkR 98 192 24 = true := by decide +kernel
set_option maxRecDepth 100000 in
def ck_98_216 : chkR 98 216 8 = true := by decide +kernel
set_option maxRecDepth 100000 in
def ck_98_225 : chkR 98 225 24 = true := by decide +kernel
set_option maxRecDepth 100000 in
def ck_98_249 : chkR 98 249 24 = true := by decide +kernel
set_option maxRecDepth 100000 in
def ck_98_273 : chkR 98 273 24 = true := by decide +kernel
set_option maxRecDepth 100000 in
def ck_98_297 : chkR 98 297 24 = true := by decide +kernel
set_option maxRecDepth 100000 in
def ck_98_321 : chkR 98 321 17 = true := by decide +kernel
theorem ck_98 : ∀ i, i < 338 → chk 98 i = true := by
  intro i hi
  by_cases h0 : i < 24
  · exact chkR_at ck_98_0 (by omega) (by omega)
  by_cases h24 : i < 48
  · exact chkR_at ck_98_24 (by omega) (by omega)
  by_cases h48 : i < 72
  · exact chkR_at ck_98_48 (by omega) (by omega)
  by_cases h72 : i < 96
  · exact chkR_at ck_98_72 (by omega) (by omega)
  by_cases h96 : i < 120
  · exact chkR_at ck_98_96 (by omega) (by omega)
  by_cases h120 : i < 144
  · exact chkR_at ck_98_120 (by omega) (by omega)
  by_cases h144 : i < 168
  · exact chkR_at ck_98_144 (by omega) (by omega)
  by_cases h168 : i < 192
  · exact chkR_at ck_98_168 (by omega) (by omega)
  by_cases h192 : i < 216
  · exact chkR_at ck_98_192 (by omega) (by omega)
  by_cases h216 : i < 224
  · exact chkR_at ck_98_216 (by omega) (by omega)
  by_cases h224 : i < 225
  · exact chkR_at ck_98_224 (by omega) (by omega)
  by_cases h225 : i < 249
  · exact chkR_at ck_98_225 (by omega) (by omega)
  by_cases h249 : i < 273
  · exact chkR_at ck_98_249 (by omega) (by omega)
  by_cases h273 : i < 297
  · exact chkR_at ck_98_273 (by omega) (by omega)
  by_cases h297 : i < 321
  · exact chkR_at ck_98_297 (by omega) (by omega)
  exact chkR_at ck_98_321 (by omega) (by omega)
set_option maxRecDepth 100000 in
def ck_99_0 : chkR 99 0 24 = true := by decide +kernel
set_option maxRecDepth 100000 in
def ck_99_25 : chkR 99 25 21 = true := by decide +kernel
set_option maxRecDepth 100000 in
def ck_99_47 : chkR 99 47 24 = true := by decide +kernel
set_option maxRecDepth 100000 in
def ck_99_71 : chkR 99 71 24 = true := by decide +kernel
set_option maxRecDepth 100000 in
def ck_99_95 : chkR 99 95 24 = true := by decide +kernel
set_option maxRecDepth 100000 in
def ck_99_119 : chkR 99 119 24 = true := by decide +kernel
set_option maxRecDepth 100000 in
def ck_99_143 : chkR 99 143 4 = true := by decide +kernel
theorem ck_99 : ∀ i, i < 147 → chk 99 i = true := by
  intro i hi
  by_cases h0 : i < 24
  · exact chkR_at ck_99_0 (by omega) (by omega)
  by_cases h24 : i < 25
  · exact chkR_at ck_99_24 (by omega) (by omega)
  by_cases h25 : i < 46
  · exact chkR_at ck_99_25 (by omega) (by omega)
  by_cases h46 : i < 47
  · exact chkR_at ck_99_46 (by omega) (by omega)
  by_cases h47 : i < 71
  · exact chkR_at ck_99_47 (by omega) (by omega)
  by_cases h71 : i < 95
  · exact chkR_at ck_99_71 (by omega) (by omega)
  by_cases h95 : i < 119
  · exact chkR_at ck_99_95 (by omega) (by omega)
  by_cases h119 : i < 143
  · exact chkR_at ck_99_119 (by omega) (by omega)
  exact chkR_at ck_99_143 (by omega) (by omega)
set_option maxRecDepth 100000 in
def ck_100_0 : chkR 100 0 24 = true := by decide +kernel
set_option maxRecDepth 100000 in
def ck_100_24 : chkR 100 24 24 = true := by decide +kernel
set_option maxRecDepth 100000 in
def ck_100_48 : chkR 100 48 24 = true := by decide +kernel
set_option maxRecDepth 100000 in
def ck_100_72 : chkR 100 72 24 = true := by decide +kernel
set_option maxRecDepth 100000 in
def ck_100_96 : chkR 100 96 24 = true := by decide +kernel
set_option maxRecDepth 100000 in
def ck_100_120 : chkR 100 120 18 = true := by decide +kernel
set_option maxRecDepth 100000 in
def ck_100_139 : chkR 100 139 9 = true := by decide +kernel
set_option maxRecDepth 100000 in
def ck_100_149 : chkR 100 149 11 = true := by decide +kernel
set_option maxRecDepth 100000 in
def ck_100_161 : chkR 100 161 20 = true := by decide +kernel
set_option maxRecDepth 100000 in
def ck_100_182 : chkR 100 182 14 = true := by decide +kernel
set_option maxRecDepth 100000 in
def ck_100_197 : chkR 100 197 13 = true := by decide +kernel
set_option maxRecDepth 100000 in
def ck_100_211 : chkR 100 211 9 = true := by decide +kernel
theorem ck_100 : ∀ i, i < 220 → chk 100 i = true := by
  intro i hi
  by_cases h0 : i < 24
  · exact chkR_at ck_100_0 (by omega) (by omega)
  by_cases h24 : i < 48
  · exact chkR_at ck_100_24 (by omega) (by omega)
  by_cases h48 : i < 72
  · exact chkR_at ck_100_48 (by omega) (by omega)
  by_cases h72 : i < 96
  · exact chkR_at ck_100_72 (by omega) (by omega)
  by_cases h96 : i < 120
  · exact chkR_at ck_100_96 (by omega) (by omega)
  by_cases h120 : i < 138
  · exact chkR_at ck_100_120 (by omega) (by omega)
  by_cases h138 : i < 139
  · exact chkR_at ck_100_138 (by omega) (by omega)
  by_cases h139 : i < 148
  · exact chkR_at ck_100_139 (by omega) (by omega)
  by_cases h148 : i < 149
  · exact chkR_at ck_100_148 (by omega) (by omega)
  by_cases h149 : i < 160
  · exact chkR_at ck_100_149 (by omega) (by omega)
  by_cases h160 : i < 161
  · exact chkR_at ck_100_160 (by omega) (by omega)
  by_cases h161 : i < 181
  · exact chkR_at ck_100_161 (by omega) (by omega)
  by_cases h181 : i < 182
  · exact chkR_at ck_100_181 (by omega) (by omega)
  by_cases h182 : i < 196
  · exact chkR_at ck_100_182 (by omega) (by omega)
  by_cases h196 : i < 197
  · exact chkR_at ck_100_196 (by omega) (by omega)
  by_cases h197 : i < 210
  · exact chkR_at ck_100_197 (by omega) (by omega)
  by_cases h210 : i < 211
  · exact chkR_at ck_100_210 (by omega) (by omega)
  exact chkR_at ck_100_211 (by omega) (by omega)
set_option maxRecDepth 100000 in
def ck_101_0 : chkR 101 0 1 = true := by decide +kernel
set_option maxRecDepth 100000 in
def ck_101_2 : chkR 101 2 10 = true := by decide +kernel
theorem ck_101 : ∀ i, i < 12 → chk 101 i = true := by
  intro i hi
  by_cases h0 : i < 1
  · exact chkR_at ck_101_0 (by omega) (by omega)
  by_cases h1 : i < 2
  · exact chkR_at ck_101_1 (by omega) (by omega)
  exact chkR_at ck_101_2 (by omega) (by omega)
set_option maxRecDepth 100000 in
def ck_102_0 : chkR 102 0 3 = true := by decide +kernel
theorem ck_102 : ∀ i, i < 3 → chk 102 i = true := by
  intro i hi
  exact chkR_at ck_102_0 (by omega) (by omega)
