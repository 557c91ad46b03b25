/-- a stretch of a method is checked -/
def chkR (y lo n : Nat) : Bool := (List.range n).all (fun i => chk y (lo + i))
theorem chkR_at {y lo n i : Nat} (h : chkR y lo n = true) (h1 : lo ≤ i) (h2 : i < lo + n) : chk y i = true := by
  unfold chkR at h
  rw [List.all_eq_true] at h
  have := h (i - lo) (List.mem_range.mpr (by omega))
  rwa [show lo + (i - lo) = i by omega] at this
set_option maxRecDepth 100000 in
def ck_0_0 : chkR 0 0 21 = true := by decide +kernel
theorem ck_0 : ∀ i, i < 21 → chk 0 i = true := by
  intro i hi
  exact chkR_at ck_0_0 (by omega) (by omega)
set_option maxRecDepth 100000 in
def ck_1_0 : chkR 1 0 10 = true := by decide +kernel
theorem ck_1 : ∀ i, i < 10 → chk 1 i = true := by
  intro i hi
  exact chkR_at ck_1_0 (by omega) (by omega)
set_option maxRecDepth 100000 in
def ck_2_0 : chkR 2 0 24 = true := by decide +kernel
set_option maxRecDepth 100000 in
def ck_2_24 : chkR 2 24 2 = true := by decide +kernel
theorem ck_2 : ∀ i, i < 26 → chk 2 i = true := by
  intro i hi
  by_cases h0 : i < 24
  · exact chkR_at ck_2_0 (by omega) (by omega)
  exact chkR_at ck_2_24 (by omega) (by omega)
set_option maxRecDepth 100000 in
def ck_3_0 : chkR 3 0 24 = true := by decide +kernel
set_option maxRecDepth 100000 in
def ck_3_24 : chkR 3 24 2 = true := by decide +kernel
theorem ck_3 : ∀ i, i < 26 → chk 3 i = true := by
  intro i hi
  by_cases h0 : i < 24
  · exact chkR_at ck_3_0 (by omega) (by omega)
  exact chkR_at ck_3_24 (by omega) (by omega)
set_option maxRecDepth 100000 in
def ck_4_0 : chkR 4 0 22 = true := by decide +kernel
theorem ck_4 : ∀ i, i < 22 → chk 4 i = true := by
  intro i hi
  exact chkR_at ck_4_0 (by omega) (by omega)
set_option maxRecDepth 100000 in
def ck_5_0 : chkR 5 0 20 = true := by decide +kernel
theorem ck_5 : ∀ i, i < 20 → chk 5 i = true := by
  intro i hi
  exact chkR_at ck_5_0 (by omega) (by omega)
set_option maxRecDepth 100000 in
def ck_6_0 : chkR 6 0 24 = true := by decide +kernel
set_option maxRecDepth 100000 in
def ck_6_24 : chkR 6 24 5 = true := by decide +kernel
theorem ck_6 : ∀ i, i < 29 → chk 6 i = true := by
  intro i hi
  by_cases h0 : i < 24
  · exact chkR_at ck_6_0 (by omega) (by omega)
  exact chkR_at ck_6_24 (by omega) (by omega)
set_option maxRecDepth 100000 in
def ck_7_0 : chkR 7 0 24 = true := by decide +kernel
set_option maxRecDepth 100000 in
def ck_7_24 : chkR 7 24 16 = true := by decide +kernel
theorem ck_7 : ∀ i, i < 40 → chk 7 i = true := by
  intro i hi
  by_cases h0 : i < 24
  · exact chkR_at ck_7_0 (by omega) (by omega)
  exact chkR_at ck_7_24 (by omega) (by omega)
set_option maxRecDepth 100000 in
def ck_8_0 : chkR 8 0 3 = true := by decide +kernel
theorem ck_8 : ∀ i, i < 3 → chk 8 i = true := by
  intro i hi
  exact chkR_at ck_8_0 (by omega) (by omega)
set_option maxRecDepth 100000 in
def ck_9_0 : chkR 9 0 19 = true := by decide +kernel
theorem ck_9 : ∀ i, i < 19 → chk 9 i = true := by
  intro i hi
  exact chkR_at ck_9_0 (by omega) (by omega)
set_option maxRecDepth 100000 in
def ck_10_0 : chkR 10 0 9 = true := by decide +kernel
theorem ck_10 : ∀ i, i < 9 → chk 10 i = true := by
  intro i hi
  exact chkR_at ck_10_0 (by omega) (by omega)
set_option maxRecDepth 100000 in
def ck_11_0 : chkR 11 0 9 = true := by decide +kernel
theorem ck_11 : ∀ i, i < 9 → chk 11 i = true := by
  intro i hi
  exact chkR_at ck_11_0 (by omega) (by omega)
set_option maxRecDepth 100000 in
def ck_12_0 : chkR 12 0 24 = true := by decide +kernel
set_option maxRecDepth 100000 in
def ck_12_24 : chkR 12 24 20 = true := by decide +kernel
theorem ck_12 : ∀ i, i < 44 → chk 12 i = true := by
  intro i hi
  by_cases h0 : i < 24
  · exact chkR_at ck_12_0 (by omega) (by omega)
  exact chkR_at ck_12_24 (by omega) (by omega)
set_option maxRecDepth 100000 in
def ck_13_0 : chkR 13 0 24 = true := by decide +kernel
set_option maxRecDepth 100000 in
def ck_13_24 : chkR 13 24 24 = true := by decide +kernel
set_option maxRecDepth 100000 in
def ck_13_48 : chkR 13 48 24 = true := by decide +kernel
set_option maxRecDepth 100000 in
def ck_13_72 : chkR 13 72 24 = true := by decide +kernel
set_option maxRecDepth 100000 in
def ck_13_96 : chkR 13 96 4 = true := by decide +kernel
theorem ck_13 : ∀ i, i < 100 → chk 13 i = true := by
  intro i hi
  by_cases h0 : i < 24
  · exact chkR_at ck_13_0 (by omega) (by omega)
  by_cases h24 : i < 48
  · exact chkR_at ck_13_24 (by omega) (by omega)
  by_cases h48 : i < 72
  · exact chkR_at ck_13_48 (by omega) (by omega)
  by_cases h72 : i < 96
  · exact chkR_at ck_13_72 (by omega) (by omega)
  exact chkR_at ck_13_96 (by omega) (by omega)
set_option maxRecDepth 100000 in
def ck_14_0 : chkR 14 0 24 = true := by decide +kernel
set_option maxRecDepth 100000 in
def ck_14_24 : chkR 14 24 21 = true := by decide +kernel
theorem ck_14 : ∀ i, i < 45 → chk 14 i = true := by
  intro i hi
  by_cases h0 : i < 24
  · exact chkR_at ck_14_0 (by omega) (by omega)
  exact chkR_at ck_14_24 (by omega) (by omega)
set_option maxRecDepth 100000 in
def ck_15_0 : chkR 15 0 10 = true := by decide +kernel
theorem ck_15 : ∀ i, i < 10 → chk 15 i = true := by
  intro i hi
  exact chkR_at ck_15_0 (by omega) (by omega)
set_option maxRecDepth 100000 in
def ck_16_0 : chkR 16 0 24 = true := by decide +kernel
set_option maxRecDepth 100000 in
def ck_16_24 : chkR 16 24 24 = true := by decide +kernel
set_option maxRecDepth 100000 in
def ck_16_48 : chkR 16 48 24 = true := by decide +kernel
set_option maxRecDepth 100000 in
def ck_16_72 : chkR 16 72 24 = true := by decide +kernel
set_option maxRecDepth 100000 in
def ck_16_96 : chkR 16 96 17 = true := by decide +kernel
theorem ck_16 : ∀ i, i < 113 → chk 16 i = true := by
  intro i hi
  by_cases h0 : i < 24
  · exact chkR_at ck_16_0 (by omega) (by omega)
  by_cases h24 : i < 48
  · exact chkR_at ck_16_24 (by omega) (by omega)
  by_cases h48 : i < 72
  · exact chkR_at ck_16_48 (by omega) (by omega)
  by_cases h72 : i < 96
  · exact chkR_at ck_16_72 (by omega) (by omega)
  exact chkR_at ck_16_96 (by omega) (by omega)
set_option maxRecDepth 100000 in
def ck_17_0 : chkR 17 0 24 = true := by decide +kernel
set_option maxRecDepth 100000 in
def ck_17_24 : chkR 17 24 7 = true := by decide +kernel
theorem ck_17 : ∀ i, i < 31 → chk 17 i = true := by
  intro i hi
  by_cases h0 : i < 24
  · exact chkR_at ck_17_0 (by omega) (by omega)
  exact chkR_at ck_17_24 (by omega) (by omega)
set_option maxRecDepth 100000 in
def ck_18_0 : chkR 18 0 24 = true := by decide +kernel
set_option maxRecDepth 100000 in
def ck_18_24 : chkR 18 24 24 = true := by decide +kernel
set_option maxRecDepth 100000 in
def ck_18_48 : chkR 18 48 2 = true := by decide +kernel
theorem ck_18 : ∀ i, i < 50 → chk 18 i = true := by
  intro i hi
  by_cases h0 : i < 24
  · exact chkR_at ck_18_0 (by omega) (by omega)
  by_cases h24 : i < 48
  · exact chkR_at ck_18_24 (by omega) (by omega)
  exact chkR_at ck_18_48 (by omega) (by omega)
set_option maxRecDepth 100000 in
def ck_19_0 : chkR 19 0 24 = true := by decide +kernel
set_option maxRecDepth 100000 in
def ck_19_24 : chkR 19 24 24 = true := by decide +kernel
set_option maxRecDepth 100000 in
def ck_19_48 : chkR 19 48 24 = true := by decide +kernel
set_option maxRecDepth 100000 in
def ck_19_72 : chkR 19 72 7 = true := by decide +kernel
theorem ck_19 : ∀ i, i < 79 → chk 19 i = true := by
  intro i hi
  by_cases h0 : i < 24
  · exact chkR_at ck_19_0 (by omega) (by omega)
  by_cases h24 : i < 48
  · exact chkR_at ck_19_24 (by omega) (by omega)
  by_cases h48 : i < 72
  · exact chkR_at ck_19_48 (by omega) (by omega)
  exact chkR_at ck_19_72 (by omega) (by omega)
set_option maxRecDepth 100000 in
def ck_20_0 : chkR 20 0 24 = true := by decide +kernel
set_option maxRecDepth 100000 in
def ck_20_24 : chkR 20 24 3 = true := by decide +kernel
theorem ck_20 : ∀ i, i < 27 → chk 20 i = true := by
  intro i hi
  by_cases h0 : i < 24
  · exact chkR_at ck_20_0 (by omega) (by omega)
  exact chkR_at ck_20_24 (by omega) (by omega)
set_option maxRecDepth 100000 in
def ck_21_0 : chkR 21 0 24 = true := by decide +kernel
set_option maxRecDepth 100000 in
def ck_21_24 : chkR 21 24 11 = true := by decide +kernel
theorem ck_21 : ∀ i, i < 35 → chk 21 i = true := by
  intro i hi
  by_cases h0 : i < 24
  · exact chkR_at ck_21_0 (by omega) (by omega)
  exact chkR_at ck_21_24 (by omega) (by omega)
set_option maxRecDepth 100000 in
def ck_22_0 : chkR 22 0 24 = true := by decide +kernel
set_option maxRecDepth 100000 in
def ck_22_24 : chkR 22 24 24 = true := by decide +kernel
set_option maxRecDepth 100000 in
def ck_22_48 : chkR 22 48 23 = true := by decide +kernel
theorem ck_22 : ∀ i, i < 71 → chk 22 i = true := by
  intro i hi
  by_cases h0 : i < 24
  · exact chkR_at ck_22_0 (by omega) (by omega)
  by_cases h24 : i < 48
  · exact chkR_at ck_22_24 (by omega) (by omega)
  exact chkR_at ck_22_48 (by omega) (by omega)
set_option maxRecDepth 100000 in
def ck_23_0 : chkR 23 0 24 = true := by decide +kernel
set_option maxRecDepth 100000 in
def ck_23_24 : chkR 23 24 24 = true := by decide +kernel
set_option maxRecDepth 100000 in
def ck_23_48 : chkR 23 48 24 = true := by decide +kernel
set_option maxRecDepth 100000 in
def ck_23_72 : chkR 23 72 5 = true := by decide +kernel
theorem ck_23 : ∀ i, i < 77 → chk 23 i = true := by
  intro i hi
  by_cases h0 : i < 24
  · exact chkR_at ck_23_0 (by omega) (by omega)
  by_cases h24 : i < 48
  · exact chkR_at ck_23_24 (by omega) (by omega)
  by_cases h48 : i < 72
  · exact chkR_at ck_23_48 (by omega) (by omega)
  exact chkR_at ck_23_72 (by omega) (by omega)
set_option maxRecDepth 100000 in
def ck_24_0 : chkR 24 0 14 = true := by decide +kernel
theorem ck_24 : ∀ i, i < 14 → chk 24 i = true := by
  intro i hi
  exact chkR_at ck_24_0 (by omega) (by omega)
set_option maxRecDepth 100000 in
def ck_25_0 : chkR 25 0 24 = true := by decide +kernel
set_option maxRecDepth 100000 in
def ck_25_24 : chkR 25 24 2 = true := by decide +kernel
theorem ck_25 : ∀ i, i < 26 → chk 25 i = true := by
  intro i hi
  by_cases h0 : i < 24
  · exact chkR_at ck_25_0 (by omega) (by omega)
  exact chkR_at ck_25_24 (by omega) (by omega)
set_option maxRecDepth 100000 in
def ck_26_0 : chkR 26 0 22 = true := by decide +kernel
theorem ck_26 : ∀ i, i < 22 → chk 26 i = true := by
  intro i hi
  exact chkR_at ck_26_0 (by omega) (by omega)
set_option maxRecDepth 100000 in
def ck_27_0 : chkR 27 0 8 = true := by decide +kernel
theorem ck_27 : ∀ i, i < 8 → chk 27 i = true := by
  intro i hi
  exact chkR_at ck_27_0 (by omega) (by omega)
set_option maxRecDepth 100000 in
def ck_28_0 : chkR 28 0 14 = true := by decide +kernel
theorem ck_28 : ∀ i, i < 14 → chk 28 i = true := by
  intro i hi
  exact chkR_at ck_28_0 (by omega) (by omega)
set_option maxRecDepth 100000 in
def ck_29_0 : chkR 29 0 16 = true := by decide +kernel
theorem ck_29 : ∀ i, i < 16 → chk 29 i = true := by
  intro i hi
  exact chkR_at ck_29_0 (by omega) (by omega)
set_option maxRecDepth 100000 in
def ck_30_0 : chkR 30 0 15 = true := by decide +kernel
theorem ck_30 : ∀ i, i < 15 → chk 30 i = true := by
  intro i hi
  exact chkR_at ck_30_0 (by omega) (by omega)
set_option maxRecDepth 100000 in
def ck_31_0 : chkR 31 0 24 = true := by decide +kernel
set_option maxRecDepth 100000 in
def ck_31_24 : chkR 31 24 22 = true := by decide +kernel
theorem ck_31 : ∀ i, i < 46 → chk 31 i = true := by
  intro i hi
  by_cases h0 : i < 24
  · exact chkR_at ck_31_0 (by omega) (by omega)
  exact chkR_at ck_31_24 (by omega) (by omega)
set_option maxRecDepth 100000 in
def ck_32_0 : chkR 32 0 24 = true := by decide +kernel
set_option maxRecDepth 100000 in
def ck_32_24 : chkR 32 24 24 = true := by decide +kernel
set_option maxRecDepth 100000 in
def ck_32_48 : chkR 32 48 9 = true := by decide +kernel
theorem ck_32 : ∀ i, i < 57 → chk 32 i = true := by
  intro i hi
  by_cases h0 : i < 24
  · exact chkR_at ck_32_0 (by omega) (by omega)
  by_cases h24 : i < 48
  · exact chkR_at ck_32_24 (by omega) (by omega)
  exact chkR_at ck_32_48 (by omega) (by omega)
set_option maxRecDepth 100000 in
def ck_33_0 : chkR 33 0 24 = true := by decide +kernel
set_option maxRecDepth 100000 in
def ck_33_24 : chkR 33 24 24 = true := by decide +kernel
set_option maxRecDepth 100000 in
def ck_33_48 : chkR 33 48 7 = true := by decide +kernel
theorem ck_33 : ∀ i, i < 55 → chk 33 i = true := by
  intro i hi
  by_cases h0 : i < 24
  · exact chkR_at ck_33_0 (by omega) (by omega)
  by_cases h24 : i < 48
  · exact chkR_at ck_33_24 (by omega) (by omega)
  exact chkR_at ck_33_48 (by omega) (by omega)
set_option maxRecDepth 100000 in
def ck_34_0 : chkR 34 0 20 = true := by decide +kernel
theorem ck_34 : ∀ i, i < 20 → chk 34 i = true := by
  intro i hi
  exact chkR_at ck_34_0 (by omega) (by omega)
set_option maxRecDepth 100000 in
def ck_35_0 : chkR 35 0 24 = true := by decide +kernel
set_option maxRecDepth 100000 in
def ck_35_24 : chkR 35 24 18 = true := by decide +kernel
theorem ck_35 : ∀ i, i < 42 → chk 35 i = true := by
  intro i hi
  by_cases h0 : i < 24
  · exact chkR_at ck_35_0 (by omega) (by omega)
  exact chkR_at ck_35_24 (by omega) (by omega)
set_option maxRecDepth 100000 in
def ck_36_0 : chkR 36 0 24 = true := by decide +kernel
set_option maxRecDepth 100000 in
def ck_36_24 : chkR 36 24 9 = true := by decide +kernel
theorem ck_36 : ∀ i, i < 33 → chk 36 i = true := by
  intro i hi
  by_cases h0 : i < 24
  · exact chkR_at ck_36_0 (by omega) (by omega)
  exact chkR_at ck_36_24 (by omega) (by omega)
set_option maxRecDepth 100000 in
def ck_37_0 : chkR 37 0 24 = true := by decide +kernel
set_option maxRecDepth 100000 in
def ck_37_24 : chkR 37 24 24 = true := by decide +kernel
set_option maxRecDepth 100000 in
def ck_37_48 : chkR 37 48 24 = true := by decide +kernel
set_option maxRecDepth 100000 in
def ck_37_72 : chkR 37 72 24 = true := by decide +kernel
set_option maxRecDepth 100000 in
def ck_37_96 : chkR 37 96 24 = true := by decide +kernel
set_option maxRecDepth 100000 in
def ck_37_120 : chkR 37 120 24 = true := by decide +kernel
theorem ck_37 : ∀ i, i < 144 → chk 37 i = true := by
  intro i hi
  by_cases h0 : i < 24
  · exact chkR_at ck_37_0 (by omega) (by omega)
  by_cases h24 : i < 48
  · exact chkR_at ck_37_24 (by omega) (by omega)
  by_cases h48 : i < 72
  · exact chkR_at ck_37_48 (by omega) (by omega)
  by_cases h72 : i < 96
  · exact chkR_at ck_37_72 (by omega) (by omega)
  by_cases h96 : i < 120
  · exact chkR_at ck_37_96 (by omega) (by omega)
  exact chkR_at ck_37_120 (by omega) (by omega)
set_option maxRecDepth 100000 in
def ck_38_0 : chkR 38 0 24 = true := by decide +kernel
set_option maxRecDepth 100000 in
def ck_38_24 : chkR 38 24 3 = true := by decide +kernel
theorem ck_38 : ∀ i, i < 27 → chk 38 i = true := by
  intro i hi
  by_cases h0 : i < 24
  · exact chkR_at ck_38_0 (by omega) (by omega)
  exact chkR_at ck_38_24 (by omega) (by omega)
set_option maxRecDepth 100000 in
def ck_39_0 : chkR 39 0 24 = true := by decide +kernel
set_option maxRecDepth 100000 in
def ck_39_24 : chkR 39 24 12 = true := by decide +kernel
theorem ck_39 : ∀ i, i < 36 → chk 39 i = true := by
  intro i hi
  by_cases h0 : i < 24
  · exact chkR_at ck_39_0 (by omega) (by omega)
  exact chkR_at ck_39_24 (by omega) (by omega)
set_option maxRecDepth 100000 in
def ck_40_0 : chkR 40 0 24 = true := by decide +kernel
set_option maxRecDepth 100000 in
def ck_40_24 : chkR 40 24 3 = true := by decide +kernel
theorem ck_40 : ∀ i, i < 27 → chk 40 i = true := by
  intro i hi
  by_cases h0 : i < 24
  · exact chkR_at ck_40_0 (by omega) (by omega)
  exact chkR_at ck_40_24 (by omega) (by omega)
set_option maxRecDepth 100000 in
def ck_41_0 : chkR 41 0 24 = true := by decide +kernel
set_option maxRecDepth 100000 in
def ck_41_24 : chkR 41 24 22 = true := by decide +kernel
theorem ck_41 : ∀ i, i < 46 → chk 41 i = true := by
  intro i hi
  by_cases h0 : i < 24
  · exact chkR_at ck_41_0 (by omega) (by omega)
  exact chkR_at ck_41_24 (by omega) (by omega)
set_option maxRecDepth 100000 in
def ck_42_0 : chkR 42 0 9 = true := by decide +kernel
theorem ck_42 : ∀ i, i < 9 → chk 42 i = true := by
  intro i hi
  exact chkR_at ck_42_0 (by omega) (by omega)
set_option maxRecDepth 100000 in
def ck_43_0 : chkR 43 0 24 = true := by decide +kernel
set_option maxRecDepth 100000 in
def ck_43_24 : chkR 43 24 22 = true := by decide +kernel
theorem ck_43 : ∀ i, i < 46 → chk 43 i = true := by
  intro i hi
  by_cases h0 : i < 24
  · exact chkR_at ck_43_0 (by omega) (by omega)
  exact chkR_at ck_43_24 (by omega) (by omega)
set_option maxRecDepth 100000 in
def ck_44_0 : chkR 44 0 24 = true := by decide +kernel
set_option maxRecDepth 100000 in
def ck_44_24 : chkR 44 24 24 = true := by decide +kernel
set_option maxRecDepth 100000 in
def ck_44_48 : chkR 44 48 24 = true := by decide +kernel
theorem ck_44 : ∀ i, i < 72 → chk 44 i = true := by
  intro i hi
  by_cases h0 : i < 24
  · exact chkR_at ck_44_0 (by omega) (by omega)
  by_cases h24 : i < 48
  · exact chkR_at ck_44_24 (by omega) (by omega)
  exact chkR_at ck_44_48 (by omega) (by omega)
set_option maxRecDepth 100000 in
def ck_45_0 : chkR 45 0 24 = true := by decide +kernel
set_option maxRecDepth 100000 in
def ck_45_24 : chkR 45 24 24 = true := by decide +kernel
set_option maxRecDepth 100000 in
def ck_45_48 : chkR 45 48 3 = true := by decide +kernel
theorem ck_45 : ∀ i, i < 51 → chk 45 i = true := by
  intro i hi
  by_cases h0 : i < 24
  · exact chkR_at ck_45_0 (by omega) (by omega)
  by_cases h24 : i < 48
  · exact chkR_at ck_45_24 (by omega) (by omega)
  exact chkR_at ck_45_48 (by omega) (by omega)
set_option maxRecDepth 100000 in
def ck_46_0 : chkR 46 0 3 = true := by decide +kernel
theorem ck_46 : ∀ i, i < 3 → chk 46 i = true := by
  intro i hi
  exact chkR_at ck_46_0 (by omega) (by omega)
set_option maxRecDepth 100000 in
def ck_47_0 : chkR 47 0 24 = true := by decide +kernel
set_option maxRecDepth 100000 in
def ck_47_24 : chkR 47 24 24 = true := by decide +kernel
set_option maxRecDepth 100000 in
def ck_47_48 : chkR 47 48 1 = true := by decide +kernel
theorem ck_47 : ∀ i, i < 49 → chk 47 i = true := by
  intro i hi
  by_cases h0 : i < 24
  · exact chkR_at ck_47_0 (by omega) (by omega)
  by_cases h24 : i < 48
  · exact chkR_at ck_47_24 (by omega) (by omega)
  exact chkR_at ck_47_48 (by omega) (by omega)
set_option maxRecDepth 100000 in
def ck_48_0 : chkR 48 0 20 = true := by decide +kernel
theorem ck_48 : ∀ i, i < 20 → chk 48 i = true := by
  intro i hi
  exact chkR_at ck_48_0 (by omega) (by omega)
set_option maxRecDepth 100000 in
def ck_49_0 : chkR 49 0 19 = true := by decide +kernel
theorem ck_49 : ∀ i, i < 19 → chk 49 i = true := by
  intro i hi
  exact chkR_at ck_49_0 (by omega) (by omega)
set_option maxRecDepth 100000 in
def ck_50_0 : chkR 50 0 24 = true := by decide +kernel
set_option maxRecDepth 100000 in
def ck_50_24 : chkR 50 24 18 = true := by decide +kernel
theorem ck_50 : ∀ i, i < 42 → chk 50 i = true := by
  intro i hi
  by_cases h0 : i < 24
  · exact chkR_at ck_50_0 (by omega) (by omega)
  exact chkR_at ck_50_24 (by omega) (by omega)
set_option maxRecDepth 100000 in
def ck_51_0 : chkR 51 0 24 = true := by decide +kernel
set_option maxRecDepth 100000 in
def ck_51_24 : chkR 51 24 24 = true := by decide +kernel
set_option maxRecDepth 100000 in
def ck_51_48 : chkR 51 48 7 = true := by decide +kernel
theorem ck_51 : ∀ i, i < 55 → chk 51 i = true := by
  intro i hi
  by_cases h0 : i < 24
  · exact chkR_at ck_51_0 (by omega) (by omega)
  by_cases h24 : i < 48
  · exact chkR_at ck_51_24 (by omega) (by omega)
  exact chkR_at ck_51_48 (by omega) (by omega)
set_option maxRecDepth 100000 in
def ck_52_0 : chkR 52 0 24 = true := by decide +kernel
set_option maxRecDepth 100000 in
def ck_52_24 : chkR 52 24 14 = true := by decide +kernel
theorem ck_52 : ∀ i, i < 38 → chk 52 i = true := by
  intro i hi
  by_cases h0 : i < 24
  · exact chkR_at ck_52_0 (by omega) (by omega)
  exact chkR_at ck_52_24 (by omega) (by omega)
set_option maxRecDepth 100000 in
def ck_53_0 : chkR 53 0 15 = true := by decide +kernel
theorem ck_53 : ∀ i, i < 15 → chk 53 i = true := by
  intro i hi
  exact chkR_at ck_53_0 (by omega) (by omega)
set_option maxRecDepth 100000 in
def ck_54_0 : chkR 54 0 21 = true := by decide +kernel
theorem ck_54 : ∀ i, i < 21 → chk 54 i = true := by
  intro i hi
  exact chkR_at ck_54_0 (by omega) (by omega)
set_option maxRecDepth 100000 in
def ck_55_0 : chkR 55 0 24 = true := by decide +kernel
set_option maxRecDepth 100000 in
def ck_55_24 : chkR 55 24 15 = true := by decide +kernel
theorem ck_55 : ∀ i, i < 39 → chk 55 i = true := by
  intro i hi
  by_cases h0 : i < 24
  · exact chkR_at ck_55_0 (by omega) (by omega)
  exact chkR_at ck_55_24 (by omega) (by omega)
set_option maxRecDepth 100000 in
def ck_56_0 : chkR 56 0 13 = true := by decide +kernel
theorem ck_56 : ∀ i, i < 13 → chk 56 i = true := by
  intro i hi
  exact chkR_at ck_56_0 (by omega) (by omega)
set_option maxRecDepth 100000 in
def ck_57_0 : chkR 57 0 4 = true := by decide +kernel
theorem ck_57 : ∀ i, i < 4 → chk 57 i = true := by
  intro i hi
  exact chkR_at ck_57_0 (by omega) (by omega)
set_option maxRecDepth 100000 in
def ck_58_0 : chkR 58 0 4 = true := by decide +kernel
theorem ck_58 : ∀ i, i < 4 → chk 58 i = true := by
  intro i hi
  exact chkR_at ck_58_0 (by omega) (by omega)
set_option maxRecDepth 100000 in
def ck_59_0 : chkR 59 0 10 = true := by decide +kernel
theorem ck_59 : ∀ i, i < 10 → chk 59 i = true := by
  intro i hi
  exact chkR_at ck_59_0 (by omega) (by omega)
set_option maxRecDepth 100000 in
def ck_60_0 : chkR 60 0 10 = true := by decide +kernel
theorem ck_60 : ∀ i, i < 10 → chk 60 i = true := by
  intro i hi
  exact chkR_at ck_60_0 (by omega) (by omega)
set_option maxRecDepth 100000 in
def ck_61_0 : chkR 61 0 10 = true := by decide +kernel
theorem ck_61 : ∀ i, i < 10 → chk 61 i = true := by
  intro i hi
  exact chkR_at ck_61_0 (by omega) (by omega)
set_option maxRecDepth 100000 in
def ck_62_0 : chkR 62 0 9 = true := by decide +kernel
theorem ck_62 : ∀ i, i < 9 → chk 62 i = true := by
  intro i hi
  exact chkR_at ck_62_0 (by omega) (by omega)
set_option maxRecDepth 100000 in
def ck_63_0 : chkR 63 0 18 = true := by decide +kernel
theorem ck_63 : ∀ i, i < 18 → chk 63 i = true := by
  intro i hi
  exact chkR_at ck_63_0 (by omega) (by omega)
set_option maxRecDepth 100000 in
def ck_64_0 : chkR 64 0 17 = true := by decide +kernel
theorem ck_64 : ∀ i, i < 17 → chk 64 i = true := by
  intro i hi
  exact chkR_at ck_64_0 (by omega) (by omega)
set_option maxRecDepth 100000 in
def ck_65_0 : chkR 65 0 24 = true := by decide +kernel
theorem ck_65 : ∀ i, i < 24 → chk 65 i = true := by
  intro i hi
  exact chkR_at ck_65_0 (by omega) (by omega)
set_option maxRecDepth 100000 in
def ck_66_0 : chkR 66 0 24 = true := by decide +kernel
theorem ck_66 : ∀ i, i < 24 → chk 66 i = true := by
  intro i hi
  exact chkR_at ck_66_0 (by omega) (by omega)
set_option maxRecDepth 100000 in
def ck_67_0 : chkR 67 0 24 = true := by decide +kernel
theorem ck_67 : ∀ i, i < 24 → chk 67 i = true := by
  intro i hi
  exact chkR_at ck_67_0 (by omega) (by omega)
set_option maxRecDepth 100000 in
def ck_68_0 : chkR 68 0 24 = true := by decide +kernel
set_option maxRecDepth 100000 in
def ck_68_24 : chkR 68 24 11 = true := by decide +kernel
theorem ck_68 : ∀ i, i < 35 → chk 68 i = true := by
  intro i hi
  by_cases h0 : i < 24
  · exact chkR_at ck_68_0 (by omega) (by omega)
  exact chkR_at ck_68_24 (by omega) (by omega)
set_option maxRecDepth 100000 in
def ck_69_0 : chkR 69 0 24 = true := by decide +kernel
set_option maxRecDepth 100000 in
def ck_69_24 : chkR 69 24 24 = true := by decide +kernel
set_option maxRecDepth 100000 in
def ck_69_48 : chkR 69 48 24 = true := by decide +kernel
set_option maxRecDepth 100000 in
def ck_69_72 : chkR 69 72 5 = true := by decide +kernel
theorem ck_69 : ∀ i, i < 77 → chk 69 i = true := by
  intro i hi
  by_cases h0 : i < 24
  · exact chkR_at ck_69_0 (by omega) (by omega)
  by_cases h24 : i < 48
  · exact chkR_at ck_69_24 (by omega) (by omega)
  by_cases h48 : i < 72
  · exact chkR_at ck_69_48 (by omega) (by omega)
  exact chkR_at ck_69_72 (by omega) (by omega)
set_option maxRecDepth 100000 in
def ck_70_0 : chkR 70 0 24 = true := by decide +kernel
set_option maxRecDepth 100000 in
def ck_70_24 : chkR 70 24 24 = true := by decide +kernel
set_option maxRecDepth 100000 in
def ck_70_48 : chkR 70 48 15 = true := by decide +kernel
theorem ck_70 : ∀ i, i < 63 → chk 70 i = true := by
  intro i hi
  by_cases h0 : i < 24
  · exact chkR_at ck_70_0 (by omega) (by omega)
  by_cases h24 : i < 48
  · exact chkR_at ck_70_24 (by omega) (by omega)
  exact chkR_at ck_70_48 (by omega) (by omega)
set_option maxRecDepth 100000 in
def ck_71_0 : chkR 71 0 24 = true := by decide +kernel
set_option maxRecDepth 100000 in
def ck_71_24 : chkR 71 24 8 = true := by decide +kernel
theorem ck_71 : ∀ i, i < 32 → chk 71 i = true := by
  intro i hi
  by_cases h0 : i < 24
  · exact chkR_at ck_71_0 (by omega) (by omega)
  exact chkR_at ck_71_24 (by omega) (by omega)
set_option maxRecDepth 100000 in
def ck_72_0 : chkR 72 0 24 = true := by decide +kernel
set_option maxRecDepth 100000 in
def ck_72_24 : chkR 72 24 15 = true := by decide +kernel
theorem ck_72 : ∀ i, i < 39 → chk 72 i = true := by
  intro i hi
  by_cases h0 : i < 24
  · exact chkR_at ck_72_0 (by omega) (by omega)
  exact chkR_at ck_72_24 (by omega) (by omega)
set_option maxRecDepth 100000 in
def ck_73_0 : chkR 73 0 24 = true := by decide +kernel
set_option maxRecDepth 100000 in
def ck_73_24 : chkR 73 24 24 = true := by decide +kernel
set_option maxRecDepth 100000 in
def ck_73_48 : chkR 73 48 24 = true := by decide +kernel
set_option maxRecDepth 100000 in
def ck_73_72 : chkR 73 72 24 = true := by decide +kernel
set_option maxRecDepth 100000 in
def ck_73_96 : chkR 73 96 3 = true := by decide +kernel
theorem ck_73 : ∀ i, i < 99 → chk 73 i = true := by
  intro i hi
  by_cases h0 : i < 24
  · exact chkR_at ck_73_0 (by omega) (by omega)
  by_cases h24 : i < 48
  · exact chkR_at ck_73_24 (by omega) (by omega)
  by_cases h48 : i < 72
  · exact chkR_at ck_73_48 (by omega) (by omega)
  by_cases h72 : i < 96
  · exact chkR_at ck_73_72 (by omega) (by omega)
  exact chkR_at ck_73_96 (by omega) (by omega)
