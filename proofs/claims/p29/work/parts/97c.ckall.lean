set_option maxRecDepth 100000 in
theorem ck_all : ∀ y i, i < (pg_cs.getD y []).length → (pg_own y ≠ "java/lang/Math") → chk y i = true := by
  intro y i hi hn
  match y, hi, hn with
  | 0, hi, _ => exact ck_0 i hi
  | 1, hi, _ => exact ck_1 i hi
  | 2, hi, _ => exact ck_2 i hi
  | 3, hi, _ => exact ck_3 i hi
  | 4, hi, _ => exact ck_4 i hi
  | 5, hi, _ => exact ck_5 i hi
  | 6, hi, _ => exact ck_6 i hi
  | 7, hi, _ => exact ck_7 i hi
  | 8, hi, _ => exact ck_8 i hi
  | 9, hi, _ => exact ck_9 i hi
  | 10, hi, _ => exact ck_10 i hi
  | 11, hi, _ => exact ck_11 i hi
  | 12, hi, _ => exact ck_12 i hi
  | 13, hi, _ => exact ck_13 i hi
  | 14, hi, _ => exact ck_14 i hi
  | 15, hi, _ => exact ck_15 i hi
  | 16, hi, _ => exact ck_16 i hi
  | 17, hi, _ => exact ck_17 i hi
  | 18, hi, _ => exact ck_18 i hi
  | 19, hi, _ => exact ck_19 i hi
  | 20, hi, _ => exact ck_20 i hi
  | 21, hi, _ => exact ck_21 i hi
  | 22, hi, _ => exact ck_22 i hi
  | 23, hi, _ => exact ck_23 i hi
  | 24, hi, _ => exact ck_24 i hi
  | 25, hi, _ => exact ck_25 i hi
  | 26, hi, _ => exact ck_26 i hi
  | 27, hi, _ => exact ck_27 i hi
  | 28, hi, _ => exact ck_28 i hi
  | 29, hi, _ => exact ck_29 i hi
  | 30, hi, _ => exact ck_30 i hi
  | 31, hi, _ => exact ck_31 i hi
  | 32, hi, _ => exact ck_32 i hi
  | 33, hi, _ => exact ck_33 i hi
  | 34, hi, _ => exact ck_34 i hi
  | 35, hi, _ => exact ck_35 i hi
  | 36, hi, _ => exact ck_36 i hi
  | 37, hi, _ => exact ck_37 i hi
  | 38, hi, _ => exact ck_38 i hi
  | 39, hi, _ => exact ck_39 i hi
  | 40, hi, _ => exact ck_40 i hi
  | 41, hi, _ => exact ck_41 i hi
  | 42, hi, _ => exact ck_42 i hi
  | 43, hi, _ => exact ck_43 i hi
  | 44, hi, _ => exact ck_44 i hi
  | 45, hi, _ => exact ck_45 i hi
  | 46, hi, _ => exact ck_46 i hi
  | 47, hi, _ => exact ck_47 i hi
  | 48, hi, _ => exact ck_48 i hi
  | 49, hi, _ => exact ck_49 i hi
  | 50, hi, _ => exact ck_50 i hi
  | 51, hi, _ => exact ck_51 i hi
  | 52, hi, _ => exact ck_52 i hi
  | 53, hi, _ => exact ck_53 i hi
  | 54, hi, _ => exact ck_54 i hi
  | 55, hi, _ => exact ck_55 i hi
  | 56, hi, _ => exact ck_56 i hi
  | 57, hi, _ => exact ck_57 i hi
  | 58, hi, _ => exact ck_58 i hi
  | 59, hi, _ => exact ck_59 i hi
  | 60, hi, _ => exact ck_60 i hi
  | 61, hi, _ => exact ck_61 i hi
  | 62, hi, _ => exact ck_62 i hi
  | 63, hi, _ => exact ck_63 i hi
  | 64, hi, _ => exact ck_64 i hi
  | 65, hi, _ => exact ck_65 i hi
  | 66, hi, _ => exact ck_66 i hi
  | 67, hi, _ => exact ck_67 i hi
  | 68, hi, _ => exact ck_68 i hi
  | 69, hi, _ => exact ck_69 i hi
  | 70, hi, _ => exact ck_70 i hi
  | 71, hi, _ => exact ck_71 i hi
  | 72, hi, _ => exact ck_72 i hi
  | 73, _, hn => exact absurd rfl hn
  | 74, _, hn => exact absurd rfl hn
  | 75, _, hn => exact absurd rfl hn
  | 76, hi, _ => exact ck_76 i hi
  | 77, hi, _ => exact ck_77 i hi
  | 78, hi, _ => exact ck_78 i hi
  | 79, hi, _ => exact ck_79 i hi
  | 80, hi, _ => exact ck_80 i hi
  | 81, hi, _ => exact ck_81 i hi
  | 82, hi, _ => exact ck_82 i hi
  | 83, hi, _ => exact ck_83 i hi
  | 84, hi, _ => exact ck_84 i hi
  | 85, hi, _ => exact ck_85 i hi
  | 86, hi, _ => exact ck_86 i hi
  | 87, hi, _ => exact ck_87 i hi
  | 88, hi, _ => exact ck_88 i hi
  | 89, hi, _ => exact ck_89 i hi
  | 90, hi, _ => exact ck_90 i hi
  | 91, hi, _ => exact ck_91 i hi
  | 92, hi, _ => exact ck_92 i hi
  | 93, hi, _ => exact ck_93 i hi
  | 94, hi, _ => exact ck_94 i hi
  | 95, hi, _ => exact ck_95 i hi
  | 96, hi, _ => exact ck_96 i hi
  | 97, hi, _ => exact ck_97 i hi
  | 98, hi, _ => exact ck_98 i hi
  | 99, hi, _ => exact ck_99 i hi
  | 100, hi, _ => exact ck_100 i hi
  | 101, hi, _ => exact ck_101 i hi
  | 102, hi, _ => exact ck_102 i hi
  | n + 103, hi, _ =>
    have : pg_cs.getD (n + 103) [] = [] := by
      rw [List.getD_eq_getElem?_getD, List.getElem?_eq_none (by show 103 ≤ n + 103; omega)]; rfl
    rw [this] at hi
    exact absurd hi (Nat.not_lt_zero _)
theorem HCK : ∀ y i r, pg_at y i = some r → pg_own y ≠ "java/lang/Math" → chk y i = true := by
  intro y i r h hn
  refine ck_all y i ?_ hn
  unfold pg_at at h
  exact (List.getElem?_eq_some_iff.mp h).1
