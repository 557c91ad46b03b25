/-! the law: a call each -/
/-- class, reference and the law's own cells -/
def WL (n : Nat) (σ : ST) (xs : Nat → Int32) (L : Nat) (K : KM) (I : IM) (R : RM) : Prop := CW n σ K I R ∧ MK K R ∧ mv I = σ ∧ K OUT = some (13, 1) ∧ K (0, 0, 0) = some (14, L) ∧ I (0, 0, 0) = xs
abbrev SC0 : Lb := (0, 0, 0)
def nz0 (x : Int32) : Prop := ¬ x = nI 0
theorem WL_1 {n : Nat} {σ σ' : ST} {xs : Nat → Int32} {L : Nat} {K K' : KM} {I I' : IM} {R R' : RM} (h : WL n σ xs L K I R) (hK : FrKR K K' R R') (hO : FrO I I') : MK K' R' ∧ mv I' = σ ∧ K' OUT = some (13, 1) ∧ K' SC0 = some (14, L) ∧ I' SC0 = xs := by
  obtain ⟨h1, h2, h3, h4, h5, h6⟩ := h
  have eM : ∀ k, I' (MA k) = I (MA k) := fun k => hO (MA k) (by show 3 < 4; decide) (by simp)
  have e2 : I' MO = I MO := hO MO (by decide) (by simp)
  refine ⟨⟨(hK MO (by decide)).1.trans h2.1, fun k hk => ⟨by rw [(hK MO (by decide)).2]; exact (h2.2 k hk).1, by rw [(hK (MA k) (by show 3 < 4; decide)).1]; exact (h2.2 k hk).2⟩⟩, ?_, (hK OUT (by decide)).1.trans h4, (hK SC0 (by decide)).1.trans h5, (hO SC0 (by decide) (by simp)).trans h6⟩
  rw [← h3]
  funext k j
  unfold mv
  rw [e2, eM]
theorem WL_2 {n : Nat} {σ' : ST} {xs : Nat → Int32} {L : Nat} {K' : KM} {I' I'' : IM} {R' : RM} (hW : CW n σ' K' I' R') (hM : MK K' R') (hKO : K' OUT = some (13, 1)) (hK0 : K' SC0 = some (14, L)) (hx : I' SC0 = xs) (hF : FrM I' I'') (hm : mv I'' = σ') : WL n σ' xs L K' I'' R' :=
  ⟨⟨hW.1, RC_F hW.2.1 (fun L _ h2 h3 _ _ => hF L h2 h3), hW.2.2⟩, hM, hm, hKO, hK0, (hF SC0 (by decide) (by decide)).trans hx⟩
theorem Fz6_01 {n : Nat} {σ : ST} (hV : IV n σ) {ma : Int32} (h0 : (Fz6 σ ma).1 = 0) : (Fz6 σ ma).2.1 = nI 0 ∨ (Fz6 σ ma).2.1 = nI 1 := by
  have hd := hV.2.2.1.2
  by_cases h1 : isN ma (mn σ (dn σ))
  · by_cases h2 : σ 22 (dn σ) = nI 0
    · rw [Fz6_0 h1 h2]
      obtain ⟨m, hm, em⟩ := h1
      have h6 := (hV.2.2.2.2.2.1 (dn σ) (by omega)).2.1
      rw [em, tk_n (by omega)]
      exact ((hV.2.2.2.2.2.1 (dn σ) (by omega)).2.2.2.2.1 m hm).2.2.2.2.2.2
    · rw [Fz6_2 h1 h2] at h0; exact absurd h0 (Nat.succ_ne_zero _)
  · rw [Fz6_1 h1] at h0; exact absurd h0 (Nat.succ_ne_zero _)
theorem Fz0_le {σ : ST} {sk : Int32} {mi : Int32} {ro : Int32} : (Fz0 σ sk mi ro).1 ≤ 3 := by
  unfold Fz0
  repeat' split
  all_goals exact Nat.le_of_ble_eq_true rfl
theorem Fz1_le {σ : ST} : (Fz1 σ).1 ≤ 3 := by
  unfold Fz1
  repeat' split
  all_goals exact Nat.le_of_ble_eq_true rfl
theorem Fz2_le {σ : ST} {w : Int32} {o : Int32} {un : Int32} : (Fz2 σ w o un).1 ≤ 3 := by
  unfold Fz2
  repeat' split
  all_goals exact Nat.le_of_ble_eq_true rfl
theorem Fz3_le {σ : ST} {w : Int32} {day : Int32} : (Fz3 σ w day).1 ≤ 3 := by
  unfold Fz3
  repeat' split
  all_goals exact Nat.le_of_ble_eq_true rfl
theorem Fz4_le {σ : ST} {day : Int32} {tw : Int32} {fi : Int32} {se : Int32} {pb : Prop} {mi : Int32} {ti : Int32} : (Fz4 σ day tw fi se pb mi ti).1 ≤ 3 := by
  unfold Fz4
  repeat' split
  all_goals exact Nat.le_of_ble_eq_true rfl
theorem Fz5_le {σ : ST} {day : Int32} {ma : Int32} : (Fz5 σ day ma).1 ≤ 3 := by
  unfold Fz5
  repeat' split
  all_goals exact Nat.le_of_ble_eq_true rfl
theorem Fz6_le {σ : ST} {ma : Int32} : (Fz6 σ ma).1 ≤ 3 := by
  unfold Fz6
  repeat' split
  all_goals exact Nat.le_of_ble_eq_true rfl
theorem Fz7_le {σ : ST} {w : Int32} {days : Int32} : (Fz7 σ w days).1 ≤ 3 := by
  unfold Fz7
  repeat' split
  all_goals exact Nat.le_of_ble_eq_true rfl
theorem Fz8_le {σ : ST} {w : Int32} : (Fz8 σ w).1 ≤ 3 := by
  unfold Fz8
  repeat' split
  all_goals exact Nat.le_of_ble_eq_true rfl
theorem Fz9_le {σ : ST} : (Fz9 σ).1 ≤ 3 := by
  unfold Fz9
  repeat' split
  all_goals exact Nat.le_of_ble_eq_true rfl
theorem Fz10_le {σ : ST} : (Fz10 σ).1 ≤ 3 := by
  unfold Fz10
  repeat' split
  all_goals exact Nat.le_of_ble_eq_true rfl
theorem Fz11_le {σ : ST} {tw : Int32} {w : Int32} {sl : Int32} : (Fz11 σ tw w sl).1 ≤ 3 := by
  unfold Fz11
  repeat' split
  all_goals exact Nat.le_of_ble_eq_true rfl
theorem Fz12_le {σ : ST} : (Fz12 σ).1 ≤ 3 := by
  unfold Fz12
  repeat' split
  all_goals exact Nat.le_of_ble_eq_true rfl
theorem Fz14_le {σ : ST} {w : Int32} {what : Int32} : (Fz14 σ w what).1 ≤ 3 := by
  unfold Fz14
  repeat' split
  all_goals exact Nat.le_of_ble_eq_true rfl
theorem Fz15_le {σ : ST} {tw : Int32} {w : Int32} : (Fz15 σ tw w).1 ≤ 3 := by
  unfold Fz15
  repeat' split
  all_goals exact Nat.le_of_ble_eq_true rfl
theorem Fz16_le {σ : ST} {tw : Int32} {w : Int32} : (Fz16 σ tw w).1 ≤ 3 := by
  unfold Fz16
  repeat' split
  all_goals exact Nat.le_of_ble_eq_true rfl
theorem Fz17_le {σ : ST} {its : Int32} {what : Int32} : (Fz17 σ its what).1 ≤ 3 := by
  unfold Fz17
  repeat' split
  all_goals exact Nat.le_of_ble_eq_true rfl
theorem Fz18_le {σ : ST} {day : Int32} {ma : Int32} {what : Int32} : (Fz18 σ day ma what).1 ≤ 3 := by
  unfold Fz18
  repeat' split
  all_goals exact Nat.le_of_ble_eq_true rfl
theorem Fz19_le {σ : ST} {t : Int32} {at_ : Int32} {pd : Prop} : (Fz19 σ t at_ pd).1 ≤ 3 := by
  unfold Fz19
  repeat' split
  all_goals exact Nat.le_of_ble_eq_true rfl
theorem Fz20_le {σ : ST} {t : Int32} : (Fz20 σ t).1 ≤ 3 := by
  unfold Fz20
  repeat' split
  all_goals exact Nat.le_of_ble_eq_true rfl
theorem Fz21_le {σ : ST} {w : Int32} {o : Int32} : (Fz21 σ w o).1 ≤ 3 := by
  unfold Fz21
  repeat' split
  all_goals exact Nat.le_of_ble_eq_true rfl
theorem Fz22_le {σ : ST} {w : Int32} {o : Int32} : (Fz22 σ w o).1 ≤ 3 := by
  unfold Fz22
  repeat' split
  all_goals exact Nat.le_of_ble_eq_true rfl
theorem Fz23_le {σ : ST} {t : Int32} : (Fz23 σ t).1 ≤ 3 := by
  unfold Fz23
  repeat' split
  all_goals exact Nat.le_of_ble_eq_true rfl
theorem Fz24_le {σ : ST} : (Fz24 σ).1 ≤ 3 := by
  unfold Fz24
  repeat' split
  all_goals exact Nat.le_of_ble_eq_true rfl
theorem Fz25_le {σ : ST} : (Fz25 σ).1 ≤ 3 := by
  unfold Fz25
  repeat' split
  all_goals exact Nat.le_of_ble_eq_true rfl
set_option maxRecDepth 20000 in
set_option maxHeartbeats 400000 in
theorem law_0 {d b : Nat} {K : KM} {I : IM} {R : RM} {Q : QT} {n i L : Nat} {σ : ST} {xs : Nat → Int32} {u5 u6 : Option PV} (hd : 20 ≤ d) (hn : n < 512) (hi8 : i + 8 ≤ L) (hL : L ≤ 4096) (hw : WL n σ xs L K I R)  (q : ∀ b' K' I' R' σ' u5 u6, b ≤ b' → WL (n + 1) σ' xs L K' I' R' → Mw d b' N_L_law 1116 [some (pR (some SC0)), some (pR (some RING)), some (pR (some MO)), some (pR (some OUT)), some (pI (nI i)), u5, u6] [] K' I' R' Q) : Mw d (b + 61) N_L_law 25 [some (pR (some SC0)), some (pR (some RING)), some (pR (some MO)), some (pR (some OUT)), some (pI (nI i)), u5, u6] [] K I R Q := by
  obtain ⟨d9, rfl⟩ : ∃ d9, d = d9 + 1 := ⟨d - 1, by omega⟩
  have hK0 := hw.2.2.2.2.1
  have hx0 := hw.2.2.2.2.2
  refine mw_aload i_157_25 (L := RING) rfl ?_
  refine mw_aload i_157_26 (L := SC0) rfl ?_
  refine mw_iload i_157_27 (x := nI i) rfl ?_
  refine mw_const i_157_28 (v := nI 1) (by decide) ?_
  refine mw_iadd i_157_29 (w := nI (i + 1)) (nI_add _ _) ?_
  refine mw_iald i_157_30 (jn := i + 1) (n := L) (by omega) (by omega) hK0 (by decide) (v := xs (i + 1)) (congrFun hx0 _) ?_
  refine mw_aload i_157_31 (L := SC0) rfl ?_
  refine mw_iload i_157_32 (x := nI i) rfl ?_
  refine mw_const i_157_33 (v := nI 2) (by decide) ?_
  refine mw_iadd i_157_34 (w := nI (i + 2)) (nI_add _ _) ?_
  refine mw_iald i_157_35 (jn := i + 2) (n := L) (by omega) (by omega) hK0 (by decide) (v := xs (i + 2)) (congrFun hx0 _) ?_
  refine mw_aload i_157_36 (L := SC0) rfl ?_
  refine mw_iload i_157_37 (x := nI i) rfl ?_
  refine mw_const i_157_38 (v := nI 3) (by decide) ?_
  refine mw_iadd i_157_39 (w := nI (i + 3)) (nI_add _ _) ?_
  refine mw_iald i_157_40 (jn := i + 3) (n := L) (by omega) (by omega) hK0 (by decide) (v := xs (i + 3)) (congrFun hx0 _) ?_
  refine mw_aload i_157_41 (L := OUT) rfl ?_
  refine mw_callS i_157_42 mf_132 (as := [pR (some RING), pI (xs (i + 1)), pI (xs (i + 2)), pI (xs (i + 3)), pR (some OUT)]) (rest := []) (d' := d9) (b' := b + 54) (ls0 := [some (pR (some RING)), some (pI (xs (i + 1))), some (pI (xs (i + 2))), some (pI (xs (i + 3))), some (pR (some OUT)), none]) rfl rfl rfl (Nat.le_of_ble_eq_true rfl) rfl (by omega) rfl ?_
  refine kL0 (by omega) hw.1 hn hw.2.2.2.1 ?_
  intro K1 I1 R1 hK1 hO1 hW1 ho1
  obtain ⟨hMK1, hmv1, hKO1, hK01, hx1⟩ := WL_1 (σ' := σ) hw hK1 hO1
  have hle := Fz0_le (σ := σ) (sk := xs (i + 1)) (mi := xs (i + 2)) (ro := xs (i + 3))
  refine aft_v ?_
  refine mw_istore i_157_43 (ls' := [some (pR (some SC0)), some (pR (some RING)), some (pR (some MO)), some (pR (some OUT)), some (pI (nI i)), some (pI (nI (Fz0 σ (xs (i + 1)) (xs (i + 2)) (xs (i + 3))).1)), u6]) rfl (Nat.le_of_ble_eq_true rfl) ?_
  refine mw_aload i_157_44 (L := MO) rfl ?_
  refine mw_aload i_157_45 (L := SC0) rfl ?_
  refine mw_iload i_157_46 (x := nI i) rfl ?_
  refine mw_const i_157_47 (v := nI 1) (by decide) ?_
  refine mw_iadd i_157_48 (w := nI (i + 1)) (nI_add _ _) ?_
  refine mw_iald i_157_49 (jn := i + 1) (n := L) (by omega) (by omega) hK01 (by decide) (v := xs (i + 1)) (congrFun hx1 _) ?_
  refine mw_aload i_157_50 (L := SC0) rfl ?_
  refine mw_iload i_157_51 (x := nI i) rfl ?_
  refine mw_const i_157_52 (v := nI 2) (by decide) ?_
  refine mw_iadd i_157_53 (w := nI (i + 2)) (nI_add _ _) ?_
  refine mw_iald i_157_54 (jn := i + 2) (n := L) (by omega) (by omega) hK01 (by decide) (v := xs (i + 2)) (congrFun hx1 _) ?_
  refine mw_aload i_157_55 (L := SC0) rfl ?_
  refine mw_iload i_157_56 (x := nI i) rfl ?_
  refine mw_const i_157_57 (v := nI 3) (by decide) ?_
  refine mw_iadd i_157_58 (w := nI (i + 3)) (nI_add _ _) ?_
  refine mw_iald i_157_59 (jn := i + 3) (n := L) (by omega) (by omega) hK01 (by decide) (v := xs (i + 3)) (congrFun hx1 _) ?_
  refine mw_callV i_157_60 mf_83 (as := [pI (xs (i + 1)), pI (xs (i + 2)), pI (xs (i + 3))]) (rest := []) (d' := d9) (b' := b + 54) (ls0 := [some (pR (some MO)), some (pI (xs (i + 1))), some (pI (xs (i + 2))), some (pI (xs (i + 3)))]) rfl rfl rfl (Nat.le_of_ble_eq_true rfl) hMK1.1 rfl rfl rfl ?_
  refine mF0 (by omega) hMK1 hmv1 hw.1.2.2 hn ?_
  intro I2 hF2 h28 hm2 v2 hv2
  refine aft_v ?_
  refine mw_istore i_157_61 (ls' := [some (pR (some SC0)), some (pR (some RING)), some (pR (some MO)), some (pR (some OUT)), some (pI (nI i)), some (pI (nI (Fz0 σ (xs (i + 1)) (xs (i + 2)) (xs (i + 3))).1)), some (pI v2)]) rfl (Nat.le_of_ble_eq_true rfl) ?_
  refine mw_aload i_157_62 (L := MO) rfl ?_
  refine mw_callV i_157_63 mf_74 (as := []) (rest := []) (d' := d9) (b' := b + 54) (ls0 := [some (pR (some MO))]) rfl rfl rfl (Nat.le_of_ble_eq_true rfl) hMK1.1 rfl rfl rfl ?_
  refine m_thrown hMK1 ?_
  rw [h28]
  refine aft_v ?_
  refine mw_iload i_157_64 (x := nI (Fz0 σ (xs (i + 1)) (xs (i + 2)) (xs (i + 3))).1) rfl ?_
  refine mw_ic i_157_65 (p := (nI (Fz0 σ (xs (i + 1)) (xs (i + 2)) (xs (i + 3))).1) = (nI (Fz0 σ (xs (i + 1)) (xs (i + 2)) (xs (i + 3))).1)) Iff.rfl (fun c1 => ?_) (fun c1 => ?_)
  · skip
    refine mw_iload i_157_68 (x := nI (Fz0 σ (xs (i + 1)) (xs (i + 2)) (xs (i + 3))).1) rfl ?_
    refine mw_if i_157_69 (p := ¬ (nI (Fz0 σ (xs (i + 1)) (xs (i + 2)) (xs (i + 3))).1) = nI 0) Iff.rfl (fun c2 => ?_) (fun c2 => ?_)
    · skip
      refine mw_goto i_157_79 ?_
      exact q _ K1 I2 R1 _ _ _ (by omega) (WL_2 hW1 hMK1 hKO1 hK01 hx1 hF2 hm2)
    · skip
      have h0 : (Fz0 σ (xs (i + 1)) (xs (i + 2)) (xs (i + 3))).1 = 0 := nI_inj (Classical.not_not.mp c2) (by omega) (by omega)
      refine mw_aload i_157_70 (L := OUT) rfl ?_
      refine mw_const i_157_71 (v := nI 0) (by decide) ?_
      refine mw_lald i_157_72 (jn := 0) (n := 1) (by omega) (by omega) hKO1 (v := (Fz0 σ (xs (i + 1)) (xs (i + 2)) (xs (i + 3))).2.1) (by rw [hF2 OUT (by decide) (by decide)]; exact ho1 h0) ?_
      refine mw_iload i_157_73 (x := v2) rfl ?_
      refine mw_i2l i_157_74 ?_
      refine mw_lcmp i_157_75 (u := (Fz0 σ (xs (i + 1)) (xs (i + 2)) (xs (i + 3))).2.1) (v := v2) (fun zx3 hzx3 => ?_)
      refine mw_if i_157_76 (p := zx3 = nI 0) Iff.rfl (fun c4 => ?_) (fun c4 => ?_)
      · skip
        refine mw_goto i_157_79 ?_
        exact q _ K1 I2 R1 _ _ _ (by omega) (WL_2 hW1 hMK1 hKO1 hK01 hx1 hF2 hm2)
      · skip
        exact absurd (hzx3.mpr (hv2 h0).symm) c4
  · skip
    exact absurd rfl c1
set_option maxRecDepth 20000 in
set_option maxHeartbeats 400000 in
theorem law_1 {d b : Nat} {K : KM} {I : IM} {R : RM} {Q : QT} {n i L : Nat} {σ : ST} {xs : Nat → Int32} {u5 u6 : Option PV} (hd : 20 ≤ d) (hn : n < 512) (hi8 : i + 8 ≤ L) (hL : L ≤ 4096) (hw : WL n σ xs L K I R)  (q : ∀ b' K' I' R' σ' u5 u6, b ≤ b' → WL (n + 1) σ' xs L K' I' R' → Mw d b' N_L_law 1116 [some (pR (some SC0)), some (pR (some RING)), some (pR (some MO)), some (pR (some OUT)), some (pI (nI i)), u5, u6] [] K' I' R' Q) : Mw d (b + 61) N_L_law 80 [some (pR (some SC0)), some (pR (some RING)), some (pR (some MO)), some (pR (some OUT)), some (pI (nI i)), u5, u6] [] K I R Q := by
  obtain ⟨d9, rfl⟩ : ∃ d9, d = d9 + 1 := ⟨d - 1, by omega⟩
  have hK0 := hw.2.2.2.2.1
  have hx0 := hw.2.2.2.2.2
  refine mw_aload i_157_80 (L := RING) rfl ?_
  refine mw_aload i_157_81 (L := OUT) rfl ?_
  refine mw_callS i_157_82 mf_133 (as := [pR (some RING), pR (some OUT)]) (rest := []) (d' := d9) (b' := b + 54) (ls0 := [some (pR (some RING)), some (pR (some OUT)), none]) rfl rfl rfl (Nat.le_of_ble_eq_true rfl) rfl (by omega) rfl ?_
  refine kL1 (by omega) hw.1 hn hw.2.2.2.1 ?_
  intro K1 I1 R1 hK1 hO1 hW1 ho1
  obtain ⟨hMK1, hmv1, hKO1, hK01, hx1⟩ := WL_1 (σ' := σ) hw hK1 hO1
  have hle := Fz1_le (σ := σ)
  refine aft_v ?_
  refine mw_istore i_157_83 (ls' := [some (pR (some SC0)), some (pR (some RING)), some (pR (some MO)), some (pR (some OUT)), some (pI (nI i)), some (pI (nI (Fz1 σ).1)), u6]) rfl (Nat.le_of_ble_eq_true rfl) ?_
  refine mw_aload i_157_84 (L := MO) rfl ?_
  refine mw_callV i_157_85 mf_84 (as := []) (rest := []) (d' := d9) (b' := b + 54) (ls0 := [some (pR (some MO))]) rfl rfl rfl (Nat.le_of_ble_eq_true rfl) hMK1.1 rfl rfl rfl ?_
  refine mF1 (by omega) hMK1 hmv1 hw.1.2.2 hn ?_
  intro I2 hF2 h28 hm2 v2 hv2
  refine aft_v ?_
  refine mw_istore i_157_86 (ls' := [some (pR (some SC0)), some (pR (some RING)), some (pR (some MO)), some (pR (some OUT)), some (pI (nI i)), some (pI (nI (Fz1 σ).1)), some (pI v2)]) rfl (Nat.le_of_ble_eq_true rfl) ?_
  refine mw_aload i_157_87 (L := MO) rfl ?_
  refine mw_callV i_157_88 mf_74 (as := []) (rest := []) (d' := d9) (b' := b + 54) (ls0 := [some (pR (some MO))]) rfl rfl rfl (Nat.le_of_ble_eq_true rfl) hMK1.1 rfl rfl rfl ?_
  refine m_thrown hMK1 ?_
  rw [h28]
  refine aft_v ?_
  refine mw_iload i_157_89 (x := nI (Fz1 σ).1) rfl ?_
  refine mw_ic i_157_90 (p := (nI (Fz1 σ).1) = (nI (Fz1 σ).1)) Iff.rfl (fun c1 => ?_) (fun c1 => ?_)
  · skip
    refine mw_iload i_157_93 (x := nI (Fz1 σ).1) rfl ?_
    refine mw_if i_157_94 (p := ¬ (nI (Fz1 σ).1) = nI 0) Iff.rfl (fun c2 => ?_) (fun c2 => ?_)
    · skip
      refine mw_goto i_157_104 ?_
      exact q _ K1 I2 R1 _ _ _ (by omega) (WL_2 hW1 hMK1 hKO1 hK01 hx1 hF2 hm2)
    · skip
      have h0 : (Fz1 σ).1 = 0 := nI_inj (Classical.not_not.mp c2) (by omega) (by omega)
      refine mw_aload i_157_95 (L := OUT) rfl ?_
      refine mw_const i_157_96 (v := nI 0) (by decide) ?_
      refine mw_lald i_157_97 (jn := 0) (n := 1) (by omega) (by omega) hKO1 (v := (Fz1 σ).2.1) (by rw [hF2 OUT (by decide) (by decide)]; exact ho1 h0) ?_
      refine mw_iload i_157_98 (x := v2) rfl ?_
      refine mw_i2l i_157_99 ?_
      refine mw_lcmp i_157_100 (u := (Fz1 σ).2.1) (v := v2) (fun zx3 hzx3 => ?_)
      refine mw_if i_157_101 (p := zx3 = nI 0) Iff.rfl (fun c4 => ?_) (fun c4 => ?_)
      · skip
        refine mw_goto i_157_104 ?_
        exact q _ K1 I2 R1 _ _ _ (by omega) (WL_2 hW1 hMK1 hKO1 hK01 hx1 hF2 hm2)
      · skip
        exact absurd (hzx3.mpr (hv2 h0).symm) c4
  · skip
    exact absurd rfl c1
set_option maxRecDepth 20000 in
set_option maxHeartbeats 400000 in
theorem law_2 {d b : Nat} {K : KM} {I : IM} {R : RM} {Q : QT} {n i L : Nat} {σ : ST} {xs : Nat → Int32} {u5 u6 : Option PV} (hd : 20 ≤ d) (hn : n < 512) (hi8 : i + 8 ≤ L) (hL : L ≤ 4096) (hw : WL n σ xs L K I R)  (q : ∀ b' K' I' R' σ' u5 u6, b ≤ b' → WL (n + 1) σ' xs L K' I' R' → Mw d b' N_L_law 1116 [some (pR (some SC0)), some (pR (some RING)), some (pR (some MO)), some (pR (some OUT)), some (pI (nI i)), u5, u6] [] K' I' R' Q) : Mw d (b + 61) N_L_law 105 [some (pR (some SC0)), some (pR (some RING)), some (pR (some MO)), some (pR (some OUT)), some (pI (nI i)), u5, u6] [] K I R Q := by
  obtain ⟨d9, rfl⟩ : ∃ d9, d = d9 + 1 := ⟨d - 1, by omega⟩
  have hK0 := hw.2.2.2.2.1
  have hx0 := hw.2.2.2.2.2
  refine mw_aload i_157_105 (L := RING) rfl ?_
  refine mw_aload i_157_106 (L := SC0) rfl ?_
  refine mw_iload i_157_107 (x := nI i) rfl ?_
  refine mw_const i_157_108 (v := nI 1) (by decide) ?_
  refine mw_iadd i_157_109 (w := nI (i + 1)) (nI_add _ _) ?_
  refine mw_iald i_157_110 (jn := i + 1) (n := L) (by omega) (by omega) hK0 (by decide) (v := xs (i + 1)) (congrFun hx0 _) ?_
  refine mw_aload i_157_111 (L := SC0) rfl ?_
  refine mw_iload i_157_112 (x := nI i) rfl ?_
  refine mw_const i_157_113 (v := nI 2) (by decide) ?_
  refine mw_iadd i_157_114 (w := nI (i + 2)) (nI_add _ _) ?_
  refine mw_iald i_157_115 (jn := i + 2) (n := L) (by omega) (by omega) hK0 (by decide) (v := xs (i + 2)) (congrFun hx0 _) ?_
  refine mw_aload i_157_116 (L := SC0) rfl ?_
  refine mw_iload i_157_117 (x := nI i) rfl ?_
  refine mw_const i_157_118 (v := nI 3) (by decide) ?_
  refine mw_iadd i_157_119 (w := nI (i + 3)) (nI_add _ _) ?_
  refine mw_iald i_157_120 (jn := i + 3) (n := L) (by omega) (by omega) hK0 (by decide) (v := xs (i + 3)) (congrFun hx0 _) ?_
  refine mw_aload i_157_121 (L := OUT) rfl ?_
  refine mw_callS i_157_122 mf_134 (as := [pR (some RING), pI (xs (i + 1)), pI (xs (i + 2)), pI (xs (i + 3)), pR (some OUT)]) (rest := []) (d' := d9) (b' := b + 54) (ls0 := [some (pR (some RING)), some (pI (xs (i + 1))), some (pI (xs (i + 2))), some (pI (xs (i + 3))), some (pR (some OUT)), none]) rfl rfl rfl (Nat.le_of_ble_eq_true rfl) rfl (by omega) rfl ?_
  refine kL2 (by omega) hw.1 hn hw.2.2.2.1 ?_
  intro K1 I1 R1 hK1 hO1 hW1 ho1
  obtain ⟨hMK1, hmv1, hKO1, hK01, hx1⟩ := WL_1 (σ' := σ) hw hK1 hO1
  have hle := Fz2_le (σ := σ) (w := xs (i + 1)) (o := xs (i + 2)) (un := xs (i + 3))
  refine aft_v ?_
  refine mw_istore i_157_123 (ls' := [some (pR (some SC0)), some (pR (some RING)), some (pR (some MO)), some (pR (some OUT)), some (pI (nI i)), some (pI (nI (Fz2 σ (xs (i + 1)) (xs (i + 2)) (xs (i + 3))).1)), u6]) rfl (Nat.le_of_ble_eq_true rfl) ?_
  refine mw_aload i_157_124 (L := MO) rfl ?_
  refine mw_aload i_157_125 (L := SC0) rfl ?_
  refine mw_iload i_157_126 (x := nI i) rfl ?_
  refine mw_const i_157_127 (v := nI 1) (by decide) ?_
  refine mw_iadd i_157_128 (w := nI (i + 1)) (nI_add _ _) ?_
  refine mw_iald i_157_129 (jn := i + 1) (n := L) (by omega) (by omega) hK01 (by decide) (v := xs (i + 1)) (congrFun hx1 _) ?_
  refine mw_aload i_157_130 (L := SC0) rfl ?_
  refine mw_iload i_157_131 (x := nI i) rfl ?_
  refine mw_const i_157_132 (v := nI 2) (by decide) ?_
  refine mw_iadd i_157_133 (w := nI (i + 2)) (nI_add _ _) ?_
  refine mw_iald i_157_134 (jn := i + 2) (n := L) (by omega) (by omega) hK01 (by decide) (v := xs (i + 2)) (congrFun hx1 _) ?_
  refine mw_aload i_157_135 (L := SC0) rfl ?_
  refine mw_iload i_157_136 (x := nI i) rfl ?_
  refine mw_const i_157_137 (v := nI 3) (by decide) ?_
  refine mw_iadd i_157_138 (w := nI (i + 3)) (nI_add _ _) ?_
  refine mw_iald i_157_139 (jn := i + 3) (n := L) (by omega) (by omega) hK01 (by decide) (v := xs (i + 3)) (congrFun hx1 _) ?_
  refine mw_callV i_157_140 mf_85 (as := [pI (xs (i + 1)), pI (xs (i + 2)), pI (xs (i + 3))]) (rest := []) (d' := d9) (b' := b + 54) (ls0 := [some (pR (some MO)), some (pI (xs (i + 1))), some (pI (xs (i + 2))), some (pI (xs (i + 3))), none]) rfl rfl rfl (Nat.le_of_ble_eq_true rfl) hMK1.1 rfl rfl rfl ?_
  refine mF2 (by omega) hMK1 hmv1 hw.1.2.2 hn ?_
  intro I2 hF2 h28 hm2 v2 hv2
  refine aft_v ?_
  refine mw_istore i_157_141 (ls' := [some (pR (some SC0)), some (pR (some RING)), some (pR (some MO)), some (pR (some OUT)), some (pI (nI i)), some (pI (nI (Fz2 σ (xs (i + 1)) (xs (i + 2)) (xs (i + 3))).1)), some (pI v2)]) rfl (Nat.le_of_ble_eq_true rfl) ?_
  refine mw_aload i_157_142 (L := MO) rfl ?_
  refine mw_callV i_157_143 mf_74 (as := []) (rest := []) (d' := d9) (b' := b + 54) (ls0 := [some (pR (some MO))]) rfl rfl rfl (Nat.le_of_ble_eq_true rfl) hMK1.1 rfl rfl rfl ?_
  refine m_thrown hMK1 ?_
  rw [h28]
  refine aft_v ?_
  refine mw_iload i_157_144 (x := nI (Fz2 σ (xs (i + 1)) (xs (i + 2)) (xs (i + 3))).1) rfl ?_
  refine mw_ic i_157_145 (p := (nI (Fz2 σ (xs (i + 1)) (xs (i + 2)) (xs (i + 3))).1) = (nI (Fz2 σ (xs (i + 1)) (xs (i + 2)) (xs (i + 3))).1)) Iff.rfl (fun c1 => ?_) (fun c1 => ?_)
  · skip
    refine mw_iload i_157_148 (x := nI (Fz2 σ (xs (i + 1)) (xs (i + 2)) (xs (i + 3))).1) rfl ?_
    refine mw_if i_157_149 (p := ¬ (nI (Fz2 σ (xs (i + 1)) (xs (i + 2)) (xs (i + 3))).1) = nI 0) Iff.rfl (fun c2 => ?_) (fun c2 => ?_)
    · skip
      refine mw_goto i_157_159 ?_
      exact q _ K1 I2 R1 _ _ _ (by omega) (WL_2 hW1 hMK1 hKO1 hK01 hx1 hF2 hm2)
    · skip
      have h0 : (Fz2 σ (xs (i + 1)) (xs (i + 2)) (xs (i + 3))).1 = 0 := nI_inj (Classical.not_not.mp c2) (by omega) (by omega)
      refine mw_aload i_157_150 (L := OUT) rfl ?_
      refine mw_const i_157_151 (v := nI 0) (by decide) ?_
      refine mw_lald i_157_152 (jn := 0) (n := 1) (by omega) (by omega) hKO1 (v := (Fz2 σ (xs (i + 1)) (xs (i + 2)) (xs (i + 3))).2.1) (by rw [hF2 OUT (by decide) (by decide)]; exact ho1 h0) ?_
      refine mw_iload i_157_153 (x := v2) rfl ?_
      refine mw_i2l i_157_154 ?_
      refine mw_lcmp i_157_155 (u := (Fz2 σ (xs (i + 1)) (xs (i + 2)) (xs (i + 3))).2.1) (v := v2) (fun zx3 hzx3 => ?_)
      refine mw_if i_157_156 (p := zx3 = nI 0) Iff.rfl (fun c4 => ?_) (fun c4 => ?_)
      · skip
        refine mw_goto i_157_159 ?_
        exact q _ K1 I2 R1 _ _ _ (by omega) (WL_2 hW1 hMK1 hKO1 hK01 hx1 hF2 hm2)
      · skip
        exact absurd (hzx3.mpr (hv2 h0).symm) c4
  · skip
    exact absurd rfl c1
set_option maxRecDepth 20000 in
set_option maxHeartbeats 400000 in
theorem law_3 {d b : Nat} {K : KM} {I : IM} {R : RM} {Q : QT} {n i L : Nat} {σ : ST} {xs : Nat → Int32} {u5 u6 : Option PV} (hd : 20 ≤ d) (hn : n < 512) (hi8 : i + 8 ≤ L) (hL : L ≤ 4096) (hw : WL n σ xs L K I R)  (q : ∀ b' K' I' R' σ' u5 u6, b ≤ b' → WL (n + 1) σ' xs L K' I' R' → Mw d b' N_L_law 1116 [some (pR (some SC0)), some (pR (some RING)), some (pR (some MO)), some (pR (some OUT)), some (pI (nI i)), u5, u6] [] K' I' R' Q) : Mw d (b + 61) N_L_law 160 [some (pR (some SC0)), some (pR (some RING)), some (pR (some MO)), some (pR (some OUT)), some (pI (nI i)), u5, u6] [] K I R Q := by
  obtain ⟨d9, rfl⟩ : ∃ d9, d = d9 + 1 := ⟨d - 1, by omega⟩
  have hK0 := hw.2.2.2.2.1
  have hx0 := hw.2.2.2.2.2
  refine mw_aload i_157_160 (L := RING) rfl ?_
  refine mw_aload i_157_161 (L := SC0) rfl ?_
  refine mw_iload i_157_162 (x := nI i) rfl ?_
  refine mw_const i_157_163 (v := nI 1) (by decide) ?_
  refine mw_iadd i_157_164 (w := nI (i + 1)) (nI_add _ _) ?_
  refine mw_iald i_157_165 (jn := i + 1) (n := L) (by omega) (by omega) hK0 (by decide) (v := xs (i + 1)) (congrFun hx0 _) ?_
  refine mw_aload i_157_166 (L := SC0) rfl ?_
  refine mw_iload i_157_167 (x := nI i) rfl ?_
  refine mw_const i_157_168 (v := nI 2) (by decide) ?_
  refine mw_iadd i_157_169 (w := nI (i + 2)) (nI_add _ _) ?_
  refine mw_iald i_157_170 (jn := i + 2) (n := L) (by omega) (by omega) hK0 (by decide) (v := xs (i + 2)) (congrFun hx0 _) ?_
  refine mw_aload i_157_171 (L := OUT) rfl ?_
  refine mw_callS i_157_172 mf_135 (as := [pR (some RING), pI (xs (i + 1)), pI (xs (i + 2)), pR (some OUT)]) (rest := []) (d' := d9) (b' := b + 54) (ls0 := [some (pR (some RING)), some (pI (xs (i + 1))), some (pI (xs (i + 2))), some (pR (some OUT)), none]) rfl rfl rfl (Nat.le_of_ble_eq_true rfl) rfl (by omega) rfl ?_
  refine kL3 (by omega) hw.1 hn hw.2.2.2.1 ?_
  intro K1 I1 R1 hK1 hO1 hW1 ho1
  obtain ⟨hMK1, hmv1, hKO1, hK01, hx1⟩ := WL_1 (σ' := σ) hw hK1 hO1
  have hle := Fz3_le (σ := σ) (w := xs (i + 1)) (day := xs (i + 2))
  refine aft_v ?_
  refine mw_istore i_157_173 (ls' := [some (pR (some SC0)), some (pR (some RING)), some (pR (some MO)), some (pR (some OUT)), some (pI (nI i)), some (pI (nI (Fz3 σ (xs (i + 1)) (xs (i + 2))).1)), u6]) rfl (Nat.le_of_ble_eq_true rfl) ?_
  refine mw_aload i_157_174 (L := MO) rfl ?_
  refine mw_aload i_157_175 (L := SC0) rfl ?_
  refine mw_iload i_157_176 (x := nI i) rfl ?_
  refine mw_const i_157_177 (v := nI 1) (by decide) ?_
  refine mw_iadd i_157_178 (w := nI (i + 1)) (nI_add _ _) ?_
  refine mw_iald i_157_179 (jn := i + 1) (n := L) (by omega) (by omega) hK01 (by decide) (v := xs (i + 1)) (congrFun hx1 _) ?_
  refine mw_aload i_157_180 (L := SC0) rfl ?_
  refine mw_iload i_157_181 (x := nI i) rfl ?_
  refine mw_const i_157_182 (v := nI 2) (by decide) ?_
  refine mw_iadd i_157_183 (w := nI (i + 2)) (nI_add _ _) ?_
  refine mw_iald i_157_184 (jn := i + 2) (n := L) (by omega) (by omega) hK01 (by decide) (v := xs (i + 2)) (congrFun hx1 _) ?_
  refine mw_callV i_157_185 mf_86 (as := [pI (xs (i + 1)), pI (xs (i + 2))]) (rest := []) (d' := d9) (b' := b + 54) (ls0 := [some (pR (some MO)), some (pI (xs (i + 1))), some (pI (xs (i + 2))), none]) rfl rfl rfl (Nat.le_of_ble_eq_true rfl) hMK1.1 rfl rfl rfl ?_
  refine mF3 (by omega) hMK1 hmv1 hw.1.2.2 hn ?_
  intro I2 hF2 h28 hm2 v2 hv2
  refine aft_v ?_
  refine mw_istore i_157_186 (ls' := [some (pR (some SC0)), some (pR (some RING)), some (pR (some MO)), some (pR (some OUT)), some (pI (nI i)), some (pI (nI (Fz3 σ (xs (i + 1)) (xs (i + 2))).1)), some (pI v2)]) rfl (Nat.le_of_ble_eq_true rfl) ?_
  refine mw_aload i_157_187 (L := MO) rfl ?_
  refine mw_callV i_157_188 mf_74 (as := []) (rest := []) (d' := d9) (b' := b + 54) (ls0 := [some (pR (some MO))]) rfl rfl rfl (Nat.le_of_ble_eq_true rfl) hMK1.1 rfl rfl rfl ?_
  refine m_thrown hMK1 ?_
  rw [h28]
  refine aft_v ?_
  refine mw_iload i_157_189 (x := nI (Fz3 σ (xs (i + 1)) (xs (i + 2))).1) rfl ?_
  refine mw_ic i_157_190 (p := (nI (Fz3 σ (xs (i + 1)) (xs (i + 2))).1) = (nI (Fz3 σ (xs (i + 1)) (xs (i + 2))).1)) Iff.rfl (fun c1 => ?_) (fun c1 => ?_)
  · skip
    refine mw_iload i_157_193 (x := nI (Fz3 σ (xs (i + 1)) (xs (i + 2))).1) rfl ?_
    refine mw_if i_157_194 (p := ¬ (nI (Fz3 σ (xs (i + 1)) (xs (i + 2))).1) = nI 0) Iff.rfl (fun c2 => ?_) (fun c2 => ?_)
    · skip
      refine mw_goto i_157_204 ?_
      exact q _ K1 I2 R1 _ _ _ (by omega) (WL_2 hW1 hMK1 hKO1 hK01 hx1 hF2 hm2)
    · skip
      have h0 : (Fz3 σ (xs (i + 1)) (xs (i + 2))).1 = 0 := nI_inj (Classical.not_not.mp c2) (by omega) (by omega)
      refine mw_aload i_157_195 (L := OUT) rfl ?_
      refine mw_const i_157_196 (v := nI 0) (by decide) ?_
      refine mw_lald i_157_197 (jn := 0) (n := 1) (by omega) (by omega) hKO1 (v := (Fz3 σ (xs (i + 1)) (xs (i + 2))).2.1) (by rw [hF2 OUT (by decide) (by decide)]; exact ho1 h0) ?_
      refine mw_iload i_157_198 (x := v2) rfl ?_
      refine mw_i2l i_157_199 ?_
      refine mw_lcmp i_157_200 (u := (Fz3 σ (xs (i + 1)) (xs (i + 2))).2.1) (v := v2) (fun zx3 hzx3 => ?_)
      refine mw_if i_157_201 (p := zx3 = nI 0) Iff.rfl (fun c4 => ?_) (fun c4 => ?_)
      · skip
        refine mw_goto i_157_204 ?_
        exact q _ K1 I2 R1 _ _ _ (by omega) (WL_2 hW1 hMK1 hKO1 hK01 hx1 hF2 hm2)
      · skip
        exact absurd (hzx3.mpr (hv2 h0).symm) c4
  · skip
    exact absurd rfl c1
set_option maxRecDepth 20000 in
set_option maxHeartbeats 400000 in
theorem law_4 {d b : Nat} {K : KM} {I : IM} {R : RM} {Q : QT} {n i L : Nat} {σ : ST} {xs : Nat → Int32} {u5 u6 : Option PV} (hd : 20 ≤ d) (hn : n < 512) (hi8 : i + 8 ≤ L) (hL : L ≤ 4096) (hw : WL n σ xs L K I R)  (q : ∀ b' K' I' R' σ' u5 u6, b ≤ b' → WL (n + 1) σ' xs L K' I' R' → Mw d b' N_L_law 1116 [some (pR (some SC0)), some (pR (some RING)), some (pR (some MO)), some (pR (some OUT)), some (pI (nI i)), u5, u6] [] K' I' R' Q) : Mw d (b + 61) N_L_law 205 [some (pR (some SC0)), some (pR (some RING)), some (pR (some MO)), some (pR (some OUT)), some (pI (nI i)), u5, u6] [] K I R Q := by
  obtain ⟨d9, rfl⟩ : ∃ d9, d = d9 + 1 := ⟨d - 1, by omega⟩
  have hK0 := hw.2.2.2.2.1
  have hx0 := hw.2.2.2.2.2
  refine mw_aload i_157_205 (L := RING) rfl ?_
  refine mw_aload i_157_206 (L := SC0) rfl ?_
  refine mw_iload i_157_207 (x := nI i) rfl ?_
  refine mw_const i_157_208 (v := nI 1) (by decide) ?_
  refine mw_iadd i_157_209 (w := nI (i + 1)) (nI_add _ _) ?_
  refine mw_iald i_157_210 (jn := i + 1) (n := L) (by omega) (by omega) hK0 (by decide) (v := xs (i + 1)) (congrFun hx0 _) ?_
  refine mw_aload i_157_211 (L := SC0) rfl ?_
  refine mw_iload i_157_212 (x := nI i) rfl ?_
  refine mw_const i_157_213 (v := nI 2) (by decide) ?_
  refine mw_iadd i_157_214 (w := nI (i + 2)) (nI_add _ _) ?_
  refine mw_iald i_157_215 (jn := i + 2) (n := L) (by omega) (by omega) hK0 (by decide) (v := xs (i + 2)) (congrFun hx0 _) ?_
  refine mw_aload i_157_216 (L := SC0) rfl ?_
  refine mw_iload i_157_217 (x := nI i) rfl ?_
  refine mw_const i_157_218 (v := nI 3) (by decide) ?_
  refine mw_iadd i_157_219 (w := nI (i + 3)) (nI_add _ _) ?_
  refine mw_iald i_157_220 (jn := i + 3) (n := L) (by omega) (by omega) hK0 (by decide) (v := xs (i + 3)) (congrFun hx0 _) ?_
  refine mw_aload i_157_221 (L := SC0) rfl ?_
  refine mw_iload i_157_222 (x := nI i) rfl ?_
  refine mw_const i_157_223 (v := nI 4) (by decide) ?_
  refine mw_iadd i_157_224 (w := nI (i + 4)) (nI_add _ _) ?_
  refine mw_iald i_157_225 (jn := i + 4) (n := L) (by omega) (by omega) hK0 (by decide) (v := xs (i + 4)) (congrFun hx0 _) ?_
  have J1 : Mw (d9 + 1) (b + 61) 157 235 [some (pR (some SC0)), some (pR (some RING)), some (pR (some MO)), some (pR (some OUT)), some (pI (nI i)), u5, u6] [pI (bI (nz0 (xs (i + 5)))), pI (xs (i + 4)), pI (xs (i + 3)), pI (xs (i + 2)), pI (xs (i + 1)), pR (some RING)] K I R Q := by
    refine mw_aload i_157_235 (L := SC0) rfl ?_
    refine mw_iload i_157_236 (x := nI i) rfl ?_
    refine mw_const i_157_237 (v := nI 6) (by decide) ?_
    refine mw_iadd i_157_238 (w := nI (i + 6)) (nI_add _ _) ?_
    refine mw_iald i_157_239 (jn := i + 6) (n := L) (by omega) (by omega) hK0 (by decide) (v := xs (i + 6)) (congrFun hx0 _) ?_
    refine mw_aload i_157_240 (L := SC0) rfl ?_
    refine mw_iload i_157_241 (x := nI i) rfl ?_
    refine mw_const i_157_242 (v := nI 7) (by decide) ?_
    refine mw_iadd i_157_243 (w := nI (i + 7)) (nI_add _ _) ?_
    refine mw_iald i_157_244 (jn := i + 7) (n := L) (by omega) (by omega) hK0 (by decide) (v := xs (i + 7)) (congrFun hx0 _) ?_
    refine mw_aload i_157_245 (L := OUT) rfl ?_
    refine mw_callS i_157_246 mf_136 (as := [pR (some RING), pI (xs (i + 1)), pI (xs (i + 2)), pI (xs (i + 3)), pI (xs (i + 4)), pI (bI (nz0 (xs (i + 5)))), pI (xs (i + 6)), pI (xs (i + 7)), pR (some OUT)]) (rest := []) (d' := d9) (b' := b) (ls0 := [some (pR (some RING)), some (pI (xs (i + 1))), some (pI (xs (i + 2))), some (pI (xs (i + 3))), some (pI (xs (i + 4))), some (pI (bI (nz0 (xs (i + 5))))), some (pI (xs (i + 6))), some (pI (xs (i + 7))), some (pR (some OUT)), none]) rfl rfl rfl (Nat.le_of_ble_eq_true rfl) rfl (by omega) rfl ?_
    refine kL4 (by omega) hw.1 hn hw.2.2.2.1 ?_
    intro K1 I1 R1 hK1 hO1 hW1 ho1
    obtain ⟨hMK1, hmv1, hKO1, hK01, hx1⟩ := WL_1 (σ' := σ) hw hK1 hO1
    have hle := Fz4_le (σ := σ) (day := xs (i + 1)) (tw := xs (i + 2)) (fi := xs (i + 3)) (se := xs (i + 4)) (pb := nz0 (xs (i + 5))) (mi := xs (i + 6)) (ti := xs (i + 7))
    refine aft_v ?_
    refine mw_istore i_157_247 (ls' := [some (pR (some SC0)), some (pR (some RING)), some (pR (some MO)), some (pR (some OUT)), some (pI (nI i)), some (pI (nI (Fz4 σ (xs (i + 1)) (xs (i + 2)) (xs (i + 3)) (xs (i + 4)) (nz0 (xs (i + 5))) (xs (i + 6)) (xs (i + 7))).1)), u6]) rfl (Nat.le_of_ble_eq_true rfl) ?_
    refine mw_aload i_157_248 (L := MO) rfl ?_
    refine mw_aload i_157_249 (L := SC0) rfl ?_
    refine mw_iload i_157_250 (x := nI i) rfl ?_
    refine mw_const i_157_251 (v := nI 1) (by decide) ?_
    refine mw_iadd i_157_252 (w := nI (i + 1)) (nI_add _ _) ?_
    refine mw_iald i_157_253 (jn := i + 1) (n := L) (by omega) (by omega) hK01 (by decide) (v := xs (i + 1)) (congrFun hx1 _) ?_
    refine mw_aload i_157_254 (L := SC0) rfl ?_
    refine mw_iload i_157_255 (x := nI i) rfl ?_
    refine mw_const i_157_256 (v := nI 2) (by decide) ?_
    refine mw_iadd i_157_257 (w := nI (i + 2)) (nI_add _ _) ?_
    refine mw_iald i_157_258 (jn := i + 2) (n := L) (by omega) (by omega) hK01 (by decide) (v := xs (i + 2)) (congrFun hx1 _) ?_
    refine mw_aload i_157_259 (L := SC0) rfl ?_
    refine mw_iload i_157_260 (x := nI i) rfl ?_
    refine mw_const i_157_261 (v := nI 3) (by decide) ?_
    refine mw_iadd i_157_262 (w := nI (i + 3)) (nI_add _ _) ?_
    refine mw_iald i_157_263 (jn := i + 3) (n := L) (by omega) (by omega) hK01 (by decide) (v := xs (i + 3)) (congrFun hx1 _) ?_
    refine mw_aload i_157_264 (L := SC0) rfl ?_
    refine mw_iload i_157_265 (x := nI i) rfl ?_
    refine mw_const i_157_266 (v := nI 4) (by decide) ?_
    refine mw_iadd i_157_267 (w := nI (i + 4)) (nI_add _ _) ?_
    refine mw_iald i_157_268 (jn := i + 4) (n := L) (by omega) (by omega) hK01 (by decide) (v := xs (i + 4)) (congrFun hx1 _) ?_
    have J2 : Mw (d9 + 1) b 157 278 [some (pR (some SC0)), some (pR (some RING)), some (pR (some MO)), some (pR (some OUT)), some (pI (nI i)), some (pI (nI (Fz4 σ (xs (i + 1)) (xs (i + 2)) (xs (i + 3)) (xs (i + 4)) (nz0 (xs (i + 5))) (xs (i + 6)) (xs (i + 7))).1)), u6] [pI (bI (nz0 (xs (i + 5)))), pI (xs (i + 4)), pI (xs (i + 3)), pI (xs (i + 2)), pI (xs (i + 1)), pR (some MO)] K1 I1 R1 Q := by
      refine mw_aload i_157_278 (L := SC0) rfl ?_
      refine mw_iload i_157_279 (x := nI i) rfl ?_
      refine mw_const i_157_280 (v := nI 6) (by decide) ?_
      refine mw_iadd i_157_281 (w := nI (i + 6)) (nI_add _ _) ?_
      refine mw_iald i_157_282 (jn := i + 6) (n := L) (by omega) (by omega) hK01 (by decide) (v := xs (i + 6)) (congrFun hx1 _) ?_
      refine mw_aload i_157_283 (L := SC0) rfl ?_
      refine mw_iload i_157_284 (x := nI i) rfl ?_
      refine mw_const i_157_285 (v := nI 7) (by decide) ?_
      refine mw_iadd i_157_286 (w := nI (i + 7)) (nI_add _ _) ?_
      refine mw_iald i_157_287 (jn := i + 7) (n := L) (by omega) (by omega) hK01 (by decide) (v := xs (i + 7)) (congrFun hx1 _) ?_
      refine mw_callV i_157_288 mf_93 (as := [pI (xs (i + 1)), pI (xs (i + 2)), pI (xs (i + 3)), pI (xs (i + 4)), pI (bI (nz0 (xs (i + 5)))), pI (xs (i + 6)), pI (xs (i + 7))]) (rest := []) (d' := d9) (b' := b) (ls0 := [some (pR (some MO)), some (pI (xs (i + 1))), some (pI (xs (i + 2))), some (pI (xs (i + 3))), some (pI (xs (i + 4))), some (pI (bI (nz0 (xs (i + 5))))), some (pI (xs (i + 6))), some (pI (xs (i + 7))), none, none, none, none]) rfl rfl rfl (Nat.le_of_ble_eq_true rfl) hMK1.1 rfl rfl rfl ?_
      refine mF4 (by omega) hMK1 hmv1 hw.1.2.2 hn ?_
      intro I2 hF2 h28 hm2 v2 hv2
      refine aft_v ?_
      refine mw_istore i_157_289 (ls' := [some (pR (some SC0)), some (pR (some RING)), some (pR (some MO)), some (pR (some OUT)), some (pI (nI i)), some (pI (nI (Fz4 σ (xs (i + 1)) (xs (i + 2)) (xs (i + 3)) (xs (i + 4)) (nz0 (xs (i + 5))) (xs (i + 6)) (xs (i + 7))).1)), some (pI v2)]) rfl (Nat.le_of_ble_eq_true rfl) ?_
      refine mw_aload i_157_290 (L := MO) rfl ?_
      refine mw_callV i_157_291 mf_74 (as := []) (rest := []) (d' := d9) (b' := b) (ls0 := [some (pR (some MO))]) rfl rfl rfl (Nat.le_of_ble_eq_true rfl) hMK1.1 rfl rfl rfl ?_
      refine m_thrown hMK1 ?_
      rw [h28]
      refine aft_v ?_
      refine mw_iload i_157_292 (x := nI (Fz4 σ (xs (i + 1)) (xs (i + 2)) (xs (i + 3)) (xs (i + 4)) (nz0 (xs (i + 5))) (xs (i + 6)) (xs (i + 7))).1) rfl ?_
      refine mw_ic i_157_293 (p := (nI (Fz4 σ (xs (i + 1)) (xs (i + 2)) (xs (i + 3)) (xs (i + 4)) (nz0 (xs (i + 5))) (xs (i + 6)) (xs (i + 7))).1) = (nI (Fz4 σ (xs (i + 1)) (xs (i + 2)) (xs (i + 3)) (xs (i + 4)) (nz0 (xs (i + 5))) (xs (i + 6)) (xs (i + 7))).1)) Iff.rfl (fun c3 => ?_) (fun c3 => ?_)
      · skip
        refine mw_iload i_157_296 (x := nI (Fz4 σ (xs (i + 1)) (xs (i + 2)) (xs (i + 3)) (xs (i + 4)) (nz0 (xs (i + 5))) (xs (i + 6)) (xs (i + 7))).1) rfl ?_
        refine mw_if i_157_297 (p := ¬ (nI (Fz4 σ (xs (i + 1)) (xs (i + 2)) (xs (i + 3)) (xs (i + 4)) (nz0 (xs (i + 5))) (xs (i + 6)) (xs (i + 7))).1) = nI 0) Iff.rfl (fun c4 => ?_) (fun c4 => ?_)
        · skip
          refine mw_goto i_157_307 ?_
          exact q _ K1 I2 R1 _ _ _ (by omega) (WL_2 hW1 hMK1 hKO1 hK01 hx1 hF2 hm2)
        · skip
          have h0 : (Fz4 σ (xs (i + 1)) (xs (i + 2)) (xs (i + 3)) (xs (i + 4)) (nz0 (xs (i + 5))) (xs (i + 6)) (xs (i + 7))).1 = 0 := nI_inj (Classical.not_not.mp c4) (by omega) (by omega)
          refine mw_aload i_157_298 (L := OUT) rfl ?_
          refine mw_const i_157_299 (v := nI 0) (by decide) ?_
          refine mw_lald i_157_300 (jn := 0) (n := 1) (by omega) (by omega) hKO1 (v := (Fz4 σ (xs (i + 1)) (xs (i + 2)) (xs (i + 3)) (xs (i + 4)) (nz0 (xs (i + 5))) (xs (i + 6)) (xs (i + 7))).2.1) (by rw [hF2 OUT (by decide) (by decide)]; exact ho1 h0) ?_
          refine mw_iload i_157_301 (x := v2) rfl ?_
          refine mw_i2l i_157_302 ?_
          refine mw_lcmp i_157_303 (u := (Fz4 σ (xs (i + 1)) (xs (i + 2)) (xs (i + 3)) (xs (i + 4)) (nz0 (xs (i + 5))) (xs (i + 6)) (xs (i + 7))).2.1) (v := v2) (fun zx5 hzx5 => ?_)
          refine mw_if i_157_304 (p := zx5 = nI 0) Iff.rfl (fun c6 => ?_) (fun c6 => ?_)
          · skip
            refine mw_goto i_157_307 ?_
            exact q _ K1 I2 R1 _ _ _ (by omega) (WL_2 hW1 hMK1 hKO1 hK01 hx1 hF2 hm2)
          · skip
            exact absurd (hzx5.mpr (hv2 h0).symm) c6
      · skip
        exact absurd rfl c3
    refine mw_aload i_157_269 (L := SC0) rfl ?_
    refine mw_iload i_157_270 (x := nI i) rfl ?_
    refine mw_const i_157_271 (v := nI 5) (by decide) ?_
    refine mw_iadd i_157_272 (w := nI (i + 5)) (nI_add _ _) ?_
    refine mw_iald i_157_273 (jn := i + 5) (n := L) (by omega) (by omega) hK01 (by decide) (v := xs (i + 5)) (congrFun hx1 _) ?_
    refine mw_if i_157_274 (p := (xs (i + 5)) = nI 0) Iff.rfl (fun c7 => ?_) (fun c7 => ?_)
    · skip
      refine mw_const i_157_277 (v := nI 0) (by decide) ?_
      rw [show nI 0 = bI (nz0 (xs (i + 5))) from (bI_f ((fun h => h c7))).symm]
      exact J2
    · skip
      refine mw_const i_157_275 (v := nI 1) (by decide) ?_
      refine mw_goto i_157_276 ?_
      rw [show nI 1 = bI (nz0 (xs (i + 5))) from (bI_t (c7)).symm]
      exact J2
  refine mw_aload i_157_226 (L := SC0) rfl ?_
  refine mw_iload i_157_227 (x := nI i) rfl ?_
  refine mw_const i_157_228 (v := nI 5) (by decide) ?_
  refine mw_iadd i_157_229 (w := nI (i + 5)) (nI_add _ _) ?_
  refine mw_iald i_157_230 (jn := i + 5) (n := L) (by omega) (by omega) hK0 (by decide) (v := xs (i + 5)) (congrFun hx0 _) ?_
  refine mw_if i_157_231 (p := (xs (i + 5)) = nI 0) Iff.rfl (fun c8 => ?_) (fun c8 => ?_)
  · skip
    refine mw_const i_157_234 (v := nI 0) (by decide) ?_
    rw [show nI 0 = bI (nz0 (xs (i + 5))) from (bI_f ((fun h => h c8))).symm]
    exact J1
  · skip
    refine mw_const i_157_232 (v := nI 1) (by decide) ?_
    refine mw_goto i_157_233 ?_
    rw [show nI 1 = bI (nz0 (xs (i + 5))) from (bI_t (c8)).symm]
    exact J1
set_option maxRecDepth 20000 in
set_option maxHeartbeats 400000 in
theorem law_5 {d b : Nat} {K : KM} {I : IM} {R : RM} {Q : QT} {n i L : Nat} {σ : ST} {xs : Nat → Int32} {u5 u6 : Option PV} (hd : 20 ≤ d) (hn : n < 512) (hi8 : i + 8 ≤ L) (hL : L ≤ 4096) (hw : WL n σ xs L K I R)  (q : ∀ b' K' I' R' σ' u5 u6, b ≤ b' → WL (n + 1) σ' xs L K' I' R' → Mw d b' N_L_law 1116 [some (pR (some SC0)), some (pR (some RING)), some (pR (some MO)), some (pR (some OUT)), some (pI (nI i)), u5, u6] [] K' I' R' Q) : Mw d (b + 61) N_L_law 308 [some (pR (some SC0)), some (pR (some RING)), some (pR (some MO)), some (pR (some OUT)), some (pI (nI i)), u5, u6] [] K I R Q := by
  obtain ⟨d9, rfl⟩ : ∃ d9, d = d9 + 1 := ⟨d - 1, by omega⟩
  have hK0 := hw.2.2.2.2.1
  have hx0 := hw.2.2.2.2.2
  refine mw_aload i_157_308 (L := RING) rfl ?_
  refine mw_aload i_157_309 (L := SC0) rfl ?_
  refine mw_iload i_157_310 (x := nI i) rfl ?_
  refine mw_const i_157_311 (v := nI 1) (by decide) ?_
  refine mw_iadd i_157_312 (w := nI (i + 1)) (nI_add _ _) ?_
  refine mw_iald i_157_313 (jn := i + 1) (n := L) (by omega) (by omega) hK0 (by decide) (v := xs (i + 1)) (congrFun hx0 _) ?_
  refine mw_aload i_157_314 (L := SC0) rfl ?_
  refine mw_iload i_157_315 (x := nI i) rfl ?_
  refine mw_const i_157_316 (v := nI 2) (by decide) ?_
  refine mw_iadd i_157_317 (w := nI (i + 2)) (nI_add _ _) ?_
  refine mw_iald i_157_318 (jn := i + 2) (n := L) (by omega) (by omega) hK0 (by decide) (v := xs (i + 2)) (congrFun hx0 _) ?_
  refine mw_aload i_157_319 (L := OUT) rfl ?_
  refine mw_callS i_157_320 mf_137 (as := [pR (some RING), pI (xs (i + 1)), pI (xs (i + 2)), pR (some OUT)]) (rest := []) (d' := d9) (b' := b + 54) (ls0 := [some (pR (some RING)), some (pI (xs (i + 1))), some (pI (xs (i + 2))), some (pR (some OUT)), none]) rfl rfl rfl (Nat.le_of_ble_eq_true rfl) rfl (by omega) rfl ?_
  refine kL5 (by omega) hw.1 hn hw.2.2.2.1 ?_
  intro K1 I1 R1 hK1 hO1 hW1 ho1
  obtain ⟨hMK1, hmv1, hKO1, hK01, hx1⟩ := WL_1 (σ' := σ) hw hK1 hO1
  have hle := Fz5_le (σ := σ) (day := xs (i + 1)) (ma := xs (i + 2))
  refine aft_v ?_
  refine mw_istore i_157_321 (ls' := [some (pR (some SC0)), some (pR (some RING)), some (pR (some MO)), some (pR (some OUT)), some (pI (nI i)), some (pI (nI (Fz5 σ (xs (i + 1)) (xs (i + 2))).1)), u6]) rfl (Nat.le_of_ble_eq_true rfl) ?_
  refine mw_aload i_157_322 (L := MO) rfl ?_
  refine mw_aload i_157_323 (L := SC0) rfl ?_
  refine mw_iload i_157_324 (x := nI i) rfl ?_
  refine mw_const i_157_325 (v := nI 1) (by decide) ?_
  refine mw_iadd i_157_326 (w := nI (i + 1)) (nI_add _ _) ?_
  refine mw_iald i_157_327 (jn := i + 1) (n := L) (by omega) (by omega) hK01 (by decide) (v := xs (i + 1)) (congrFun hx1 _) ?_
  refine mw_aload i_157_328 (L := SC0) rfl ?_
  refine mw_iload i_157_329 (x := nI i) rfl ?_
  refine mw_const i_157_330 (v := nI 2) (by decide) ?_
  refine mw_iadd i_157_331 (w := nI (i + 2)) (nI_add _ _) ?_
  refine mw_iald i_157_332 (jn := i + 2) (n := L) (by omega) (by omega) hK01 (by decide) (v := xs (i + 2)) (congrFun hx1 _) ?_
  refine mw_callV i_157_333 mf_95 (as := [pI (xs (i + 1)), pI (xs (i + 2))]) (rest := []) (d' := d9) (b' := b + 54) (ls0 := [some (pR (some MO)), some (pI (xs (i + 1))), some (pI (xs (i + 2))), none]) rfl rfl rfl (Nat.le_of_ble_eq_true rfl) hMK1.1 rfl rfl rfl ?_
  refine mF5 (by omega) hMK1 hmv1 hw.1.2.2 hn ?_
  intro I2 hF2 h28 hm2 v2 hv2
  refine aft_v ?_
  refine mw_istore i_157_334 (ls' := [some (pR (some SC0)), some (pR (some RING)), some (pR (some MO)), some (pR (some OUT)), some (pI (nI i)), some (pI (nI (Fz5 σ (xs (i + 1)) (xs (i + 2))).1)), some (pI v2)]) rfl (Nat.le_of_ble_eq_true rfl) ?_
  refine mw_aload i_157_335 (L := MO) rfl ?_
  refine mw_callV i_157_336 mf_74 (as := []) (rest := []) (d' := d9) (b' := b + 54) (ls0 := [some (pR (some MO))]) rfl rfl rfl (Nat.le_of_ble_eq_true rfl) hMK1.1 rfl rfl rfl ?_
  refine m_thrown hMK1 ?_
  rw [h28]
  refine aft_v ?_
  refine mw_iload i_157_337 (x := nI (Fz5 σ (xs (i + 1)) (xs (i + 2))).1) rfl ?_
  refine mw_ic i_157_338 (p := (nI (Fz5 σ (xs (i + 1)) (xs (i + 2))).1) = (nI (Fz5 σ (xs (i + 1)) (xs (i + 2))).1)) Iff.rfl (fun c1 => ?_) (fun c1 => ?_)
  · skip
    refine mw_iload i_157_341 (x := nI (Fz5 σ (xs (i + 1)) (xs (i + 2))).1) rfl ?_
    refine mw_if i_157_342 (p := ¬ (nI (Fz5 σ (xs (i + 1)) (xs (i + 2))).1) = nI 0) Iff.rfl (fun c2 => ?_) (fun c2 => ?_)
    · skip
      refine mw_goto i_157_352 ?_
      exact q _ K1 I2 R1 _ _ _ (by omega) (WL_2 hW1 hMK1 hKO1 hK01 hx1 hF2 hm2)
    · skip
      have h0 : (Fz5 σ (xs (i + 1)) (xs (i + 2))).1 = 0 := nI_inj (Classical.not_not.mp c2) (by omega) (by omega)
      refine mw_aload i_157_343 (L := OUT) rfl ?_
      refine mw_const i_157_344 (v := nI 0) (by decide) ?_
      refine mw_lald i_157_345 (jn := 0) (n := 1) (by omega) (by omega) hKO1 (v := (Fz5 σ (xs (i + 1)) (xs (i + 2))).2.1) (by rw [hF2 OUT (by decide) (by decide)]; exact ho1 h0) ?_
      refine mw_iload i_157_346 (x := v2) rfl ?_
      refine mw_i2l i_157_347 ?_
      refine mw_lcmp i_157_348 (u := (Fz5 σ (xs (i + 1)) (xs (i + 2))).2.1) (v := v2) (fun zx3 hzx3 => ?_)
      refine mw_if i_157_349 (p := zx3 = nI 0) Iff.rfl (fun c4 => ?_) (fun c4 => ?_)
      · skip
        refine mw_goto i_157_352 ?_
        exact q _ K1 I2 R1 _ _ _ (by omega) (WL_2 hW1 hMK1 hKO1 hK01 hx1 hF2 hm2)
      · skip
        exact absurd (hzx3.mpr (hv2 h0).symm) c4
  · skip
    exact absurd rfl c1
set_option maxRecDepth 20000 in
set_option maxHeartbeats 400000 in
theorem law_6 {d b : Nat} {K : KM} {I : IM} {R : RM} {Q : QT} {n i L : Nat} {σ : ST} {xs : Nat → Int32} {u5 u6 : Option PV} (hd : 20 ≤ d) (hn : n < 512) (hi8 : i + 8 ≤ L) (hL : L ≤ 4096) (hw : WL n σ xs L K I R)  (q : ∀ b' K' I' R' σ' u5 u6, b ≤ b' → WL (n + 1) σ' xs L K' I' R' → Mw d b' N_L_law 1116 [some (pR (some SC0)), some (pR (some RING)), some (pR (some MO)), some (pR (some OUT)), some (pI (nI i)), u5, u6] [] K' I' R' Q) : Mw d (b + 61) N_L_law 353 [some (pR (some SC0)), some (pR (some RING)), some (pR (some MO)), some (pR (some OUT)), some (pI (nI i)), u5, u6] [] K I R Q := by
  obtain ⟨d9, rfl⟩ : ∃ d9, d = d9 + 1 := ⟨d - 1, by omega⟩
  have hK0 := hw.2.2.2.2.1
  have hx0 := hw.2.2.2.2.2
  refine mw_aload i_157_353 (L := RING) rfl ?_
  refine mw_aload i_157_354 (L := SC0) rfl ?_
  refine mw_iload i_157_355 (x := nI i) rfl ?_
  refine mw_const i_157_356 (v := nI 1) (by decide) ?_
  refine mw_iadd i_157_357 (w := nI (i + 1)) (nI_add _ _) ?_
  refine mw_iald i_157_358 (jn := i + 1) (n := L) (by omega) (by omega) hK0 (by decide) (v := xs (i + 1)) (congrFun hx0 _) ?_
  refine mw_aload i_157_359 (L := OUT) rfl ?_
  refine mw_callS i_157_360 mf_138 (as := [pR (some RING), pI (xs (i + 1)), pR (some OUT)]) (rest := []) (d' := d9) (b' := b + 54) (ls0 := [some (pR (some RING)), some (pI (xs (i + 1))), some (pR (some OUT)), none]) rfl rfl rfl (Nat.le_of_ble_eq_true rfl) rfl (by omega) rfl ?_
  refine kL6 (by omega) hw.1 hn hw.2.2.2.1 ?_
  intro K1 I1 R1 hK1 hO1 hW1 ho1
  obtain ⟨hMK1, hmv1, hKO1, hK01, hx1⟩ := WL_1 (σ' := σ) hw hK1 hO1
  have hle := Fz6_le (σ := σ) (ma := xs (i + 1))
  refine aft_v ?_
  refine mw_istore i_157_361 (ls' := [some (pR (some SC0)), some (pR (some RING)), some (pR (some MO)), some (pR (some OUT)), some (pI (nI i)), some (pI (nI (Fz6 σ (xs (i + 1))).1)), u6]) rfl (Nat.le_of_ble_eq_true rfl) ?_
  refine mw_aload i_157_362 (L := MO) rfl ?_
  refine mw_aload i_157_363 (L := SC0) rfl ?_
  refine mw_iload i_157_364 (x := nI i) rfl ?_
  refine mw_const i_157_365 (v := nI 1) (by decide) ?_
  refine mw_iadd i_157_366 (w := nI (i + 1)) (nI_add _ _) ?_
  refine mw_iald i_157_367 (jn := i + 1) (n := L) (by omega) (by omega) hK01 (by decide) (v := xs (i + 1)) (congrFun hx1 _) ?_
  refine mw_callV i_157_368 mf_96 (as := [pI (xs (i + 1))]) (rest := []) (d' := d9) (b' := b + 54) (ls0 := [some (pR (some MO)), some (pI (xs (i + 1))), none, none]) rfl rfl rfl (Nat.le_of_ble_eq_true rfl) hMK1.1 rfl rfl rfl ?_
  refine mF6 (by omega) hMK1 hmv1 hw.1.2.2 hn ?_
  intro I2 hF2 h28 hm2 v2 hv2
  refine aft_v ?_
  refine mw_istore i_157_369 (ls' := [some (pR (some SC0)), some (pR (some RING)), some (pR (some MO)), some (pR (some OUT)), some (pI (nI i)), some (pI (nI (Fz6 σ (xs (i + 1))).1)), some (pI v2)]) rfl (Nat.le_of_ble_eq_true rfl) ?_
  refine mw_aload i_157_370 (L := MO) rfl ?_
  refine mw_callV i_157_371 mf_74 (as := []) (rest := []) (d' := d9) (b' := b + 54) (ls0 := [some (pR (some MO))]) rfl rfl rfl (Nat.le_of_ble_eq_true rfl) hMK1.1 rfl rfl rfl ?_
  refine m_thrown hMK1 ?_
  rw [h28]
  refine aft_v ?_
  refine mw_iload i_157_372 (x := nI (Fz6 σ (xs (i + 1))).1) rfl ?_
  refine mw_ic i_157_373 (p := (nI (Fz6 σ (xs (i + 1))).1) = (nI (Fz6 σ (xs (i + 1))).1)) Iff.rfl (fun c1 => ?_) (fun c1 => ?_)
  · skip
    refine mw_iload i_157_376 (x := nI (Fz6 σ (xs (i + 1))).1) rfl ?_
    refine mw_if i_157_377 (p := ¬ (nI (Fz6 σ (xs (i + 1))).1) = nI 0) Iff.rfl (fun c2 => ?_) (fun c2 => ?_)
    · skip
      refine mw_goto i_157_390 ?_
      exact q _ K1 I2 R1 _ _ _ (by omega) (WL_2 hW1 hMK1 hKO1 hK01 hx1 hF2 hm2)
    · skip
      have h0 : (Fz6 σ (xs (i + 1))).1 = 0 := nI_inj (Classical.not_not.mp c2) (by omega) (by omega)
      refine mw_aload i_157_378 (L := OUT) rfl ?_
      refine mw_const i_157_379 (v := nI 0) (by decide) ?_
      refine mw_lald i_157_380 (jn := 0) (n := 1) (by omega) (by omega) hKO1 (v := (Fz6 σ (xs (i + 1))).2.1) (by rw [hF2 OUT (by decide) (by decide)]; exact ho1 h0) ?_
      refine mw_iload i_157_381 (x := v2) rfl ?_
      refine mw_if i_157_382 (p := v2 = nI 0) Iff.rfl (fun c3 => ?_) (fun c3 => ?_)
      · skip
        refine mw_lconst i_157_385 (v := nI 0) (by decide) (by decide) ?_
        refine mw_lcmp i_157_386 (u := (Fz6 σ (xs (i + 1))).2.1) (v := nI 0) (fun zx4 hzx4 => ?_)
        refine mw_if i_157_387 (p := zx4 = nI 0) Iff.rfl (fun c5 => ?_) (fun c5 => ?_)
        · skip
          refine mw_goto i_157_390 ?_
          exact q _ K1 I2 R1 _ _ _ (by omega) (WL_2 hW1 hMK1 hKO1 hK01 hx1 hF2 hm2)
        · skip
          exact absurd (hzx4.mpr ((hv2 h0).symm.trans c3)) c5
      · skip
        refine mw_lconst i_157_383 (v := nI 1) (by decide) (by decide) ?_
        refine mw_goto i_157_384 ?_
        refine mw_lcmp i_157_386 (u := (Fz6 σ (xs (i + 1))).2.1) (v := nI 1) (fun zx6 hzx6 => ?_)
        refine mw_if i_157_387 (p := zx6 = nI 0) Iff.rfl (fun c7 => ?_) (fun c7 => ?_)
        · skip
          refine mw_goto i_157_390 ?_
          exact q _ K1 I2 R1 _ _ _ (by omega) (WL_2 hW1 hMK1 hKO1 hK01 hx1 hF2 hm2)
        · skip
          exact absurd (hzx6.mpr ((Fz6_01 hw.1.2.2 h0).resolve_left (fun e9 => c3 ((hv2 h0).trans e9)))) c7
  · skip
    exact absurd rfl c1
set_option maxRecDepth 20000 in
set_option maxHeartbeats 400000 in
theorem law_7 {d b : Nat} {K : KM} {I : IM} {R : RM} {Q : QT} {n i L : Nat} {σ : ST} {xs : Nat → Int32} {u5 u6 : Option PV} (hd : 20 ≤ d) (hn : n < 512) (hi8 : i + 8 ≤ L) (hL : L ≤ 4096) (hw : WL n σ xs L K I R)  (q : ∀ b' K' I' R' σ' u5 u6, b ≤ b' → WL (n + 1) σ' xs L K' I' R' → Mw d b' N_L_law 1116 [some (pR (some SC0)), some (pR (some RING)), some (pR (some MO)), some (pR (some OUT)), some (pI (nI i)), u5, u6] [] K' I' R' Q) : Mw d (b + 61) N_L_law 391 [some (pR (some SC0)), some (pR (some RING)), some (pR (some MO)), some (pR (some OUT)), some (pI (nI i)), u5, u6] [] K I R Q := by
  obtain ⟨d9, rfl⟩ : ∃ d9, d = d9 + 1 := ⟨d - 1, by omega⟩
  have hK0 := hw.2.2.2.2.1
  have hx0 := hw.2.2.2.2.2
  refine mw_aload i_157_391 (L := RING) rfl ?_
  refine mw_aload i_157_392 (L := SC0) rfl ?_
  refine mw_iload i_157_393 (x := nI i) rfl ?_
  refine mw_const i_157_394 (v := nI 1) (by decide) ?_
  refine mw_iadd i_157_395 (w := nI (i + 1)) (nI_add _ _) ?_
  refine mw_iald i_157_396 (jn := i + 1) (n := L) (by omega) (by omega) hK0 (by decide) (v := xs (i + 1)) (congrFun hx0 _) ?_
  refine mw_aload i_157_397 (L := SC0) rfl ?_
  refine mw_iload i_157_398 (x := nI i) rfl ?_
  refine mw_const i_157_399 (v := nI 2) (by decide) ?_
  refine mw_iadd i_157_400 (w := nI (i + 2)) (nI_add _ _) ?_
  refine mw_iald i_157_401 (jn := i + 2) (n := L) (by omega) (by omega) hK0 (by decide) (v := xs (i + 2)) (congrFun hx0 _) ?_
  refine mw_aload i_157_402 (L := OUT) rfl ?_
  refine mw_callS i_157_403 mf_139 (as := [pR (some RING), pI (xs (i + 1)), pI (xs (i + 2)), pR (some OUT)]) (rest := []) (d' := d9) (b' := b + 54) (ls0 := [some (pR (some RING)), some (pI (xs (i + 1))), some (pI (xs (i + 2))), some (pR (some OUT)), none]) rfl rfl rfl (Nat.le_of_ble_eq_true rfl) rfl (by omega) rfl ?_
  refine kL7 (by omega) hw.1 hn hw.2.2.2.1 ?_
  intro K1 I1 R1 hK1 hO1 hW1 ho1
  obtain ⟨hMK1, hmv1, hKO1, hK01, hx1⟩ := WL_1 (σ' := σ) hw hK1 hO1
  have hle := Fz7_le (σ := σ) (w := xs (i + 1)) (days := xs (i + 2))
  refine aft_v ?_
  refine mw_istore i_157_404 (ls' := [some (pR (some SC0)), some (pR (some RING)), some (pR (some MO)), some (pR (some OUT)), some (pI (nI i)), some (pI (nI (Fz7 σ (xs (i + 1)) (xs (i + 2))).1)), u6]) rfl (Nat.le_of_ble_eq_true rfl) ?_
  refine mw_aload i_157_405 (L := MO) rfl ?_
  refine mw_aload i_157_406 (L := SC0) rfl ?_
  refine mw_iload i_157_407 (x := nI i) rfl ?_
  refine mw_const i_157_408 (v := nI 1) (by decide) ?_
  refine mw_iadd i_157_409 (w := nI (i + 1)) (nI_add _ _) ?_
  refine mw_iald i_157_410 (jn := i + 1) (n := L) (by omega) (by omega) hK01 (by decide) (v := xs (i + 1)) (congrFun hx1 _) ?_
  refine mw_aload i_157_411 (L := SC0) rfl ?_
  refine mw_iload i_157_412 (x := nI i) rfl ?_
  refine mw_const i_157_413 (v := nI 2) (by decide) ?_
  refine mw_iadd i_157_414 (w := nI (i + 2)) (nI_add _ _) ?_
  refine mw_iald i_157_415 (jn := i + 2) (n := L) (by omega) (by omega) hK01 (by decide) (v := xs (i + 2)) (congrFun hx1 _) ?_
  refine mw_callV i_157_416 mf_98 (as := [pI (xs (i + 1)), pI (xs (i + 2))]) (rest := []) (d' := d9) (b' := b + 54) (ls0 := [some (pR (some MO)), some (pI (xs (i + 1))), some (pI (xs (i + 2)))]) rfl rfl rfl (Nat.le_of_ble_eq_true rfl) hMK1.1 rfl rfl rfl ?_
  refine mF7 (by omega) hMK1 hmv1 hw.1.2.2 hn ?_
  intro I2 hF2 h28 hm2 v2 hv2
  refine aft_v ?_
  refine mw_istore i_157_417 (ls' := [some (pR (some SC0)), some (pR (some RING)), some (pR (some MO)), some (pR (some OUT)), some (pI (nI i)), some (pI (nI (Fz7 σ (xs (i + 1)) (xs (i + 2))).1)), some (pI v2)]) rfl (Nat.le_of_ble_eq_true rfl) ?_
  refine mw_aload i_157_418 (L := MO) rfl ?_
  refine mw_callV i_157_419 mf_74 (as := []) (rest := []) (d' := d9) (b' := b + 54) (ls0 := [some (pR (some MO))]) rfl rfl rfl (Nat.le_of_ble_eq_true rfl) hMK1.1 rfl rfl rfl ?_
  refine m_thrown hMK1 ?_
  rw [h28]
  refine aft_v ?_
  refine mw_iload i_157_420 (x := nI (Fz7 σ (xs (i + 1)) (xs (i + 2))).1) rfl ?_
  refine mw_ic i_157_421 (p := (nI (Fz7 σ (xs (i + 1)) (xs (i + 2))).1) = (nI (Fz7 σ (xs (i + 1)) (xs (i + 2))).1)) Iff.rfl (fun c1 => ?_) (fun c1 => ?_)
  · skip
    refine mw_iload i_157_424 (x := nI (Fz7 σ (xs (i + 1)) (xs (i + 2))).1) rfl ?_
    refine mw_if i_157_425 (p := ¬ (nI (Fz7 σ (xs (i + 1)) (xs (i + 2))).1) = nI 0) Iff.rfl (fun c2 => ?_) (fun c2 => ?_)
    · skip
      refine mw_goto i_157_435 ?_
      exact q _ K1 I2 R1 _ _ _ (by omega) (WL_2 hW1 hMK1 hKO1 hK01 hx1 hF2 hm2)
    · skip
      have h0 : (Fz7 σ (xs (i + 1)) (xs (i + 2))).1 = 0 := nI_inj (Classical.not_not.mp c2) (by omega) (by omega)
      refine mw_aload i_157_426 (L := OUT) rfl ?_
      refine mw_const i_157_427 (v := nI 0) (by decide) ?_
      refine mw_lald i_157_428 (jn := 0) (n := 1) (by omega) (by omega) hKO1 (v := (Fz7 σ (xs (i + 1)) (xs (i + 2))).2.1) (by rw [hF2 OUT (by decide) (by decide)]; exact ho1 h0) ?_
      refine mw_iload i_157_429 (x := v2) rfl ?_
      refine mw_i2l i_157_430 ?_
      refine mw_lcmp i_157_431 (u := (Fz7 σ (xs (i + 1)) (xs (i + 2))).2.1) (v := v2) (fun zx3 hzx3 => ?_)
      refine mw_if i_157_432 (p := zx3 = nI 0) Iff.rfl (fun c4 => ?_) (fun c4 => ?_)
      · skip
        refine mw_goto i_157_435 ?_
        exact q _ K1 I2 R1 _ _ _ (by omega) (WL_2 hW1 hMK1 hKO1 hK01 hx1 hF2 hm2)
      · skip
        exact absurd (hzx3.mpr (hv2 h0).symm) c4
  · skip
    exact absurd rfl c1
set_option maxRecDepth 20000 in
set_option maxHeartbeats 400000 in
theorem law_8 {d b : Nat} {K : KM} {I : IM} {R : RM} {Q : QT} {n i L : Nat} {σ : ST} {xs : Nat → Int32} {u5 u6 : Option PV} (hd : 20 ≤ d) (hn : n < 512) (hi8 : i + 8 ≤ L) (hL : L ≤ 4096) (hw : WL n σ xs L K I R)  (q : ∀ b' K' I' R' σ' u5 u6, b ≤ b' → WL (n + 1) σ' xs L K' I' R' → Mw d b' N_L_law 1116 [some (pR (some SC0)), some (pR (some RING)), some (pR (some MO)), some (pR (some OUT)), some (pI (nI i)), u5, u6] [] K' I' R' Q) : Mw d (b + 61) N_L_law 436 [some (pR (some SC0)), some (pR (some RING)), some (pR (some MO)), some (pR (some OUT)), some (pI (nI i)), u5, u6] [] K I R Q := by
  obtain ⟨d9, rfl⟩ : ∃ d9, d = d9 + 1 := ⟨d - 1, by omega⟩
  have hK0 := hw.2.2.2.2.1
  have hx0 := hw.2.2.2.2.2
  refine mw_aload i_157_436 (L := RING) rfl ?_
  refine mw_aload i_157_437 (L := SC0) rfl ?_
  refine mw_iload i_157_438 (x := nI i) rfl ?_
  refine mw_const i_157_439 (v := nI 1) (by decide) ?_
  refine mw_iadd i_157_440 (w := nI (i + 1)) (nI_add _ _) ?_
  refine mw_iald i_157_441 (jn := i + 1) (n := L) (by omega) (by omega) hK0 (by decide) (v := xs (i + 1)) (congrFun hx0 _) ?_
  refine mw_aload i_157_442 (L := OUT) rfl ?_
  refine mw_callS i_157_443 mf_140 (as := [pR (some RING), pI (xs (i + 1)), pR (some OUT)]) (rest := []) (d' := d9) (b' := b + 54) (ls0 := [some (pR (some RING)), some (pI (xs (i + 1))), some (pR (some OUT)), none]) rfl rfl rfl (Nat.le_of_ble_eq_true rfl) rfl (by omega) rfl ?_
  refine kL8 (by omega) hw.1 hn hw.2.2.2.1 ?_
  intro K1 I1 R1 hK1 hO1 hW1 ho1
  obtain ⟨hMK1, hmv1, hKO1, hK01, hx1⟩ := WL_1 (σ' := σ) hw hK1 hO1
  have hle := Fz8_le (σ := σ) (w := xs (i + 1))
  refine aft_v ?_
  refine mw_istore i_157_444 (ls' := [some (pR (some SC0)), some (pR (some RING)), some (pR (some MO)), some (pR (some OUT)), some (pI (nI i)), some (pI (nI (Fz8 σ (xs (i + 1))).1)), u6]) rfl (Nat.le_of_ble_eq_true rfl) ?_
  refine mw_aload i_157_445 (L := MO) rfl ?_
  refine mw_aload i_157_446 (L := SC0) rfl ?_
  refine mw_iload i_157_447 (x := nI i) rfl ?_
  refine mw_const i_157_448 (v := nI 1) (by decide) ?_
  refine mw_iadd i_157_449 (w := nI (i + 1)) (nI_add _ _) ?_
  refine mw_iald i_157_450 (jn := i + 1) (n := L) (by omega) (by omega) hK01 (by decide) (v := xs (i + 1)) (congrFun hx1 _) ?_
  refine mw_callV i_157_451 mf_99 (as := [pI (xs (i + 1))]) (rest := []) (d' := d9) (b' := b + 54) (ls0 := [some (pR (some MO)), some (pI (xs (i + 1)))]) rfl rfl rfl (Nat.le_of_ble_eq_true rfl) hMK1.1 rfl rfl rfl ?_
  refine mF8 (by omega) hMK1 hmv1 hw.1.2.2 hn ?_
  intro I2 hF2 h28 hm2 v2 hv2
  refine aft_v ?_
  refine mw_istore i_157_452 (ls' := [some (pR (some SC0)), some (pR (some RING)), some (pR (some MO)), some (pR (some OUT)), some (pI (nI i)), some (pI (nI (Fz8 σ (xs (i + 1))).1)), some (pI v2)]) rfl (Nat.le_of_ble_eq_true rfl) ?_
  refine mw_aload i_157_453 (L := MO) rfl ?_
  refine mw_callV i_157_454 mf_74 (as := []) (rest := []) (d' := d9) (b' := b + 54) (ls0 := [some (pR (some MO))]) rfl rfl rfl (Nat.le_of_ble_eq_true rfl) hMK1.1 rfl rfl rfl ?_
  refine m_thrown hMK1 ?_
  rw [h28]
  refine aft_v ?_
  refine mw_iload i_157_455 (x := nI (Fz8 σ (xs (i + 1))).1) rfl ?_
  refine mw_ic i_157_456 (p := (nI (Fz8 σ (xs (i + 1))).1) = (nI (Fz8 σ (xs (i + 1))).1)) Iff.rfl (fun c1 => ?_) (fun c1 => ?_)
  · skip
    refine mw_iload i_157_459 (x := nI (Fz8 σ (xs (i + 1))).1) rfl ?_
    refine mw_if i_157_460 (p := ¬ (nI (Fz8 σ (xs (i + 1))).1) = nI 0) Iff.rfl (fun c2 => ?_) (fun c2 => ?_)
    · skip
      refine mw_goto i_157_470 ?_
      exact q _ K1 I2 R1 _ _ _ (by omega) (WL_2 hW1 hMK1 hKO1 hK01 hx1 hF2 hm2)
    · skip
      have h0 : (Fz8 σ (xs (i + 1))).1 = 0 := nI_inj (Classical.not_not.mp c2) (by omega) (by omega)
      refine mw_aload i_157_461 (L := OUT) rfl ?_
      refine mw_const i_157_462 (v := nI 0) (by decide) ?_
      refine mw_lald i_157_463 (jn := 0) (n := 1) (by omega) (by omega) hKO1 (v := (Fz8 σ (xs (i + 1))).2.1) (by rw [hF2 OUT (by decide) (by decide)]; exact ho1 h0) ?_
      refine mw_iload i_157_464 (x := v2) rfl ?_
      refine mw_i2l i_157_465 ?_
      refine mw_lcmp i_157_466 (u := (Fz8 σ (xs (i + 1))).2.1) (v := v2) (fun zx3 hzx3 => ?_)
      refine mw_if i_157_467 (p := zx3 = nI 0) Iff.rfl (fun c4 => ?_) (fun c4 => ?_)
      · skip
        refine mw_goto i_157_470 ?_
        exact q _ K1 I2 R1 _ _ _ (by omega) (WL_2 hW1 hMK1 hKO1 hK01 hx1 hF2 hm2)
      · skip
        exact absurd (hzx3.mpr (hv2 h0).symm) c4
  · skip
    exact absurd rfl c1
set_option maxRecDepth 20000 in
set_option maxHeartbeats 400000 in
theorem law_9 {d b : Nat} {K : KM} {I : IM} {R : RM} {Q : QT} {n i L : Nat} {σ : ST} {xs : Nat → Int32} {u5 u6 : Option PV} (hd : 20 ≤ d) (hn : n < 512) (hi8 : i + 8 ≤ L) (hL : L ≤ 4096) (hw : WL n σ xs L K I R)  (q : ∀ b' K' I' R' σ' u5 u6, b ≤ b' → WL (n + 1) σ' xs L K' I' R' → Mw d b' N_L_law 1116 [some (pR (some SC0)), some (pR (some RING)), some (pR (some MO)), some (pR (some OUT)), some (pI (nI i)), u5, u6] [] K' I' R' Q) : Mw d (b + 61) N_L_law 471 [some (pR (some SC0)), some (pR (some RING)), some (pR (some MO)), some (pR (some OUT)), some (pI (nI i)), u5, u6] [] K I R Q := by
  obtain ⟨d9, rfl⟩ : ∃ d9, d = d9 + 1 := ⟨d - 1, by omega⟩
  have hK0 := hw.2.2.2.2.1
  have hx0 := hw.2.2.2.2.2
  refine mw_aload i_157_471 (L := RING) rfl ?_
  refine mw_aload i_157_472 (L := OUT) rfl ?_
  refine mw_callS i_157_473 mf_141 (as := [pR (some RING), pR (some OUT)]) (rest := []) (d' := d9) (b' := b + 54) (ls0 := [some (pR (some RING)), some (pR (some OUT)), none]) rfl rfl rfl (Nat.le_of_ble_eq_true rfl) rfl (by omega) rfl ?_
  refine kL9 (by omega) hw.1 hn hw.2.2.2.1 ?_
  intro K1 I1 R1 hK1 hO1 hW1 ho1
  obtain ⟨hMK1, hmv1, hKO1, hK01, hx1⟩ := WL_1 (σ' := σ) hw hK1 hO1
  have hle := Fz9_le (σ := σ)
  refine aft_v ?_
  refine mw_istore i_157_474 (ls' := [some (pR (some SC0)), some (pR (some RING)), some (pR (some MO)), some (pR (some OUT)), some (pI (nI i)), some (pI (nI (Fz9 σ).1)), u6]) rfl (Nat.le_of_ble_eq_true rfl) ?_
  refine mw_aload i_157_475 (L := MO) rfl ?_
  refine mw_callV i_157_476 mf_105 (as := []) (rest := []) (d' := d9) (b' := b + 54) (ls0 := [some (pR (some MO)), none, none, none]) rfl rfl rfl (Nat.le_of_ble_eq_true rfl) hMK1.1 rfl rfl rfl ?_
  refine mF9 (by omega) hMK1 hmv1 hw.1.2.2 hn ?_
  intro I2 hF2 h28 hm2 v2 hv2
  refine aft_v ?_
  refine mw_istore i_157_477 (ls' := [some (pR (some SC0)), some (pR (some RING)), some (pR (some MO)), some (pR (some OUT)), some (pI (nI i)), some (pI (nI (Fz9 σ).1)), some (pI v2)]) rfl (Nat.le_of_ble_eq_true rfl) ?_
  refine mw_aload i_157_478 (L := MO) rfl ?_
  refine mw_callV i_157_479 mf_74 (as := []) (rest := []) (d' := d9) (b' := b + 54) (ls0 := [some (pR (some MO))]) rfl rfl rfl (Nat.le_of_ble_eq_true rfl) hMK1.1 rfl rfl rfl ?_
  refine m_thrown hMK1 ?_
  rw [h28]
  refine aft_v ?_
  refine mw_iload i_157_480 (x := nI (Fz9 σ).1) rfl ?_
  refine mw_ic i_157_481 (p := (nI (Fz9 σ).1) = (nI (Fz9 σ).1)) Iff.rfl (fun c1 => ?_) (fun c1 => ?_)
  · skip
    refine mw_iload i_157_484 (x := nI (Fz9 σ).1) rfl ?_
    refine mw_if i_157_485 (p := ¬ (nI (Fz9 σ).1) = nI 0) Iff.rfl (fun c2 => ?_) (fun c2 => ?_)
    · skip
      refine mw_goto i_157_495 ?_
      exact q _ K1 I2 R1 _ _ _ (by omega) (WL_2 hW1 hMK1 hKO1 hK01 hx1 hF2 hm2)
    · skip
      have h0 : (Fz9 σ).1 = 0 := nI_inj (Classical.not_not.mp c2) (by omega) (by omega)
      refine mw_aload i_157_486 (L := OUT) rfl ?_
      refine mw_const i_157_487 (v := nI 0) (by decide) ?_
      refine mw_lald i_157_488 (jn := 0) (n := 1) (by omega) (by omega) hKO1 (v := (Fz9 σ).2.1) (by rw [hF2 OUT (by decide) (by decide)]; exact ho1 h0) ?_
      refine mw_iload i_157_489 (x := v2) rfl ?_
      refine mw_i2l i_157_490 ?_
      refine mw_lcmp i_157_491 (u := (Fz9 σ).2.1) (v := v2) (fun zx3 hzx3 => ?_)
      refine mw_if i_157_492 (p := zx3 = nI 0) Iff.rfl (fun c4 => ?_) (fun c4 => ?_)
      · skip
        refine mw_goto i_157_495 ?_
        exact q _ K1 I2 R1 _ _ _ (by omega) (WL_2 hW1 hMK1 hKO1 hK01 hx1 hF2 hm2)
      · skip
        exact absurd (hzx3.mpr (hv2 h0).symm) c4
  · skip
    exact absurd rfl c1
set_option maxRecDepth 20000 in
set_option maxHeartbeats 400000 in
theorem law_10 {d b : Nat} {K : KM} {I : IM} {R : RM} {Q : QT} {n i L : Nat} {σ : ST} {xs : Nat → Int32} {u5 u6 : Option PV} (hd : 20 ≤ d) (hn : n < 512) (hi8 : i + 8 ≤ L) (hL : L ≤ 4096) (hw : WL n σ xs L K I R)  (q : ∀ b' K' I' R' σ' u5 u6, b ≤ b' → WL (n + 1) σ' xs L K' I' R' → Mw d b' N_L_law 1116 [some (pR (some SC0)), some (pR (some RING)), some (pR (some MO)), some (pR (some OUT)), some (pI (nI i)), u5, u6] [] K' I' R' Q) : Mw d (b + 61) N_L_law 496 [some (pR (some SC0)), some (pR (some RING)), some (pR (some MO)), some (pR (some OUT)), some (pI (nI i)), u5, u6] [] K I R Q := by
  obtain ⟨d9, rfl⟩ : ∃ d9, d = d9 + 1 := ⟨d - 1, by omega⟩
  have hK0 := hw.2.2.2.2.1
  have hx0 := hw.2.2.2.2.2
  refine mw_aload i_157_496 (L := RING) rfl ?_
  refine mw_aload i_157_497 (L := OUT) rfl ?_
  refine mw_callS i_157_498 mf_142 (as := [pR (some RING), pR (some OUT)]) (rest := []) (d' := d9) (b' := b + 54) (ls0 := [some (pR (some RING)), some (pR (some OUT)), none]) rfl rfl rfl (Nat.le_of_ble_eq_true rfl) rfl (by omega) rfl ?_
  refine kL10 (by omega) hw.1 hn hw.2.2.2.1 ?_
  intro K1 I1 R1 hK1 hO1 hW1 ho1
  obtain ⟨hMK1, hmv1, hKO1, hK01, hx1⟩ := WL_1 (σ' := σ) hw hK1 hO1
  have hle := Fz10_le (σ := σ)
  refine aft_v ?_
  refine mw_istore i_157_499 (ls' := [some (pR (some SC0)), some (pR (some RING)), some (pR (some MO)), some (pR (some OUT)), some (pI (nI i)), some (pI (nI (Fz10 σ).1)), u6]) rfl (Nat.le_of_ble_eq_true rfl) ?_
  refine mw_aload i_157_500 (L := MO) rfl ?_
  refine mw_callV i_157_501 mf_113 (as := []) (rest := []) (d' := d9) (b' := b + 54) (ls0 := [some (pR (some MO)), none, none, none]) rfl rfl rfl (Nat.le_of_ble_eq_true rfl) hMK1.1 rfl rfl rfl ?_
  refine mF10 (by omega) hMK1 hmv1 hw.1.2.2 hn ?_
  intro I2 hF2 h28 hm2 v2 hv2
  refine aft_v ?_
  refine mw_istore i_157_502 (ls' := [some (pR (some SC0)), some (pR (some RING)), some (pR (some MO)), some (pR (some OUT)), some (pI (nI i)), some (pI (nI (Fz10 σ).1)), some (pI v2)]) rfl (Nat.le_of_ble_eq_true rfl) ?_
  refine mw_aload i_157_503 (L := MO) rfl ?_
  refine mw_callV i_157_504 mf_74 (as := []) (rest := []) (d' := d9) (b' := b + 54) (ls0 := [some (pR (some MO))]) rfl rfl rfl (Nat.le_of_ble_eq_true rfl) hMK1.1 rfl rfl rfl ?_
  refine m_thrown hMK1 ?_
  rw [h28]
  refine aft_v ?_
  refine mw_iload i_157_505 (x := nI (Fz10 σ).1) rfl ?_
  refine mw_ic i_157_506 (p := (nI (Fz10 σ).1) = (nI (Fz10 σ).1)) Iff.rfl (fun c1 => ?_) (fun c1 => ?_)
  · skip
    refine mw_iload i_157_509 (x := nI (Fz10 σ).1) rfl ?_
    refine mw_if i_157_510 (p := ¬ (nI (Fz10 σ).1) = nI 0) Iff.rfl (fun c2 => ?_) (fun c2 => ?_)
    · skip
      refine mw_goto i_157_520 ?_
      exact q _ K1 I2 R1 _ _ _ (by omega) (WL_2 hW1 hMK1 hKO1 hK01 hx1 hF2 hm2)
    · skip
      have h0 : (Fz10 σ).1 = 0 := nI_inj (Classical.not_not.mp c2) (by omega) (by omega)
      refine mw_aload i_157_511 (L := OUT) rfl ?_
      refine mw_const i_157_512 (v := nI 0) (by decide) ?_
      refine mw_lald i_157_513 (jn := 0) (n := 1) (by omega) (by omega) hKO1 (v := (Fz10 σ).2.1) (by rw [hF2 OUT (by decide) (by decide)]; exact ho1 h0) ?_
      refine mw_iload i_157_514 (x := v2) rfl ?_
      refine mw_i2l i_157_515 ?_
      refine mw_lcmp i_157_516 (u := (Fz10 σ).2.1) (v := v2) (fun zx3 hzx3 => ?_)
      refine mw_if i_157_517 (p := zx3 = nI 0) Iff.rfl (fun c4 => ?_) (fun c4 => ?_)
      · skip
        refine mw_goto i_157_520 ?_
        exact q _ K1 I2 R1 _ _ _ (by omega) (WL_2 hW1 hMK1 hKO1 hK01 hx1 hF2 hm2)
      · skip
        exact absurd (hzx3.mpr (hv2 h0).symm) c4
  · skip
    exact absurd rfl c1
set_option maxRecDepth 20000 in
set_option maxHeartbeats 400000 in
theorem law_11 {d b : Nat} {K : KM} {I : IM} {R : RM} {Q : QT} {n i L : Nat} {σ : ST} {xs : Nat → Int32} {u5 u6 : Option PV} (hd : 20 ≤ d) (hn : n < 512) (hi8 : i + 8 ≤ L) (hL : L ≤ 4096) (hw : WL n σ xs L K I R)  (q : ∀ b' K' I' R' σ' u5 u6, b ≤ b' → WL (n + 1) σ' xs L K' I' R' → Mw d b' N_L_law 1116 [some (pR (some SC0)), some (pR (some RING)), some (pR (some MO)), some (pR (some OUT)), some (pI (nI i)), u5, u6] [] K' I' R' Q) : Mw d (b + 61) N_L_law 521 [some (pR (some SC0)), some (pR (some RING)), some (pR (some MO)), some (pR (some OUT)), some (pI (nI i)), u5, u6] [] K I R Q := by
  obtain ⟨d9, rfl⟩ : ∃ d9, d = d9 + 1 := ⟨d - 1, by omega⟩
  have hK0 := hw.2.2.2.2.1
  have hx0 := hw.2.2.2.2.2
  refine mw_aload i_157_521 (L := RING) rfl ?_
  refine mw_aload i_157_522 (L := SC0) rfl ?_
  refine mw_iload i_157_523 (x := nI i) rfl ?_
  refine mw_const i_157_524 (v := nI 1) (by decide) ?_
  refine mw_iadd i_157_525 (w := nI (i + 1)) (nI_add _ _) ?_
  refine mw_iald i_157_526 (jn := i + 1) (n := L) (by omega) (by omega) hK0 (by decide) (v := xs (i + 1)) (congrFun hx0 _) ?_
  refine mw_aload i_157_527 (L := SC0) rfl ?_
  refine mw_iload i_157_528 (x := nI i) rfl ?_
  refine mw_const i_157_529 (v := nI 2) (by decide) ?_
  refine mw_iadd i_157_530 (w := nI (i + 2)) (nI_add _ _) ?_
  refine mw_iald i_157_531 (jn := i + 2) (n := L) (by omega) (by omega) hK0 (by decide) (v := xs (i + 2)) (congrFun hx0 _) ?_
  refine mw_aload i_157_532 (L := SC0) rfl ?_
  refine mw_iload i_157_533 (x := nI i) rfl ?_
  refine mw_const i_157_534 (v := nI 3) (by decide) ?_
  refine mw_iadd i_157_535 (w := nI (i + 3)) (nI_add _ _) ?_
  refine mw_iald i_157_536 (jn := i + 3) (n := L) (by omega) (by omega) hK0 (by decide) (v := xs (i + 3)) (congrFun hx0 _) ?_
  refine mw_aload i_157_537 (L := OUT) rfl ?_
  refine mw_callS i_157_538 mf_143 (as := [pR (some RING), pI (xs (i + 1)), pI (xs (i + 2)), pI (xs (i + 3)), pR (some OUT)]) (rest := []) (d' := d9) (b' := b + 54) (ls0 := [some (pR (some RING)), some (pI (xs (i + 1))), some (pI (xs (i + 2))), some (pI (xs (i + 3))), some (pR (some OUT)), none]) rfl rfl rfl (Nat.le_of_ble_eq_true rfl) rfl (by omega) rfl ?_
  refine kL11 (by omega) hw.1 hn hw.2.2.2.1 ?_
  intro K1 I1 R1 hK1 hO1 hW1 ho1
  obtain ⟨hMK1, hmv1, hKO1, hK01, hx1⟩ := WL_1 (σ' := σ) hw hK1 hO1
  have hle := Fz11_le (σ := σ) (tw := xs (i + 1)) (w := xs (i + 2)) (sl := xs (i + 3))
  refine aft_v ?_
  refine mw_istore i_157_539 (ls' := [some (pR (some SC0)), some (pR (some RING)), some (pR (some MO)), some (pR (some OUT)), some (pI (nI i)), some (pI (nI (Fz11 σ (xs (i + 1)) (xs (i + 2)) (xs (i + 3))).1)), u6]) rfl (Nat.le_of_ble_eq_true rfl) ?_
  refine mw_aload i_157_540 (L := MO) rfl ?_
  refine mw_aload i_157_541 (L := SC0) rfl ?_
  refine mw_iload i_157_542 (x := nI i) rfl ?_
  refine mw_const i_157_543 (v := nI 1) (by decide) ?_
  refine mw_iadd i_157_544 (w := nI (i + 1)) (nI_add _ _) ?_
  refine mw_iald i_157_545 (jn := i + 1) (n := L) (by omega) (by omega) hK01 (by decide) (v := xs (i + 1)) (congrFun hx1 _) ?_
  refine mw_aload i_157_546 (L := SC0) rfl ?_
  refine mw_iload i_157_547 (x := nI i) rfl ?_
  refine mw_const i_157_548 (v := nI 2) (by decide) ?_
  refine mw_iadd i_157_549 (w := nI (i + 2)) (nI_add _ _) ?_
  refine mw_iald i_157_550 (jn := i + 2) (n := L) (by omega) (by omega) hK01 (by decide) (v := xs (i + 2)) (congrFun hx1 _) ?_
  refine mw_aload i_157_551 (L := SC0) rfl ?_
  refine mw_iload i_157_552 (x := nI i) rfl ?_
  refine mw_const i_157_553 (v := nI 3) (by decide) ?_
  refine mw_iadd i_157_554 (w := nI (i + 3)) (nI_add _ _) ?_
  refine mw_iald i_157_555 (jn := i + 3) (n := L) (by omega) (by omega) hK01 (by decide) (v := xs (i + 3)) (congrFun hx1 _) ?_
  refine mw_callV i_157_556 mf_114 (as := [pI (xs (i + 1)), pI (xs (i + 2)), pI (xs (i + 3))]) (rest := []) (d' := d9) (b' := b + 54) (ls0 := [some (pR (some MO)), some (pI (xs (i + 1))), some (pI (xs (i + 2))), some (pI (xs (i + 3))), none, none]) rfl rfl rfl (Nat.le_of_ble_eq_true rfl) hMK1.1 rfl rfl rfl ?_
  refine mF11 (by omega) hMK1 hmv1 hw.1.2.2 hn ?_
  intro I2 hF2 h28 hm2 v2 hv2
  refine aft_v ?_
  refine mw_istore i_157_557 (ls' := [some (pR (some SC0)), some (pR (some RING)), some (pR (some MO)), some (pR (some OUT)), some (pI (nI i)), some (pI (nI (Fz11 σ (xs (i + 1)) (xs (i + 2)) (xs (i + 3))).1)), some (pI v2)]) rfl (Nat.le_of_ble_eq_true rfl) ?_
  refine mw_aload i_157_558 (L := MO) rfl ?_
  refine mw_callV i_157_559 mf_74 (as := []) (rest := []) (d' := d9) (b' := b + 54) (ls0 := [some (pR (some MO))]) rfl rfl rfl (Nat.le_of_ble_eq_true rfl) hMK1.1 rfl rfl rfl ?_
  refine m_thrown hMK1 ?_
  rw [h28]
  refine aft_v ?_
  refine mw_iload i_157_560 (x := nI (Fz11 σ (xs (i + 1)) (xs (i + 2)) (xs (i + 3))).1) rfl ?_
  refine mw_ic i_157_561 (p := (nI (Fz11 σ (xs (i + 1)) (xs (i + 2)) (xs (i + 3))).1) = (nI (Fz11 σ (xs (i + 1)) (xs (i + 2)) (xs (i + 3))).1)) Iff.rfl (fun c1 => ?_) (fun c1 => ?_)
  · skip
    refine mw_iload i_157_564 (x := nI (Fz11 σ (xs (i + 1)) (xs (i + 2)) (xs (i + 3))).1) rfl ?_
    refine mw_if i_157_565 (p := ¬ (nI (Fz11 σ (xs (i + 1)) (xs (i + 2)) (xs (i + 3))).1) = nI 0) Iff.rfl (fun c2 => ?_) (fun c2 => ?_)
    · skip
      refine mw_goto i_157_575 ?_
      exact q _ K1 I2 R1 _ _ _ (by omega) (WL_2 hW1 hMK1 hKO1 hK01 hx1 hF2 hm2)
    · skip
      have h0 : (Fz11 σ (xs (i + 1)) (xs (i + 2)) (xs (i + 3))).1 = 0 := nI_inj (Classical.not_not.mp c2) (by omega) (by omega)
      refine mw_aload i_157_566 (L := OUT) rfl ?_
      refine mw_const i_157_567 (v := nI 0) (by decide) ?_
      refine mw_lald i_157_568 (jn := 0) (n := 1) (by omega) (by omega) hKO1 (v := (Fz11 σ (xs (i + 1)) (xs (i + 2)) (xs (i + 3))).2.1) (by rw [hF2 OUT (by decide) (by decide)]; exact ho1 h0) ?_
      refine mw_iload i_157_569 (x := v2) rfl ?_
      refine mw_i2l i_157_570 ?_
      refine mw_lcmp i_157_571 (u := (Fz11 σ (xs (i + 1)) (xs (i + 2)) (xs (i + 3))).2.1) (v := v2) (fun zx3 hzx3 => ?_)
      refine mw_if i_157_572 (p := zx3 = nI 0) Iff.rfl (fun c4 => ?_) (fun c4 => ?_)
      · skip
        refine mw_goto i_157_575 ?_
        exact q _ K1 I2 R1 _ _ _ (by omega) (WL_2 hW1 hMK1 hKO1 hK01 hx1 hF2 hm2)
      · skip
        exact absurd (hzx3.mpr (hv2 h0).symm) c4
  · skip
    exact absurd rfl c1
set_option maxRecDepth 20000 in
set_option maxHeartbeats 400000 in
theorem law_12 {d b : Nat} {K : KM} {I : IM} {R : RM} {Q : QT} {n i L : Nat} {σ : ST} {xs : Nat → Int32} {u5 u6 : Option PV} (hd : 20 ≤ d) (hn : n < 512) (hi8 : i + 8 ≤ L) (hL : L ≤ 4096) (hw : WL n σ xs L K I R)  (q : ∀ b' K' I' R' σ' u5 u6, b ≤ b' → WL (n + 1) σ' xs L K' I' R' → Mw d b' N_L_law 1116 [some (pR (some SC0)), some (pR (some RING)), some (pR (some MO)), some (pR (some OUT)), some (pI (nI i)), u5, u6] [] K' I' R' Q) : Mw d (b + 61) N_L_law 576 [some (pR (some SC0)), some (pR (some RING)), some (pR (some MO)), some (pR (some OUT)), some (pI (nI i)), u5, u6] [] K I R Q := by
  obtain ⟨d9, rfl⟩ : ∃ d9, d = d9 + 1 := ⟨d - 1, by omega⟩
  have hK0 := hw.2.2.2.2.1
  have hx0 := hw.2.2.2.2.2
  refine mw_aload i_157_576 (L := RING) rfl ?_
  refine mw_aload i_157_577 (L := OUT) rfl ?_
  refine mw_callS i_157_578 mf_144 (as := [pR (some RING), pR (some OUT)]) (rest := []) (d' := d9) (b' := b + 54) (ls0 := [some (pR (some RING)), some (pR (some OUT)), none]) rfl rfl rfl (Nat.le_of_ble_eq_true rfl) rfl (by omega) rfl ?_
  refine kL12 (by omega) hw.1 hn hw.2.2.2.1 ?_
  intro K1 I1 R1 hK1 hO1 hW1 ho1
  obtain ⟨hMK1, hmv1, hKO1, hK01, hx1⟩ := WL_1 (σ' := σ) hw hK1 hO1
  have hle := Fz12_le (σ := σ)
  refine aft_v ?_
  refine mw_istore i_157_579 (ls' := [some (pR (some SC0)), some (pR (some RING)), some (pR (some MO)), some (pR (some OUT)), some (pI (nI i)), some (pI (nI (Fz12 σ).1)), u6]) rfl (Nat.le_of_ble_eq_true rfl) ?_
  refine mw_aload i_157_580 (L := MO) rfl ?_
  refine mw_callV i_157_581 mf_115 (as := []) (rest := []) (d' := d9) (b' := b + 54) (ls0 := [some (pR (some MO)), none]) rfl rfl rfl (Nat.le_of_ble_eq_true rfl) hMK1.1 rfl rfl rfl ?_
  refine mF12 (by omega) hMK1 hmv1 hw.1.2.2 hn ?_
  intro I2 hF2 h28 hm2 v2 hv2
  refine aft_v ?_
  refine mw_istore i_157_582 (ls' := [some (pR (some SC0)), some (pR (some RING)), some (pR (some MO)), some (pR (some OUT)), some (pI (nI i)), some (pI (nI (Fz12 σ).1)), some (pI v2)]) rfl (Nat.le_of_ble_eq_true rfl) ?_
  refine mw_aload i_157_583 (L := MO) rfl ?_
  refine mw_callV i_157_584 mf_74 (as := []) (rest := []) (d' := d9) (b' := b + 54) (ls0 := [some (pR (some MO))]) rfl rfl rfl (Nat.le_of_ble_eq_true rfl) hMK1.1 rfl rfl rfl ?_
  refine m_thrown hMK1 ?_
  rw [h28]
  refine aft_v ?_
  refine mw_iload i_157_585 (x := nI (Fz12 σ).1) rfl ?_
  refine mw_ic i_157_586 (p := (nI (Fz12 σ).1) = (nI (Fz12 σ).1)) Iff.rfl (fun c1 => ?_) (fun c1 => ?_)
  · skip
    refine mw_iload i_157_589 (x := nI (Fz12 σ).1) rfl ?_
    refine mw_if i_157_590 (p := ¬ (nI (Fz12 σ).1) = nI 0) Iff.rfl (fun c2 => ?_) (fun c2 => ?_)
    · skip
      refine mw_goto i_157_600 ?_
      exact q _ K1 I2 R1 _ _ _ (by omega) (WL_2 hW1 hMK1 hKO1 hK01 hx1 hF2 hm2)
    · skip
      have h0 : (Fz12 σ).1 = 0 := nI_inj (Classical.not_not.mp c2) (by omega) (by omega)
      refine mw_aload i_157_591 (L := OUT) rfl ?_
      refine mw_const i_157_592 (v := nI 0) (by decide) ?_
      refine mw_lald i_157_593 (jn := 0) (n := 1) (by omega) (by omega) hKO1 (v := (Fz12 σ).2.1) (by rw [hF2 OUT (by decide) (by decide)]; exact ho1 h0) ?_
      refine mw_iload i_157_594 (x := v2) rfl ?_
      refine mw_i2l i_157_595 ?_
      refine mw_lcmp i_157_596 (u := (Fz12 σ).2.1) (v := v2) (fun zx3 hzx3 => ?_)
      refine mw_if i_157_597 (p := zx3 = nI 0) Iff.rfl (fun c4 => ?_) (fun c4 => ?_)
      · skip
        refine mw_goto i_157_600 ?_
        exact q _ K1 I2 R1 _ _ _ (by omega) (WL_2 hW1 hMK1 hKO1 hK01 hx1 hF2 hm2)
      · skip
        exact absurd (hzx3.mpr (hv2 h0).symm) c4
  · skip
    exact absurd rfl c1
set_option maxRecDepth 20000 in
set_option maxHeartbeats 400000 in
theorem law_14 {d b : Nat} {K : KM} {I : IM} {R : RM} {Q : QT} {n i L : Nat} {σ : ST} {xs : Nat → Int32} {u5 u6 : Option PV} (hd : 20 ≤ d) (hn : n < 512) (hi8 : i + 8 ≤ L) (hL : L ≤ 4096) (hw : WL n σ xs L K I R)  (q : ∀ b' K' I' R' σ' u5 u6, b ≤ b' → WL (n + 1) σ' xs L K' I' R' → Mw d b' N_L_law 1116 [some (pR (some SC0)), some (pR (some RING)), some (pR (some MO)), some (pR (some OUT)), some (pI (nI i)), u5, u6] [] K' I' R' Q) : Mw d (b + 61) N_L_law 608 [some (pR (some SC0)), some (pR (some RING)), some (pR (some MO)), some (pR (some OUT)), some (pI (nI i)), u5, u6] [] K I R Q := by
  obtain ⟨d9, rfl⟩ : ∃ d9, d = d9 + 1 := ⟨d - 1, by omega⟩
  have hK0 := hw.2.2.2.2.1
  have hx0 := hw.2.2.2.2.2
  refine mw_aload i_157_608 (L := RING) rfl ?_
  refine mw_aload i_157_609 (L := SC0) rfl ?_
  refine mw_iload i_157_610 (x := nI i) rfl ?_
  refine mw_const i_157_611 (v := nI 1) (by decide) ?_
  refine mw_iadd i_157_612 (w := nI (i + 1)) (nI_add _ _) ?_
  refine mw_iald i_157_613 (jn := i + 1) (n := L) (by omega) (by omega) hK0 (by decide) (v := xs (i + 1)) (congrFun hx0 _) ?_
  refine mw_aload i_157_614 (L := SC0) rfl ?_
  refine mw_iload i_157_615 (x := nI i) rfl ?_
  refine mw_const i_157_616 (v := nI 2) (by decide) ?_
  refine mw_iadd i_157_617 (w := nI (i + 2)) (nI_add _ _) ?_
  refine mw_iald i_157_618 (jn := i + 2) (n := L) (by omega) (by omega) hK0 (by decide) (v := xs (i + 2)) (congrFun hx0 _) ?_
  refine mw_aload i_157_619 (L := OUT) rfl ?_
  refine mw_callS i_157_620 mf_145 (as := [pR (some RING), pI (xs (i + 1)), pI (xs (i + 2)), pR (some OUT)]) (rest := []) (d' := d9) (b' := b + 54) (ls0 := [some (pR (some RING)), some (pI (xs (i + 1))), some (pI (xs (i + 2))), some (pR (some OUT)), none]) rfl rfl rfl (Nat.le_of_ble_eq_true rfl) rfl (by omega) rfl ?_
  refine kL14 (by omega) hw.1 hn hw.2.2.2.1 ?_
  intro K1 I1 R1 hK1 hO1 hW1 ho1
  obtain ⟨hMK1, hmv1, hKO1, hK01, hx1⟩ := WL_1 (σ' := σ) hw hK1 hO1
  have hle := Fz14_le (σ := σ) (w := xs (i + 1)) (what := xs (i + 2))
  refine aft_v ?_
  refine mw_istore i_157_621 (ls' := [some (pR (some SC0)), some (pR (some RING)), some (pR (some MO)), some (pR (some OUT)), some (pI (nI i)), some (pI (nI (Fz14 σ (xs (i + 1)) (xs (i + 2))).1)), u6]) rfl (Nat.le_of_ble_eq_true rfl) ?_
  refine mw_aload i_157_622 (L := MO) rfl ?_
  refine mw_aload i_157_623 (L := SC0) rfl ?_
  refine mw_iload i_157_624 (x := nI i) rfl ?_
  refine mw_const i_157_625 (v := nI 1) (by decide) ?_
  refine mw_iadd i_157_626 (w := nI (i + 1)) (nI_add _ _) ?_
  refine mw_iald i_157_627 (jn := i + 1) (n := L) (by omega) (by omega) hK01 (by decide) (v := xs (i + 1)) (congrFun hx1 _) ?_
  refine mw_aload i_157_628 (L := SC0) rfl ?_
  refine mw_iload i_157_629 (x := nI i) rfl ?_
  refine mw_const i_157_630 (v := nI 2) (by decide) ?_
  refine mw_iadd i_157_631 (w := nI (i + 2)) (nI_add _ _) ?_
  refine mw_iald i_157_632 (jn := i + 2) (n := L) (by omega) (by omega) hK01 (by decide) (v := xs (i + 2)) (congrFun hx1 _) ?_
  refine mw_callV i_157_633 mf_118 (as := [pI (xs (i + 1)), pI (xs (i + 2))]) (rest := []) (d' := d9) (b' := b + 54) (ls0 := [some (pR (some MO)), some (pI (xs (i + 1))), some (pI (xs (i + 2)))]) rfl rfl rfl (Nat.le_of_ble_eq_true rfl) hMK1.1 rfl rfl rfl ?_
  refine mF14 (by omega) hMK1 hmv1 hw.1.2.2 hn ?_
  intro I2 hF2 h28 hm2 v2 hv2
  refine aft_v ?_
  refine mw_istore i_157_634 (ls' := [some (pR (some SC0)), some (pR (some RING)), some (pR (some MO)), some (pR (some OUT)), some (pI (nI i)), some (pI (nI (Fz14 σ (xs (i + 1)) (xs (i + 2))).1)), some (pI v2)]) rfl (Nat.le_of_ble_eq_true rfl) ?_
  refine mw_aload i_157_635 (L := MO) rfl ?_
  refine mw_callV i_157_636 mf_74 (as := []) (rest := []) (d' := d9) (b' := b + 54) (ls0 := [some (pR (some MO))]) rfl rfl rfl (Nat.le_of_ble_eq_true rfl) hMK1.1 rfl rfl rfl ?_
  refine m_thrown hMK1 ?_
  rw [h28]
  refine aft_v ?_
  refine mw_iload i_157_637 (x := nI (Fz14 σ (xs (i + 1)) (xs (i + 2))).1) rfl ?_
  refine mw_ic i_157_638 (p := (nI (Fz14 σ (xs (i + 1)) (xs (i + 2))).1) = (nI (Fz14 σ (xs (i + 1)) (xs (i + 2))).1)) Iff.rfl (fun c1 => ?_) (fun c1 => ?_)
  · skip
    refine mw_iload i_157_641 (x := nI (Fz14 σ (xs (i + 1)) (xs (i + 2))).1) rfl ?_
    refine mw_if i_157_642 (p := ¬ (nI (Fz14 σ (xs (i + 1)) (xs (i + 2))).1) = nI 0) Iff.rfl (fun c2 => ?_) (fun c2 => ?_)
    · skip
      refine mw_goto i_157_652 ?_
      exact q _ K1 I2 R1 _ _ _ (by omega) (WL_2 hW1 hMK1 hKO1 hK01 hx1 hF2 hm2)
    · skip
      have h0 : (Fz14 σ (xs (i + 1)) (xs (i + 2))).1 = 0 := nI_inj (Classical.not_not.mp c2) (by omega) (by omega)
      refine mw_aload i_157_643 (L := OUT) rfl ?_
      refine mw_const i_157_644 (v := nI 0) (by decide) ?_
      refine mw_lald i_157_645 (jn := 0) (n := 1) (by omega) (by omega) hKO1 (v := (Fz14 σ (xs (i + 1)) (xs (i + 2))).2.1) (by rw [hF2 OUT (by decide) (by decide)]; exact ho1 h0) ?_
      refine mw_iload i_157_646 (x := v2) rfl ?_
      refine mw_i2l i_157_647 ?_
      refine mw_lcmp i_157_648 (u := (Fz14 σ (xs (i + 1)) (xs (i + 2))).2.1) (v := v2) (fun zx3 hzx3 => ?_)
      refine mw_if i_157_649 (p := zx3 = nI 0) Iff.rfl (fun c4 => ?_) (fun c4 => ?_)
      · skip
        refine mw_goto i_157_652 ?_
        exact q _ K1 I2 R1 _ _ _ (by omega) (WL_2 hW1 hMK1 hKO1 hK01 hx1 hF2 hm2)
      · skip
        exact absurd (hzx3.mpr (hv2 h0).symm) c4
  · skip
    exact absurd rfl c1
set_option maxRecDepth 20000 in
set_option maxHeartbeats 400000 in
theorem law_15 {d b : Nat} {K : KM} {I : IM} {R : RM} {Q : QT} {n i L : Nat} {σ : ST} {xs : Nat → Int32} {u5 u6 : Option PV} (hd : 20 ≤ d) (hn : n < 512) (hi8 : i + 8 ≤ L) (hL : L ≤ 4096) (hw : WL n σ xs L K I R)  (q : ∀ b' K' I' R' σ' u5 u6, b ≤ b' → WL (n + 1) σ' xs L K' I' R' → Mw d b' N_L_law 1116 [some (pR (some SC0)), some (pR (some RING)), some (pR (some MO)), some (pR (some OUT)), some (pI (nI i)), u5, u6] [] K' I' R' Q) : Mw d (b + 61) N_L_law 653 [some (pR (some SC0)), some (pR (some RING)), some (pR (some MO)), some (pR (some OUT)), some (pI (nI i)), u5, u6] [] K I R Q := by
  obtain ⟨d9, rfl⟩ : ∃ d9, d = d9 + 1 := ⟨d - 1, by omega⟩
  have hK0 := hw.2.2.2.2.1
  have hx0 := hw.2.2.2.2.2
  refine mw_aload i_157_653 (L := RING) rfl ?_
  refine mw_aload i_157_654 (L := SC0) rfl ?_
  refine mw_iload i_157_655 (x := nI i) rfl ?_
  refine mw_const i_157_656 (v := nI 1) (by decide) ?_
  refine mw_iadd i_157_657 (w := nI (i + 1)) (nI_add _ _) ?_
  refine mw_iald i_157_658 (jn := i + 1) (n := L) (by omega) (by omega) hK0 (by decide) (v := xs (i + 1)) (congrFun hx0 _) ?_
  refine mw_aload i_157_659 (L := SC0) rfl ?_
  refine mw_iload i_157_660 (x := nI i) rfl ?_
  refine mw_const i_157_661 (v := nI 2) (by decide) ?_
  refine mw_iadd i_157_662 (w := nI (i + 2)) (nI_add _ _) ?_
  refine mw_iald i_157_663 (jn := i + 2) (n := L) (by omega) (by omega) hK0 (by decide) (v := xs (i + 2)) (congrFun hx0 _) ?_
  refine mw_aload i_157_664 (L := OUT) rfl ?_
  refine mw_callS i_157_665 mf_146 (as := [pR (some RING), pI (xs (i + 1)), pI (xs (i + 2)), pR (some OUT)]) (rest := []) (d' := d9) (b' := b + 54) (ls0 := [some (pR (some RING)), some (pI (xs (i + 1))), some (pI (xs (i + 2))), some (pR (some OUT)), none]) rfl rfl rfl (Nat.le_of_ble_eq_true rfl) rfl (by omega) rfl ?_
  refine kL15 (by omega) hw.1 hn hw.2.2.2.1 ?_
  intro K1 I1 R1 hK1 hO1 hW1 ho1
  obtain ⟨hMK1, hmv1, hKO1, hK01, hx1⟩ := WL_1 (σ' := σ) hw hK1 hO1
  have hle := Fz15_le (σ := σ) (tw := xs (i + 1)) (w := xs (i + 2))
  refine aft_v ?_
  refine mw_istore i_157_666 (ls' := [some (pR (some SC0)), some (pR (some RING)), some (pR (some MO)), some (pR (some OUT)), some (pI (nI i)), some (pI (nI (Fz15 σ (xs (i + 1)) (xs (i + 2))).1)), u6]) rfl (Nat.le_of_ble_eq_true rfl) ?_
  refine mw_aload i_157_667 (L := MO) rfl ?_
  refine mw_aload i_157_668 (L := SC0) rfl ?_
  refine mw_iload i_157_669 (x := nI i) rfl ?_
  refine mw_const i_157_670 (v := nI 1) (by decide) ?_
  refine mw_iadd i_157_671 (w := nI (i + 1)) (nI_add _ _) ?_
  refine mw_iald i_157_672 (jn := i + 1) (n := L) (by omega) (by omega) hK01 (by decide) (v := xs (i + 1)) (congrFun hx1 _) ?_
  refine mw_aload i_157_673 (L := SC0) rfl ?_
  refine mw_iload i_157_674 (x := nI i) rfl ?_
  refine mw_const i_157_675 (v := nI 2) (by decide) ?_
  refine mw_iadd i_157_676 (w := nI (i + 2)) (nI_add _ _) ?_
  refine mw_iald i_157_677 (jn := i + 2) (n := L) (by omega) (by omega) hK01 (by decide) (v := xs (i + 2)) (congrFun hx1 _) ?_
  refine mw_callV i_157_678 mf_119 (as := [pI (xs (i + 1)), pI (xs (i + 2))]) (rest := []) (d' := d9) (b' := b + 54) (ls0 := [some (pR (some MO)), some (pI (xs (i + 1))), some (pI (xs (i + 2)))]) rfl rfl rfl (Nat.le_of_ble_eq_true rfl) hMK1.1 rfl rfl rfl ?_
  refine mF15 (by omega) hMK1 hmv1 hw.1.2.2 hn ?_
  intro I2 hF2 h28 hm2 v2 hv2
  refine aft_v ?_
  refine mw_istore i_157_679 (ls' := [some (pR (some SC0)), some (pR (some RING)), some (pR (some MO)), some (pR (some OUT)), some (pI (nI i)), some (pI (nI (Fz15 σ (xs (i + 1)) (xs (i + 2))).1)), some (pI v2)]) rfl (Nat.le_of_ble_eq_true rfl) ?_
  refine mw_aload i_157_680 (L := MO) rfl ?_
  refine mw_callV i_157_681 mf_74 (as := []) (rest := []) (d' := d9) (b' := b + 54) (ls0 := [some (pR (some MO))]) rfl rfl rfl (Nat.le_of_ble_eq_true rfl) hMK1.1 rfl rfl rfl ?_
  refine m_thrown hMK1 ?_
  rw [h28]
  refine aft_v ?_
  refine mw_iload i_157_682 (x := nI (Fz15 σ (xs (i + 1)) (xs (i + 2))).1) rfl ?_
  refine mw_ic i_157_683 (p := (nI (Fz15 σ (xs (i + 1)) (xs (i + 2))).1) = (nI (Fz15 σ (xs (i + 1)) (xs (i + 2))).1)) Iff.rfl (fun c1 => ?_) (fun c1 => ?_)
  · skip
    refine mw_iload i_157_686 (x := nI (Fz15 σ (xs (i + 1)) (xs (i + 2))).1) rfl ?_
    refine mw_if i_157_687 (p := ¬ (nI (Fz15 σ (xs (i + 1)) (xs (i + 2))).1) = nI 0) Iff.rfl (fun c2 => ?_) (fun c2 => ?_)
    · skip
      refine mw_goto i_157_697 ?_
      exact q _ K1 I2 R1 _ _ _ (by omega) (WL_2 hW1 hMK1 hKO1 hK01 hx1 hF2 hm2)
    · skip
      have h0 : (Fz15 σ (xs (i + 1)) (xs (i + 2))).1 = 0 := nI_inj (Classical.not_not.mp c2) (by omega) (by omega)
      refine mw_aload i_157_688 (L := OUT) rfl ?_
      refine mw_const i_157_689 (v := nI 0) (by decide) ?_
      refine mw_lald i_157_690 (jn := 0) (n := 1) (by omega) (by omega) hKO1 (v := (Fz15 σ (xs (i + 1)) (xs (i + 2))).2.1) (by rw [hF2 OUT (by decide) (by decide)]; exact ho1 h0) ?_
      refine mw_iload i_157_691 (x := v2) rfl ?_
      refine mw_i2l i_157_692 ?_
      refine mw_lcmp i_157_693 (u := (Fz15 σ (xs (i + 1)) (xs (i + 2))).2.1) (v := v2) (fun zx3 hzx3 => ?_)
      refine mw_if i_157_694 (p := zx3 = nI 0) Iff.rfl (fun c4 => ?_) (fun c4 => ?_)
      · skip
        refine mw_goto i_157_697 ?_
        exact q _ K1 I2 R1 _ _ _ (by omega) (WL_2 hW1 hMK1 hKO1 hK01 hx1 hF2 hm2)
      · skip
        exact absurd (hzx3.mpr (hv2 h0).symm) c4
  · skip
    exact absurd rfl c1
set_option maxRecDepth 20000 in
set_option maxHeartbeats 400000 in
theorem law_16 {d b : Nat} {K : KM} {I : IM} {R : RM} {Q : QT} {n i L : Nat} {σ : ST} {xs : Nat → Int32} {u5 u6 : Option PV} (hd : 20 ≤ d) (hn : n < 512) (hi8 : i + 8 ≤ L) (hL : L ≤ 4096) (hw : WL n σ xs L K I R)  (q : ∀ b' K' I' R' σ' u5 u6, b ≤ b' → WL (n + 1) σ' xs L K' I' R' → Mw d b' N_L_law 1116 [some (pR (some SC0)), some (pR (some RING)), some (pR (some MO)), some (pR (some OUT)), some (pI (nI i)), u5, u6] [] K' I' R' Q) : Mw d (b + 61) N_L_law 698 [some (pR (some SC0)), some (pR (some RING)), some (pR (some MO)), some (pR (some OUT)), some (pI (nI i)), u5, u6] [] K I R Q := by
  obtain ⟨d9, rfl⟩ : ∃ d9, d = d9 + 1 := ⟨d - 1, by omega⟩
  have hK0 := hw.2.2.2.2.1
  have hx0 := hw.2.2.2.2.2
  refine mw_aload i_157_698 (L := RING) rfl ?_
  refine mw_aload i_157_699 (L := SC0) rfl ?_
  refine mw_iload i_157_700 (x := nI i) rfl ?_
  refine mw_const i_157_701 (v := nI 1) (by decide) ?_
  refine mw_iadd i_157_702 (w := nI (i + 1)) (nI_add _ _) ?_
  refine mw_iald i_157_703 (jn := i + 1) (n := L) (by omega) (by omega) hK0 (by decide) (v := xs (i + 1)) (congrFun hx0 _) ?_
  refine mw_aload i_157_704 (L := SC0) rfl ?_
  refine mw_iload i_157_705 (x := nI i) rfl ?_
  refine mw_const i_157_706 (v := nI 2) (by decide) ?_
  refine mw_iadd i_157_707 (w := nI (i + 2)) (nI_add _ _) ?_
  refine mw_iald i_157_708 (jn := i + 2) (n := L) (by omega) (by omega) hK0 (by decide) (v := xs (i + 2)) (congrFun hx0 _) ?_
  refine mw_aload i_157_709 (L := OUT) rfl ?_
  refine mw_callS i_157_710 mf_147 (as := [pR (some RING), pI (xs (i + 1)), pI (xs (i + 2)), pR (some OUT)]) (rest := []) (d' := d9) (b' := b + 54) (ls0 := [some (pR (some RING)), some (pI (xs (i + 1))), some (pI (xs (i + 2))), some (pR (some OUT)), none]) rfl rfl rfl (Nat.le_of_ble_eq_true rfl) rfl (by omega) rfl ?_
  refine kL16 (by omega) hw.1 hn hw.2.2.2.1 ?_
  intro K1 I1 R1 hK1 hO1 hW1 ho1
  obtain ⟨hMK1, hmv1, hKO1, hK01, hx1⟩ := WL_1 (σ' := σ) hw hK1 hO1
  have hle := Fz16_le (σ := σ) (tw := xs (i + 1)) (w := xs (i + 2))
  refine aft_v ?_
  refine mw_istore i_157_711 (ls' := [some (pR (some SC0)), some (pR (some RING)), some (pR (some MO)), some (pR (some OUT)), some (pI (nI i)), some (pI (nI (Fz16 σ (xs (i + 1)) (xs (i + 2))).1)), u6]) rfl (Nat.le_of_ble_eq_true rfl) ?_
  refine mw_aload i_157_712 (L := MO) rfl ?_
  refine mw_aload i_157_713 (L := SC0) rfl ?_
  refine mw_iload i_157_714 (x := nI i) rfl ?_
  refine mw_const i_157_715 (v := nI 1) (by decide) ?_
  refine mw_iadd i_157_716 (w := nI (i + 1)) (nI_add _ _) ?_
  refine mw_iald i_157_717 (jn := i + 1) (n := L) (by omega) (by omega) hK01 (by decide) (v := xs (i + 1)) (congrFun hx1 _) ?_
  refine mw_aload i_157_718 (L := SC0) rfl ?_
  refine mw_iload i_157_719 (x := nI i) rfl ?_
  refine mw_const i_157_720 (v := nI 2) (by decide) ?_
  refine mw_iadd i_157_721 (w := nI (i + 2)) (nI_add _ _) ?_
  refine mw_iald i_157_722 (jn := i + 2) (n := L) (by omega) (by omega) hK01 (by decide) (v := xs (i + 2)) (congrFun hx1 _) ?_
  refine mw_callV i_157_723 mf_120 (as := [pI (xs (i + 1)), pI (xs (i + 2))]) (rest := []) (d' := d9) (b' := b + 54) (ls0 := [some (pR (some MO)), some (pI (xs (i + 1))), some (pI (xs (i + 2)))]) rfl rfl rfl (Nat.le_of_ble_eq_true rfl) hMK1.1 rfl rfl rfl ?_
  refine mF16 (by omega) hMK1 hmv1 hw.1.2.2 hn ?_
  intro I2 hF2 h28 hm2 v2 hv2
  refine aft_v ?_
  refine mw_istore i_157_724 (ls' := [some (pR (some SC0)), some (pR (some RING)), some (pR (some MO)), some (pR (some OUT)), some (pI (nI i)), some (pI (nI (Fz16 σ (xs (i + 1)) (xs (i + 2))).1)), some (pI v2)]) rfl (Nat.le_of_ble_eq_true rfl) ?_
  refine mw_aload i_157_725 (L := MO) rfl ?_
  refine mw_callV i_157_726 mf_74 (as := []) (rest := []) (d' := d9) (b' := b + 54) (ls0 := [some (pR (some MO))]) rfl rfl rfl (Nat.le_of_ble_eq_true rfl) hMK1.1 rfl rfl rfl ?_
  refine m_thrown hMK1 ?_
  rw [h28]
  refine aft_v ?_
  refine mw_iload i_157_727 (x := nI (Fz16 σ (xs (i + 1)) (xs (i + 2))).1) rfl ?_
  refine mw_ic i_157_728 (p := (nI (Fz16 σ (xs (i + 1)) (xs (i + 2))).1) = (nI (Fz16 σ (xs (i + 1)) (xs (i + 2))).1)) Iff.rfl (fun c1 => ?_) (fun c1 => ?_)
  · skip
    refine mw_iload i_157_731 (x := nI (Fz16 σ (xs (i + 1)) (xs (i + 2))).1) rfl ?_
    refine mw_if i_157_732 (p := ¬ (nI (Fz16 σ (xs (i + 1)) (xs (i + 2))).1) = nI 0) Iff.rfl (fun c2 => ?_) (fun c2 => ?_)
    · skip
      refine mw_goto i_157_742 ?_
      exact q _ K1 I2 R1 _ _ _ (by omega) (WL_2 hW1 hMK1 hKO1 hK01 hx1 hF2 hm2)
    · skip
      have h0 : (Fz16 σ (xs (i + 1)) (xs (i + 2))).1 = 0 := nI_inj (Classical.not_not.mp c2) (by omega) (by omega)
      refine mw_aload i_157_733 (L := OUT) rfl ?_
      refine mw_const i_157_734 (v := nI 0) (by decide) ?_
      refine mw_lald i_157_735 (jn := 0) (n := 1) (by omega) (by omega) hKO1 (v := (Fz16 σ (xs (i + 1)) (xs (i + 2))).2.1) (by rw [hF2 OUT (by decide) (by decide)]; exact ho1 h0) ?_
      refine mw_iload i_157_736 (x := v2) rfl ?_
      refine mw_i2l i_157_737 ?_
      refine mw_lcmp i_157_738 (u := (Fz16 σ (xs (i + 1)) (xs (i + 2))).2.1) (v := v2) (fun zx3 hzx3 => ?_)
      refine mw_if i_157_739 (p := zx3 = nI 0) Iff.rfl (fun c4 => ?_) (fun c4 => ?_)
      · skip
        refine mw_goto i_157_742 ?_
        exact q _ K1 I2 R1 _ _ _ (by omega) (WL_2 hW1 hMK1 hKO1 hK01 hx1 hF2 hm2)
      · skip
        exact absurd (hzx3.mpr (hv2 h0).symm) c4
  · skip
    exact absurd rfl c1
set_option maxRecDepth 20000 in
set_option maxHeartbeats 400000 in
theorem law_17 {d b : Nat} {K : KM} {I : IM} {R : RM} {Q : QT} {n i L : Nat} {σ : ST} {xs : Nat → Int32} {u5 u6 : Option PV} (hd : 20 ≤ d) (hn : n < 512) (hi8 : i + 8 ≤ L) (hL : L ≤ 4096) (hw : WL n σ xs L K I R)  (q : ∀ b' K' I' R' σ' u5 u6, b ≤ b' → WL (n + 1) σ' xs L K' I' R' → Mw d b' N_L_law 1116 [some (pR (some SC0)), some (pR (some RING)), some (pR (some MO)), some (pR (some OUT)), some (pI (nI i)), u5, u6] [] K' I' R' Q) : Mw d (b + 61) N_L_law 743 [some (pR (some SC0)), some (pR (some RING)), some (pR (some MO)), some (pR (some OUT)), some (pI (nI i)), u5, u6] [] K I R Q := by
  obtain ⟨d9, rfl⟩ : ∃ d9, d = d9 + 1 := ⟨d - 1, by omega⟩
  have hK0 := hw.2.2.2.2.1
  have hx0 := hw.2.2.2.2.2
  refine mw_aload i_157_743 (L := RING) rfl ?_
  refine mw_aload i_157_744 (L := SC0) rfl ?_
  refine mw_iload i_157_745 (x := nI i) rfl ?_
  refine mw_const i_157_746 (v := nI 1) (by decide) ?_
  refine mw_iadd i_157_747 (w := nI (i + 1)) (nI_add _ _) ?_
  refine mw_iald i_157_748 (jn := i + 1) (n := L) (by omega) (by omega) hK0 (by decide) (v := xs (i + 1)) (congrFun hx0 _) ?_
  refine mw_aload i_157_749 (L := SC0) rfl ?_
  refine mw_iload i_157_750 (x := nI i) rfl ?_
  refine mw_const i_157_751 (v := nI 2) (by decide) ?_
  refine mw_iadd i_157_752 (w := nI (i + 2)) (nI_add _ _) ?_
  refine mw_iald i_157_753 (jn := i + 2) (n := L) (by omega) (by omega) hK0 (by decide) (v := xs (i + 2)) (congrFun hx0 _) ?_
  refine mw_aload i_157_754 (L := OUT) rfl ?_
  refine mw_callS i_157_755 mf_148 (as := [pR (some RING), pI (xs (i + 1)), pI (xs (i + 2)), pR (some OUT)]) (rest := []) (d' := d9) (b' := b + 54) (ls0 := [some (pR (some RING)), some (pI (xs (i + 1))), some (pI (xs (i + 2))), some (pR (some OUT)), none]) rfl rfl rfl (Nat.le_of_ble_eq_true rfl) rfl (by omega) rfl ?_
  refine kL17 (by omega) hw.1 hn hw.2.2.2.1 ?_
  intro K1 I1 R1 hK1 hO1 hW1 ho1
  obtain ⟨hMK1, hmv1, hKO1, hK01, hx1⟩ := WL_1 (σ' := σ) hw hK1 hO1
  have hle := Fz17_le (σ := σ) (its := xs (i + 1)) (what := xs (i + 2))
  refine aft_v ?_
  refine mw_istore i_157_756 (ls' := [some (pR (some SC0)), some (pR (some RING)), some (pR (some MO)), some (pR (some OUT)), some (pI (nI i)), some (pI (nI (Fz17 σ (xs (i + 1)) (xs (i + 2))).1)), u6]) rfl (Nat.le_of_ble_eq_true rfl) ?_
  refine mw_aload i_157_757 (L := MO) rfl ?_
  refine mw_aload i_157_758 (L := SC0) rfl ?_
  refine mw_iload i_157_759 (x := nI i) rfl ?_
  refine mw_const i_157_760 (v := nI 1) (by decide) ?_
  refine mw_iadd i_157_761 (w := nI (i + 1)) (nI_add _ _) ?_
  refine mw_iald i_157_762 (jn := i + 1) (n := L) (by omega) (by omega) hK01 (by decide) (v := xs (i + 1)) (congrFun hx1 _) ?_
  refine mw_aload i_157_763 (L := SC0) rfl ?_
  refine mw_iload i_157_764 (x := nI i) rfl ?_
  refine mw_const i_157_765 (v := nI 2) (by decide) ?_
  refine mw_iadd i_157_766 (w := nI (i + 2)) (nI_add _ _) ?_
  refine mw_iald i_157_767 (jn := i + 2) (n := L) (by omega) (by omega) hK01 (by decide) (v := xs (i + 2)) (congrFun hx1 _) ?_
  refine mw_callV i_157_768 mf_121 (as := [pI (xs (i + 1)), pI (xs (i + 2))]) (rest := []) (d' := d9) (b' := b + 54) (ls0 := [some (pR (some MO)), some (pI (xs (i + 1))), some (pI (xs (i + 2)))]) rfl rfl rfl (Nat.le_of_ble_eq_true rfl) hMK1.1 rfl rfl rfl ?_
  refine mF17 (by omega) hMK1 hmv1 hw.1.2.2 hn ?_
  intro I2 hF2 h28 hm2 v2 hv2
  refine aft_v ?_
  refine mw_istore i_157_769 (ls' := [some (pR (some SC0)), some (pR (some RING)), some (pR (some MO)), some (pR (some OUT)), some (pI (nI i)), some (pI (nI (Fz17 σ (xs (i + 1)) (xs (i + 2))).1)), some (pI v2)]) rfl (Nat.le_of_ble_eq_true rfl) ?_
  refine mw_aload i_157_770 (L := MO) rfl ?_
  refine mw_callV i_157_771 mf_74 (as := []) (rest := []) (d' := d9) (b' := b + 54) (ls0 := [some (pR (some MO))]) rfl rfl rfl (Nat.le_of_ble_eq_true rfl) hMK1.1 rfl rfl rfl ?_
  refine m_thrown hMK1 ?_
  rw [h28]
  refine aft_v ?_
  refine mw_iload i_157_772 (x := nI (Fz17 σ (xs (i + 1)) (xs (i + 2))).1) rfl ?_
  refine mw_ic i_157_773 (p := (nI (Fz17 σ (xs (i + 1)) (xs (i + 2))).1) = (nI (Fz17 σ (xs (i + 1)) (xs (i + 2))).1)) Iff.rfl (fun c1 => ?_) (fun c1 => ?_)
  · skip
    refine mw_iload i_157_776 (x := nI (Fz17 σ (xs (i + 1)) (xs (i + 2))).1) rfl ?_
    refine mw_if i_157_777 (p := ¬ (nI (Fz17 σ (xs (i + 1)) (xs (i + 2))).1) = nI 0) Iff.rfl (fun c2 => ?_) (fun c2 => ?_)
    · skip
      refine mw_goto i_157_787 ?_
      exact q _ K1 I2 R1 _ _ _ (by omega) (WL_2 hW1 hMK1 hKO1 hK01 hx1 hF2 hm2)
    · skip
      have h0 : (Fz17 σ (xs (i + 1)) (xs (i + 2))).1 = 0 := nI_inj (Classical.not_not.mp c2) (by omega) (by omega)
      refine mw_aload i_157_778 (L := OUT) rfl ?_
      refine mw_const i_157_779 (v := nI 0) (by decide) ?_
      refine mw_lald i_157_780 (jn := 0) (n := 1) (by omega) (by omega) hKO1 (v := (Fz17 σ (xs (i + 1)) (xs (i + 2))).2.1) (by rw [hF2 OUT (by decide) (by decide)]; exact ho1 h0) ?_
      refine mw_iload i_157_781 (x := v2) rfl ?_
      refine mw_i2l i_157_782 ?_
      refine mw_lcmp i_157_783 (u := (Fz17 σ (xs (i + 1)) (xs (i + 2))).2.1) (v := v2) (fun zx3 hzx3 => ?_)
      refine mw_if i_157_784 (p := zx3 = nI 0) Iff.rfl (fun c4 => ?_) (fun c4 => ?_)
      · skip
        refine mw_goto i_157_787 ?_
        exact q _ K1 I2 R1 _ _ _ (by omega) (WL_2 hW1 hMK1 hKO1 hK01 hx1 hF2 hm2)
      · skip
        exact absurd (hzx3.mpr (hv2 h0).symm) c4
  · skip
    exact absurd rfl c1
set_option maxRecDepth 20000 in
set_option maxHeartbeats 400000 in
theorem law_18 {d b : Nat} {K : KM} {I : IM} {R : RM} {Q : QT} {n i L : Nat} {σ : ST} {xs : Nat → Int32} {u5 u6 : Option PV} (hd : 20 ≤ d) (hn : n < 512) (hi8 : i + 8 ≤ L) (hL : L ≤ 4096) (hw : WL n σ xs L K I R)  (q : ∀ b' K' I' R' σ' u5 u6, b ≤ b' → WL (n + 1) σ' xs L K' I' R' → Mw d b' N_L_law 1116 [some (pR (some SC0)), some (pR (some RING)), some (pR (some MO)), some (pR (some OUT)), some (pI (nI i)), u5, u6] [] K' I' R' Q) : Mw d (b + 61) N_L_law 788 [some (pR (some SC0)), some (pR (some RING)), some (pR (some MO)), some (pR (some OUT)), some (pI (nI i)), u5, u6] [] K I R Q := by
  obtain ⟨d9, rfl⟩ : ∃ d9, d = d9 + 1 := ⟨d - 1, by omega⟩
  have hK0 := hw.2.2.2.2.1
  have hx0 := hw.2.2.2.2.2
  refine mw_aload i_157_788 (L := RING) rfl ?_
  refine mw_aload i_157_789 (L := SC0) rfl ?_
  refine mw_iload i_157_790 (x := nI i) rfl ?_
  refine mw_const i_157_791 (v := nI 1) (by decide) ?_
  refine mw_iadd i_157_792 (w := nI (i + 1)) (nI_add _ _) ?_
  refine mw_iald i_157_793 (jn := i + 1) (n := L) (by omega) (by omega) hK0 (by decide) (v := xs (i + 1)) (congrFun hx0 _) ?_
  refine mw_aload i_157_794 (L := SC0) rfl ?_
  refine mw_iload i_157_795 (x := nI i) rfl ?_
  refine mw_const i_157_796 (v := nI 2) (by decide) ?_
  refine mw_iadd i_157_797 (w := nI (i + 2)) (nI_add _ _) ?_
  refine mw_iald i_157_798 (jn := i + 2) (n := L) (by omega) (by omega) hK0 (by decide) (v := xs (i + 2)) (congrFun hx0 _) ?_
  refine mw_aload i_157_799 (L := SC0) rfl ?_
  refine mw_iload i_157_800 (x := nI i) rfl ?_
  refine mw_const i_157_801 (v := nI 3) (by decide) ?_
  refine mw_iadd i_157_802 (w := nI (i + 3)) (nI_add _ _) ?_
  refine mw_iald i_157_803 (jn := i + 3) (n := L) (by omega) (by omega) hK0 (by decide) (v := xs (i + 3)) (congrFun hx0 _) ?_
  refine mw_aload i_157_804 (L := OUT) rfl ?_
  refine mw_callS i_157_805 mf_149 (as := [pR (some RING), pI (xs (i + 1)), pI (xs (i + 2)), pI (xs (i + 3)), pR (some OUT)]) (rest := []) (d' := d9) (b' := b + 54) (ls0 := [some (pR (some RING)), some (pI (xs (i + 1))), some (pI (xs (i + 2))), some (pI (xs (i + 3))), some (pR (some OUT)), none]) rfl rfl rfl (Nat.le_of_ble_eq_true rfl) rfl (by omega) rfl ?_
  refine kL18 (by omega) hw.1 hn hw.2.2.2.1 ?_
  intro K1 I1 R1 hK1 hO1 hW1 ho1
  obtain ⟨hMK1, hmv1, hKO1, hK01, hx1⟩ := WL_1 (σ' := σ) hw hK1 hO1
  have hle := Fz18_le (σ := σ) (day := xs (i + 1)) (ma := xs (i + 2)) (what := xs (i + 3))
  refine aft_v ?_
  refine mw_istore i_157_806 (ls' := [some (pR (some SC0)), some (pR (some RING)), some (pR (some MO)), some (pR (some OUT)), some (pI (nI i)), some (pI (nI (Fz18 σ (xs (i + 1)) (xs (i + 2)) (xs (i + 3))).1)), u6]) rfl (Nat.le_of_ble_eq_true rfl) ?_
  refine mw_aload i_157_807 (L := MO) rfl ?_
  refine mw_aload i_157_808 (L := SC0) rfl ?_
  refine mw_iload i_157_809 (x := nI i) rfl ?_
  refine mw_const i_157_810 (v := nI 1) (by decide) ?_
  refine mw_iadd i_157_811 (w := nI (i + 1)) (nI_add _ _) ?_
  refine mw_iald i_157_812 (jn := i + 1) (n := L) (by omega) (by omega) hK01 (by decide) (v := xs (i + 1)) (congrFun hx1 _) ?_
  refine mw_aload i_157_813 (L := SC0) rfl ?_
  refine mw_iload i_157_814 (x := nI i) rfl ?_
  refine mw_const i_157_815 (v := nI 2) (by decide) ?_
  refine mw_iadd i_157_816 (w := nI (i + 2)) (nI_add _ _) ?_
  refine mw_iald i_157_817 (jn := i + 2) (n := L) (by omega) (by omega) hK01 (by decide) (v := xs (i + 2)) (congrFun hx1 _) ?_
  refine mw_aload i_157_818 (L := SC0) rfl ?_
  refine mw_iload i_157_819 (x := nI i) rfl ?_
  refine mw_const i_157_820 (v := nI 3) (by decide) ?_
  refine mw_iadd i_157_821 (w := nI (i + 3)) (nI_add _ _) ?_
  refine mw_iald i_157_822 (jn := i + 3) (n := L) (by omega) (by omega) hK01 (by decide) (v := xs (i + 3)) (congrFun hx1 _) ?_
  refine mw_callV i_157_823 mf_122 (as := [pI (xs (i + 1)), pI (xs (i + 2)), pI (xs (i + 3))]) (rest := []) (d' := d9) (b' := b + 54) (ls0 := [some (pR (some MO)), some (pI (xs (i + 1))), some (pI (xs (i + 2))), some (pI (xs (i + 3))), none]) rfl rfl rfl (Nat.le_of_ble_eq_true rfl) hMK1.1 rfl rfl rfl ?_
  refine mF18 (by omega) hMK1 hmv1 hw.1.2.2 hn ?_
  intro I2 hF2 h28 hm2 v2 hv2
  refine aft_v ?_
  refine mw_istore i_157_824 (ls' := [some (pR (some SC0)), some (pR (some RING)), some (pR (some MO)), some (pR (some OUT)), some (pI (nI i)), some (pI (nI (Fz18 σ (xs (i + 1)) (xs (i + 2)) (xs (i + 3))).1)), some (pI v2)]) rfl (Nat.le_of_ble_eq_true rfl) ?_
  refine mw_aload i_157_825 (L := MO) rfl ?_
  refine mw_callV i_157_826 mf_74 (as := []) (rest := []) (d' := d9) (b' := b + 54) (ls0 := [some (pR (some MO))]) rfl rfl rfl (Nat.le_of_ble_eq_true rfl) hMK1.1 rfl rfl rfl ?_
  refine m_thrown hMK1 ?_
  rw [h28]
  refine aft_v ?_
  refine mw_iload i_157_827 (x := nI (Fz18 σ (xs (i + 1)) (xs (i + 2)) (xs (i + 3))).1) rfl ?_
  refine mw_ic i_157_828 (p := (nI (Fz18 σ (xs (i + 1)) (xs (i + 2)) (xs (i + 3))).1) = (nI (Fz18 σ (xs (i + 1)) (xs (i + 2)) (xs (i + 3))).1)) Iff.rfl (fun c1 => ?_) (fun c1 => ?_)
  · skip
    refine mw_iload i_157_831 (x := nI (Fz18 σ (xs (i + 1)) (xs (i + 2)) (xs (i + 3))).1) rfl ?_
    refine mw_if i_157_832 (p := ¬ (nI (Fz18 σ (xs (i + 1)) (xs (i + 2)) (xs (i + 3))).1) = nI 0) Iff.rfl (fun c2 => ?_) (fun c2 => ?_)
    · skip
      refine mw_goto i_157_842 ?_
      exact q _ K1 I2 R1 _ _ _ (by omega) (WL_2 hW1 hMK1 hKO1 hK01 hx1 hF2 hm2)
    · skip
      have h0 : (Fz18 σ (xs (i + 1)) (xs (i + 2)) (xs (i + 3))).1 = 0 := nI_inj (Classical.not_not.mp c2) (by omega) (by omega)
      refine mw_aload i_157_833 (L := OUT) rfl ?_
      refine mw_const i_157_834 (v := nI 0) (by decide) ?_
      refine mw_lald i_157_835 (jn := 0) (n := 1) (by omega) (by omega) hKO1 (v := (Fz18 σ (xs (i + 1)) (xs (i + 2)) (xs (i + 3))).2.1) (by rw [hF2 OUT (by decide) (by decide)]; exact ho1 h0) ?_
      refine mw_iload i_157_836 (x := v2) rfl ?_
      refine mw_i2l i_157_837 ?_
      refine mw_lcmp i_157_838 (u := (Fz18 σ (xs (i + 1)) (xs (i + 2)) (xs (i + 3))).2.1) (v := v2) (fun zx3 hzx3 => ?_)
      refine mw_if i_157_839 (p := zx3 = nI 0) Iff.rfl (fun c4 => ?_) (fun c4 => ?_)
      · skip
        refine mw_goto i_157_842 ?_
        exact q _ K1 I2 R1 _ _ _ (by omega) (WL_2 hW1 hMK1 hKO1 hK01 hx1 hF2 hm2)
      · skip
        exact absurd (hzx3.mpr (hv2 h0).symm) c4
  · skip
    exact absurd rfl c1
set_option maxRecDepth 20000 in
set_option maxHeartbeats 400000 in
theorem law_19 {d b : Nat} {K : KM} {I : IM} {R : RM} {Q : QT} {n i L : Nat} {σ : ST} {xs : Nat → Int32} {u5 u6 : Option PV} (hd : 20 ≤ d) (hn : n < 512) (hi8 : i + 8 ≤ L) (hL : L ≤ 4096) (hw : WL n σ xs L K I R)  (q : ∀ b' K' I' R' σ' u5 u6, b ≤ b' → WL (n + 1) σ' xs L K' I' R' → Mw d b' N_L_law 1116 [some (pR (some SC0)), some (pR (some RING)), some (pR (some MO)), some (pR (some OUT)), some (pI (nI i)), u5, u6] [] K' I' R' Q) : Mw d (b + 61) N_L_law 843 [some (pR (some SC0)), some (pR (some RING)), some (pR (some MO)), some (pR (some OUT)), some (pI (nI i)), u5, u6] [] K I R Q := by
  obtain ⟨d9, rfl⟩ : ∃ d9, d = d9 + 1 := ⟨d - 1, by omega⟩
  have hK0 := hw.2.2.2.2.1
  have hx0 := hw.2.2.2.2.2
  refine mw_aload i_157_843 (L := RING) rfl ?_
  refine mw_aload i_157_844 (L := SC0) rfl ?_
  refine mw_iload i_157_845 (x := nI i) rfl ?_
  refine mw_const i_157_846 (v := nI 1) (by decide) ?_
  refine mw_iadd i_157_847 (w := nI (i + 1)) (nI_add _ _) ?_
  refine mw_iald i_157_848 (jn := i + 1) (n := L) (by omega) (by omega) hK0 (by decide) (v := xs (i + 1)) (congrFun hx0 _) ?_
  refine mw_aload i_157_849 (L := SC0) rfl ?_
  refine mw_iload i_157_850 (x := nI i) rfl ?_
  refine mw_const i_157_851 (v := nI 2) (by decide) ?_
  refine mw_iadd i_157_852 (w := nI (i + 2)) (nI_add _ _) ?_
  refine mw_iald i_157_853 (jn := i + 2) (n := L) (by omega) (by omega) hK0 (by decide) (v := xs (i + 2)) (congrFun hx0 _) ?_
  have J1 : Mw (d9 + 1) (b + 61) 157 863 [some (pR (some SC0)), some (pR (some RING)), some (pR (some MO)), some (pR (some OUT)), some (pI (nI i)), u5, u6] [pI (bI (nz0 (xs (i + 3)))), pI (xs (i + 2)), pI (xs (i + 1)), pR (some RING)] K I R Q := by
    refine mw_aload i_157_863 (L := OUT) rfl ?_
    refine mw_callS i_157_864 mf_150 (as := [pR (some RING), pI (xs (i + 1)), pI (xs (i + 2)), pI (bI (nz0 (xs (i + 3)))), pR (some OUT)]) (rest := []) (d' := d9) (b' := b + 54) (ls0 := [some (pR (some RING)), some (pI (xs (i + 1))), some (pI (xs (i + 2))), some (pI (bI (nz0 (xs (i + 3))))), some (pR (some OUT)), none]) rfl rfl rfl (Nat.le_of_ble_eq_true rfl) rfl (by omega) rfl ?_
    refine kL19 (by omega) hw.1 hn hw.2.2.2.1 ?_
    intro K1 I1 R1 hK1 hO1 hW1 ho1
    obtain ⟨hMK1, hmv1, hKO1, hK01, hx1⟩ := WL_1 (σ' := σ) hw hK1 hO1
    have hle := Fz19_le (σ := σ) (t := xs (i + 1)) (at_ := xs (i + 2)) (pd := nz0 (xs (i + 3)))
    refine aft_v ?_
    refine mw_istore i_157_865 (ls' := [some (pR (some SC0)), some (pR (some RING)), some (pR (some MO)), some (pR (some OUT)), some (pI (nI i)), some (pI (nI (Fz19 σ (xs (i + 1)) (xs (i + 2)) (nz0 (xs (i + 3)))).1)), u6]) rfl (Nat.le_of_ble_eq_true rfl) ?_
    refine mw_aload i_157_866 (L := MO) rfl ?_
    refine mw_aload i_157_867 (L := SC0) rfl ?_
    refine mw_iload i_157_868 (x := nI i) rfl ?_
    refine mw_const i_157_869 (v := nI 1) (by decide) ?_
    refine mw_iadd i_157_870 (w := nI (i + 1)) (nI_add _ _) ?_
    refine mw_iald i_157_871 (jn := i + 1) (n := L) (by omega) (by omega) hK01 (by decide) (v := xs (i + 1)) (congrFun hx1 _) ?_
    refine mw_aload i_157_872 (L := SC0) rfl ?_
    refine mw_iload i_157_873 (x := nI i) rfl ?_
    refine mw_const i_157_874 (v := nI 2) (by decide) ?_
    refine mw_iadd i_157_875 (w := nI (i + 2)) (nI_add _ _) ?_
    refine mw_iald i_157_876 (jn := i + 2) (n := L) (by omega) (by omega) hK01 (by decide) (v := xs (i + 2)) (congrFun hx1 _) ?_
    have J2 : Mw (d9 + 1) (b + 54) 157 886 [some (pR (some SC0)), some (pR (some RING)), some (pR (some MO)), some (pR (some OUT)), some (pI (nI i)), some (pI (nI (Fz19 σ (xs (i + 1)) (xs (i + 2)) (nz0 (xs (i + 3)))).1)), u6] [pI (bI (nz0 (xs (i + 3)))), pI (xs (i + 2)), pI (xs (i + 1)), pR (some MO)] K1 I1 R1 Q := by
      refine mw_callV i_157_886 mf_123 (as := [pI (xs (i + 1)), pI (xs (i + 2)), pI (bI (nz0 (xs (i + 3))))]) (rest := []) (d' := d9) (b' := b + 54) (ls0 := [some (pR (some MO)), some (pI (xs (i + 1))), some (pI (xs (i + 2))), some (pI (bI (nz0 (xs (i + 3))))), none]) rfl rfl rfl (Nat.le_of_ble_eq_true rfl) hMK1.1 rfl rfl rfl ?_
      refine mF19 (by omega) hMK1 hmv1 hw.1.2.2 hn ?_
      intro I2 hF2 h28 hm2 v2 hv2
      refine aft_v ?_
      refine mw_istore i_157_887 (ls' := [some (pR (some SC0)), some (pR (some RING)), some (pR (some MO)), some (pR (some OUT)), some (pI (nI i)), some (pI (nI (Fz19 σ (xs (i + 1)) (xs (i + 2)) (nz0 (xs (i + 3)))).1)), some (pI v2)]) rfl (Nat.le_of_ble_eq_true rfl) ?_
      refine mw_aload i_157_888 (L := MO) rfl ?_
      refine mw_callV i_157_889 mf_74 (as := []) (rest := []) (d' := d9) (b' := b + 54) (ls0 := [some (pR (some MO))]) rfl rfl rfl (Nat.le_of_ble_eq_true rfl) hMK1.1 rfl rfl rfl ?_
      refine m_thrown hMK1 ?_
      rw [h28]
      refine aft_v ?_
      refine mw_iload i_157_890 (x := nI (Fz19 σ (xs (i + 1)) (xs (i + 2)) (nz0 (xs (i + 3)))).1) rfl ?_
      refine mw_ic i_157_891 (p := (nI (Fz19 σ (xs (i + 1)) (xs (i + 2)) (nz0 (xs (i + 3)))).1) = (nI (Fz19 σ (xs (i + 1)) (xs (i + 2)) (nz0 (xs (i + 3)))).1)) Iff.rfl (fun c3 => ?_) (fun c3 => ?_)
      · skip
        refine mw_iload i_157_894 (x := nI (Fz19 σ (xs (i + 1)) (xs (i + 2)) (nz0 (xs (i + 3)))).1) rfl ?_
        refine mw_if i_157_895 (p := ¬ (nI (Fz19 σ (xs (i + 1)) (xs (i + 2)) (nz0 (xs (i + 3)))).1) = nI 0) Iff.rfl (fun c4 => ?_) (fun c4 => ?_)
        · skip
          refine mw_goto i_157_905 ?_
          exact q _ K1 I2 R1 _ _ _ (by omega) (WL_2 hW1 hMK1 hKO1 hK01 hx1 hF2 hm2)
        · skip
          have h0 : (Fz19 σ (xs (i + 1)) (xs (i + 2)) (nz0 (xs (i + 3)))).1 = 0 := nI_inj (Classical.not_not.mp c4) (by omega) (by omega)
          refine mw_aload i_157_896 (L := OUT) rfl ?_
          refine mw_const i_157_897 (v := nI 0) (by decide) ?_
          refine mw_lald i_157_898 (jn := 0) (n := 1) (by omega) (by omega) hKO1 (v := (Fz19 σ (xs (i + 1)) (xs (i + 2)) (nz0 (xs (i + 3)))).2.1) (by rw [hF2 OUT (by decide) (by decide)]; exact ho1 h0) ?_
          refine mw_iload i_157_899 (x := v2) rfl ?_
          refine mw_i2l i_157_900 ?_
          refine mw_lcmp i_157_901 (u := (Fz19 σ (xs (i + 1)) (xs (i + 2)) (nz0 (xs (i + 3)))).2.1) (v := v2) (fun zx5 hzx5 => ?_)
          refine mw_if i_157_902 (p := zx5 = nI 0) Iff.rfl (fun c6 => ?_) (fun c6 => ?_)
          · skip
            refine mw_goto i_157_905 ?_
            exact q _ K1 I2 R1 _ _ _ (by omega) (WL_2 hW1 hMK1 hKO1 hK01 hx1 hF2 hm2)
          · skip
            exact absurd (hzx5.mpr (hv2 h0).symm) c6
      · skip
        exact absurd rfl c3
    refine mw_aload i_157_877 (L := SC0) rfl ?_
    refine mw_iload i_157_878 (x := nI i) rfl ?_
    refine mw_const i_157_879 (v := nI 3) (by decide) ?_
    refine mw_iadd i_157_880 (w := nI (i + 3)) (nI_add _ _) ?_
    refine mw_iald i_157_881 (jn := i + 3) (n := L) (by omega) (by omega) hK01 (by decide) (v := xs (i + 3)) (congrFun hx1 _) ?_
    refine mw_if i_157_882 (p := (xs (i + 3)) = nI 0) Iff.rfl (fun c7 => ?_) (fun c7 => ?_)
    · skip
      refine mw_const i_157_885 (v := nI 0) (by decide) ?_
      rw [show nI 0 = bI (nz0 (xs (i + 3))) from (bI_f ((fun h => h c7))).symm]
      exact J2
    · skip
      refine mw_const i_157_883 (v := nI 1) (by decide) ?_
      refine mw_goto i_157_884 ?_
      rw [show nI 1 = bI (nz0 (xs (i + 3))) from (bI_t (c7)).symm]
      exact J2
  refine mw_aload i_157_854 (L := SC0) rfl ?_
  refine mw_iload i_157_855 (x := nI i) rfl ?_
  refine mw_const i_157_856 (v := nI 3) (by decide) ?_
  refine mw_iadd i_157_857 (w := nI (i + 3)) (nI_add _ _) ?_
  refine mw_iald i_157_858 (jn := i + 3) (n := L) (by omega) (by omega) hK0 (by decide) (v := xs (i + 3)) (congrFun hx0 _) ?_
  refine mw_if i_157_859 (p := (xs (i + 3)) = nI 0) Iff.rfl (fun c8 => ?_) (fun c8 => ?_)
  · skip
    refine mw_const i_157_862 (v := nI 0) (by decide) ?_
    rw [show nI 0 = bI (nz0 (xs (i + 3))) from (bI_f ((fun h => h c8))).symm]
    exact J1
  · skip
    refine mw_const i_157_860 (v := nI 1) (by decide) ?_
    refine mw_goto i_157_861 ?_
    rw [show nI 1 = bI (nz0 (xs (i + 3))) from (bI_t (c8)).symm]
    exact J1
set_option maxRecDepth 20000 in
set_option maxHeartbeats 400000 in
theorem law_20 {d b : Nat} {K : KM} {I : IM} {R : RM} {Q : QT} {n i L : Nat} {σ : ST} {xs : Nat → Int32} {u5 u6 : Option PV} (hd : 20 ≤ d) (hn : n < 512) (hi8 : i + 8 ≤ L) (hL : L ≤ 4096) (hw : WL n σ xs L K I R)  (q : ∀ b' K' I' R' σ' u5 u6, b ≤ b' → WL (n + 1) σ' xs L K' I' R' → Mw d b' N_L_law 1116 [some (pR (some SC0)), some (pR (some RING)), some (pR (some MO)), some (pR (some OUT)), some (pI (nI i)), u5, u6] [] K' I' R' Q) : Mw d (b + 61) N_L_law 906 [some (pR (some SC0)), some (pR (some RING)), some (pR (some MO)), some (pR (some OUT)), some (pI (nI i)), u5, u6] [] K I R Q := by
  obtain ⟨d9, rfl⟩ : ∃ d9, d = d9 + 1 := ⟨d - 1, by omega⟩
  have hK0 := hw.2.2.2.2.1
  have hx0 := hw.2.2.2.2.2
  refine mw_aload i_157_906 (L := RING) rfl ?_
  refine mw_aload i_157_907 (L := SC0) rfl ?_
  refine mw_iload i_157_908 (x := nI i) rfl ?_
  refine mw_const i_157_909 (v := nI 1) (by decide) ?_
  refine mw_iadd i_157_910 (w := nI (i + 1)) (nI_add _ _) ?_
  refine mw_iald i_157_911 (jn := i + 1) (n := L) (by omega) (by omega) hK0 (by decide) (v := xs (i + 1)) (congrFun hx0 _) ?_
  refine mw_aload i_157_912 (L := OUT) rfl ?_
  refine mw_callS i_157_913 mf_151 (as := [pR (some RING), pI (xs (i + 1)), pR (some OUT)]) (rest := []) (d' := d9) (b' := b + 54) (ls0 := [some (pR (some RING)), some (pI (xs (i + 1))), some (pR (some OUT)), none]) rfl rfl rfl (Nat.le_of_ble_eq_true rfl) rfl (by omega) rfl ?_
  refine kL20 (by omega) hw.1 hn hw.2.2.2.1 ?_
  intro K1 I1 R1 hK1 hO1 hW1 ho1
  obtain ⟨hMK1, hmv1, hKO1, hK01, hx1⟩ := WL_1 (σ' := σ) hw hK1 hO1
  have hle := Fz20_le (σ := σ) (t := xs (i + 1))
  refine aft_v ?_
  refine mw_istore i_157_914 (ls' := [some (pR (some SC0)), some (pR (some RING)), some (pR (some MO)), some (pR (some OUT)), some (pI (nI i)), some (pI (nI (Fz20 σ (xs (i + 1))).1)), u6]) rfl (Nat.le_of_ble_eq_true rfl) ?_
  refine mw_aload i_157_915 (L := MO) rfl ?_
  refine mw_aload i_157_916 (L := SC0) rfl ?_
  refine mw_iload i_157_917 (x := nI i) rfl ?_
  refine mw_const i_157_918 (v := nI 1) (by decide) ?_
  refine mw_iadd i_157_919 (w := nI (i + 1)) (nI_add _ _) ?_
  refine mw_iald i_157_920 (jn := i + 1) (n := L) (by omega) (by omega) hK01 (by decide) (v := xs (i + 1)) (congrFun hx1 _) ?_
  refine mw_callV i_157_921 mf_124 (as := [pI (xs (i + 1))]) (rest := []) (d' := d9) (b' := b + 54) (ls0 := [some (pR (some MO)), some (pI (xs (i + 1)))]) rfl rfl rfl (Nat.le_of_ble_eq_true rfl) hMK1.1 rfl rfl rfl ?_
  refine mF20 (by omega) hMK1 hmv1 hw.1.2.2 hn ?_
  intro I2 hF2 h28 hm2 v2 hv2
  refine aft_v ?_
  refine mw_istore i_157_922 (ls' := [some (pR (some SC0)), some (pR (some RING)), some (pR (some MO)), some (pR (some OUT)), some (pI (nI i)), some (pI (nI (Fz20 σ (xs (i + 1))).1)), some (pI v2)]) rfl (Nat.le_of_ble_eq_true rfl) ?_
  refine mw_aload i_157_923 (L := MO) rfl ?_
  refine mw_callV i_157_924 mf_74 (as := []) (rest := []) (d' := d9) (b' := b + 54) (ls0 := [some (pR (some MO))]) rfl rfl rfl (Nat.le_of_ble_eq_true rfl) hMK1.1 rfl rfl rfl ?_
  refine m_thrown hMK1 ?_
  rw [h28]
  refine aft_v ?_
  refine mw_iload i_157_925 (x := nI (Fz20 σ (xs (i + 1))).1) rfl ?_
  refine mw_ic i_157_926 (p := (nI (Fz20 σ (xs (i + 1))).1) = (nI (Fz20 σ (xs (i + 1))).1)) Iff.rfl (fun c1 => ?_) (fun c1 => ?_)
  · skip
    refine mw_iload i_157_929 (x := nI (Fz20 σ (xs (i + 1))).1) rfl ?_
    refine mw_if i_157_930 (p := ¬ (nI (Fz20 σ (xs (i + 1))).1) = nI 0) Iff.rfl (fun c2 => ?_) (fun c2 => ?_)
    · skip
      refine mw_goto i_157_940 ?_
      exact q _ K1 I2 R1 _ _ _ (by omega) (WL_2 hW1 hMK1 hKO1 hK01 hx1 hF2 hm2)
    · skip
      have h0 : (Fz20 σ (xs (i + 1))).1 = 0 := nI_inj (Classical.not_not.mp c2) (by omega) (by omega)
      refine mw_aload i_157_931 (L := OUT) rfl ?_
      refine mw_const i_157_932 (v := nI 0) (by decide) ?_
      refine mw_lald i_157_933 (jn := 0) (n := 1) (by omega) (by omega) hKO1 (v := (Fz20 σ (xs (i + 1))).2.1) (by rw [hF2 OUT (by decide) (by decide)]; exact ho1 h0) ?_
      refine mw_iload i_157_934 (x := v2) rfl ?_
      refine mw_i2l i_157_935 ?_
      refine mw_lcmp i_157_936 (u := (Fz20 σ (xs (i + 1))).2.1) (v := v2) (fun zx3 hzx3 => ?_)
      refine mw_if i_157_937 (p := zx3 = nI 0) Iff.rfl (fun c4 => ?_) (fun c4 => ?_)
      · skip
        refine mw_goto i_157_940 ?_
        exact q _ K1 I2 R1 _ _ _ (by omega) (WL_2 hW1 hMK1 hKO1 hK01 hx1 hF2 hm2)
      · skip
        exact absurd (hzx3.mpr (hv2 h0).symm) c4
  · skip
    exact absurd rfl c1
set_option maxRecDepth 20000 in
set_option maxHeartbeats 400000 in
theorem law_21 {d b : Nat} {K : KM} {I : IM} {R : RM} {Q : QT} {n i L : Nat} {σ : ST} {xs : Nat → Int32} {u5 u6 : Option PV} (hd : 20 ≤ d) (hn : n < 512) (hi8 : i + 8 ≤ L) (hL : L ≤ 4096) (hw : WL n σ xs L K I R)  (q : ∀ b' K' I' R' σ' u5 u6, b ≤ b' → WL (n + 1) σ' xs L K' I' R' → Mw d b' N_L_law 1116 [some (pR (some SC0)), some (pR (some RING)), some (pR (some MO)), some (pR (some OUT)), some (pI (nI i)), u5, u6] [] K' I' R' Q) : Mw d (b + 61) N_L_law 941 [some (pR (some SC0)), some (pR (some RING)), some (pR (some MO)), some (pR (some OUT)), some (pI (nI i)), u5, u6] [] K I R Q := by
  obtain ⟨d9, rfl⟩ : ∃ d9, d = d9 + 1 := ⟨d - 1, by omega⟩
  have hK0 := hw.2.2.2.2.1
  have hx0 := hw.2.2.2.2.2
  refine mw_aload i_157_941 (L := RING) rfl ?_
  refine mw_aload i_157_942 (L := SC0) rfl ?_
  refine mw_iload i_157_943 (x := nI i) rfl ?_
  refine mw_const i_157_944 (v := nI 1) (by decide) ?_
  refine mw_iadd i_157_945 (w := nI (i + 1)) (nI_add _ _) ?_
  refine mw_iald i_157_946 (jn := i + 1) (n := L) (by omega) (by omega) hK0 (by decide) (v := xs (i + 1)) (congrFun hx0 _) ?_
  refine mw_aload i_157_947 (L := SC0) rfl ?_
  refine mw_iload i_157_948 (x := nI i) rfl ?_
  refine mw_const i_157_949 (v := nI 2) (by decide) ?_
  refine mw_iadd i_157_950 (w := nI (i + 2)) (nI_add _ _) ?_
  refine mw_iald i_157_951 (jn := i + 2) (n := L) (by omega) (by omega) hK0 (by decide) (v := xs (i + 2)) (congrFun hx0 _) ?_
  refine mw_aload i_157_952 (L := OUT) rfl ?_
  refine mw_callS i_157_953 mf_152 (as := [pR (some RING), pI (xs (i + 1)), pI (xs (i + 2)), pR (some OUT)]) (rest := []) (d' := d9) (b' := b + 54) (ls0 := [some (pR (some RING)), some (pI (xs (i + 1))), some (pI (xs (i + 2))), some (pR (some OUT)), none]) rfl rfl rfl (Nat.le_of_ble_eq_true rfl) rfl (by omega) rfl ?_
  refine kL21 (by omega) hw.1 hn hw.2.2.2.1 ?_
  intro K1 I1 R1 hK1 hO1 hW1 ho1
  obtain ⟨hMK1, hmv1, hKO1, hK01, hx1⟩ := WL_1 (σ' := σ) hw hK1 hO1
  have hle := Fz21_le (σ := σ) (w := xs (i + 1)) (o := xs (i + 2))
  refine aft_v ?_
  refine mw_istore i_157_954 (ls' := [some (pR (some SC0)), some (pR (some RING)), some (pR (some MO)), some (pR (some OUT)), some (pI (nI i)), some (pI (nI (Fz21 σ (xs (i + 1)) (xs (i + 2))).1)), u6]) rfl (Nat.le_of_ble_eq_true rfl) ?_
  refine mw_aload i_157_955 (L := MO) rfl ?_
  refine mw_aload i_157_956 (L := SC0) rfl ?_
  refine mw_iload i_157_957 (x := nI i) rfl ?_
  refine mw_const i_157_958 (v := nI 1) (by decide) ?_
  refine mw_iadd i_157_959 (w := nI (i + 1)) (nI_add _ _) ?_
  refine mw_iald i_157_960 (jn := i + 1) (n := L) (by omega) (by omega) hK01 (by decide) (v := xs (i + 1)) (congrFun hx1 _) ?_
  refine mw_aload i_157_961 (L := SC0) rfl ?_
  refine mw_iload i_157_962 (x := nI i) rfl ?_
  refine mw_const i_157_963 (v := nI 2) (by decide) ?_
  refine mw_iadd i_157_964 (w := nI (i + 2)) (nI_add _ _) ?_
  refine mw_iald i_157_965 (jn := i + 2) (n := L) (by omega) (by omega) hK01 (by decide) (v := xs (i + 2)) (congrFun hx1 _) ?_
  refine mw_callV i_157_966 mf_125 (as := [pI (xs (i + 1)), pI (xs (i + 2))]) (rest := []) (d' := d9) (b' := b + 54) (ls0 := [some (pR (some MO)), some (pI (xs (i + 1))), some (pI (xs (i + 2)))]) rfl rfl rfl (Nat.le_of_ble_eq_true rfl) hMK1.1 rfl rfl rfl ?_
  refine mF21 (by omega) hMK1 hmv1 hw.1.2.2 hn ?_
  intro I2 hF2 h28 hm2 v2 hv2
  refine aft_v ?_
  refine mw_istore i_157_967 (ls' := [some (pR (some SC0)), some (pR (some RING)), some (pR (some MO)), some (pR (some OUT)), some (pI (nI i)), some (pI (nI (Fz21 σ (xs (i + 1)) (xs (i + 2))).1)), some (pI v2)]) rfl (Nat.le_of_ble_eq_true rfl) ?_
  refine mw_aload i_157_968 (L := MO) rfl ?_
  refine mw_callV i_157_969 mf_74 (as := []) (rest := []) (d' := d9) (b' := b + 54) (ls0 := [some (pR (some MO))]) rfl rfl rfl (Nat.le_of_ble_eq_true rfl) hMK1.1 rfl rfl rfl ?_
  refine m_thrown hMK1 ?_
  rw [h28]
  refine aft_v ?_
  refine mw_iload i_157_970 (x := nI (Fz21 σ (xs (i + 1)) (xs (i + 2))).1) rfl ?_
  refine mw_ic i_157_971 (p := (nI (Fz21 σ (xs (i + 1)) (xs (i + 2))).1) = (nI (Fz21 σ (xs (i + 1)) (xs (i + 2))).1)) Iff.rfl (fun c1 => ?_) (fun c1 => ?_)
  · skip
    refine mw_iload i_157_974 (x := nI (Fz21 σ (xs (i + 1)) (xs (i + 2))).1) rfl ?_
    refine mw_if i_157_975 (p := ¬ (nI (Fz21 σ (xs (i + 1)) (xs (i + 2))).1) = nI 0) Iff.rfl (fun c2 => ?_) (fun c2 => ?_)
    · skip
      refine mw_goto i_157_985 ?_
      exact q _ K1 I2 R1 _ _ _ (by omega) (WL_2 hW1 hMK1 hKO1 hK01 hx1 hF2 hm2)
    · skip
      have h0 : (Fz21 σ (xs (i + 1)) (xs (i + 2))).1 = 0 := nI_inj (Classical.not_not.mp c2) (by omega) (by omega)
      refine mw_aload i_157_976 (L := OUT) rfl ?_
      refine mw_const i_157_977 (v := nI 0) (by decide) ?_
      refine mw_lald i_157_978 (jn := 0) (n := 1) (by omega) (by omega) hKO1 (v := (Fz21 σ (xs (i + 1)) (xs (i + 2))).2.1) (by rw [hF2 OUT (by decide) (by decide)]; exact ho1 h0) ?_
      refine mw_iload i_157_979 (x := v2) rfl ?_
      refine mw_i2l i_157_980 ?_
      refine mw_lcmp i_157_981 (u := (Fz21 σ (xs (i + 1)) (xs (i + 2))).2.1) (v := v2) (fun zx3 hzx3 => ?_)
      refine mw_if i_157_982 (p := zx3 = nI 0) Iff.rfl (fun c4 => ?_) (fun c4 => ?_)
      · skip
        refine mw_goto i_157_985 ?_
        exact q _ K1 I2 R1 _ _ _ (by omega) (WL_2 hW1 hMK1 hKO1 hK01 hx1 hF2 hm2)
      · skip
        exact absurd (hzx3.mpr (hv2 h0).symm) c4
  · skip
    exact absurd rfl c1
set_option maxRecDepth 20000 in
set_option maxHeartbeats 400000 in
theorem law_22 {d b : Nat} {K : KM} {I : IM} {R : RM} {Q : QT} {n i L : Nat} {σ : ST} {xs : Nat → Int32} {u5 u6 : Option PV} (hd : 20 ≤ d) (hn : n < 512) (hi8 : i + 8 ≤ L) (hL : L ≤ 4096) (hw : WL n σ xs L K I R)  (q : ∀ b' K' I' R' σ' u5 u6, b ≤ b' → WL (n + 1) σ' xs L K' I' R' → Mw d b' N_L_law 1116 [some (pR (some SC0)), some (pR (some RING)), some (pR (some MO)), some (pR (some OUT)), some (pI (nI i)), u5, u6] [] K' I' R' Q) : Mw d (b + 61) N_L_law 986 [some (pR (some SC0)), some (pR (some RING)), some (pR (some MO)), some (pR (some OUT)), some (pI (nI i)), u5, u6] [] K I R Q := by
  obtain ⟨d9, rfl⟩ : ∃ d9, d = d9 + 1 := ⟨d - 1, by omega⟩
  have hK0 := hw.2.2.2.2.1
  have hx0 := hw.2.2.2.2.2
  refine mw_aload i_157_986 (L := RING) rfl ?_
  refine mw_aload i_157_987 (L := SC0) rfl ?_
  refine mw_iload i_157_988 (x := nI i) rfl ?_
  refine mw_const i_157_989 (v := nI 1) (by decide) ?_
  refine mw_iadd i_157_990 (w := nI (i + 1)) (nI_add _ _) ?_
  refine mw_iald i_157_991 (jn := i + 1) (n := L) (by omega) (by omega) hK0 (by decide) (v := xs (i + 1)) (congrFun hx0 _) ?_
  refine mw_aload i_157_992 (L := SC0) rfl ?_
  refine mw_iload i_157_993 (x := nI i) rfl ?_
  refine mw_const i_157_994 (v := nI 2) (by decide) ?_
  refine mw_iadd i_157_995 (w := nI (i + 2)) (nI_add _ _) ?_
  refine mw_iald i_157_996 (jn := i + 2) (n := L) (by omega) (by omega) hK0 (by decide) (v := xs (i + 2)) (congrFun hx0 _) ?_
  refine mw_aload i_157_997 (L := OUT) rfl ?_
  refine mw_callS i_157_998 mf_153 (as := [pR (some RING), pI (xs (i + 1)), pI (xs (i + 2)), pR (some OUT)]) (rest := []) (d' := d9) (b' := b + 54) (ls0 := [some (pR (some RING)), some (pI (xs (i + 1))), some (pI (xs (i + 2))), some (pR (some OUT)), none]) rfl rfl rfl (Nat.le_of_ble_eq_true rfl) rfl (by omega) rfl ?_
  refine kL22 (by omega) hw.1 hn hw.2.2.2.1 ?_
  intro K1 I1 R1 hK1 hO1 hW1 ho1
  obtain ⟨hMK1, hmv1, hKO1, hK01, hx1⟩ := WL_1 (σ' := σ) hw hK1 hO1
  have hle := Fz22_le (σ := σ) (w := xs (i + 1)) (o := xs (i + 2))
  refine aft_v ?_
  refine mw_istore i_157_999 (ls' := [some (pR (some SC0)), some (pR (some RING)), some (pR (some MO)), some (pR (some OUT)), some (pI (nI i)), some (pI (nI (Fz22 σ (xs (i + 1)) (xs (i + 2))).1)), u6]) rfl (Nat.le_of_ble_eq_true rfl) ?_
  refine mw_aload i_157_1000 (L := MO) rfl ?_
  refine mw_aload i_157_1001 (L := SC0) rfl ?_
  refine mw_iload i_157_1002 (x := nI i) rfl ?_
  refine mw_const i_157_1003 (v := nI 1) (by decide) ?_
  refine mw_iadd i_157_1004 (w := nI (i + 1)) (nI_add _ _) ?_
  refine mw_iald i_157_1005 (jn := i + 1) (n := L) (by omega) (by omega) hK01 (by decide) (v := xs (i + 1)) (congrFun hx1 _) ?_
  refine mw_aload i_157_1006 (L := SC0) rfl ?_
  refine mw_iload i_157_1007 (x := nI i) rfl ?_
  refine mw_const i_157_1008 (v := nI 2) (by decide) ?_
  refine mw_iadd i_157_1009 (w := nI (i + 2)) (nI_add _ _) ?_
  refine mw_iald i_157_1010 (jn := i + 2) (n := L) (by omega) (by omega) hK01 (by decide) (v := xs (i + 2)) (congrFun hx1 _) ?_
  refine mw_callV i_157_1011 mf_126 (as := [pI (xs (i + 1)), pI (xs (i + 2))]) (rest := []) (d' := d9) (b' := b + 54) (ls0 := [some (pR (some MO)), some (pI (xs (i + 1))), some (pI (xs (i + 2)))]) rfl rfl rfl (Nat.le_of_ble_eq_true rfl) hMK1.1 rfl rfl rfl ?_
  refine mF22 (by omega) hMK1 hmv1 hw.1.2.2 hn ?_
  intro I2 hF2 h28 hm2 v2 hv2
  refine aft_v ?_
  refine mw_istore i_157_1012 (ls' := [some (pR (some SC0)), some (pR (some RING)), some (pR (some MO)), some (pR (some OUT)), some (pI (nI i)), some (pI (nI (Fz22 σ (xs (i + 1)) (xs (i + 2))).1)), some (pI v2)]) rfl (Nat.le_of_ble_eq_true rfl) ?_
  refine mw_aload i_157_1013 (L := MO) rfl ?_
  refine mw_callV i_157_1014 mf_74 (as := []) (rest := []) (d' := d9) (b' := b + 54) (ls0 := [some (pR (some MO))]) rfl rfl rfl (Nat.le_of_ble_eq_true rfl) hMK1.1 rfl rfl rfl ?_
  refine m_thrown hMK1 ?_
  rw [h28]
  refine aft_v ?_
  refine mw_iload i_157_1015 (x := nI (Fz22 σ (xs (i + 1)) (xs (i + 2))).1) rfl ?_
  refine mw_ic i_157_1016 (p := (nI (Fz22 σ (xs (i + 1)) (xs (i + 2))).1) = (nI (Fz22 σ (xs (i + 1)) (xs (i + 2))).1)) Iff.rfl (fun c1 => ?_) (fun c1 => ?_)
  · skip
    refine mw_iload i_157_1019 (x := nI (Fz22 σ (xs (i + 1)) (xs (i + 2))).1) rfl ?_
    refine mw_if i_157_1020 (p := ¬ (nI (Fz22 σ (xs (i + 1)) (xs (i + 2))).1) = nI 0) Iff.rfl (fun c2 => ?_) (fun c2 => ?_)
    · skip
      refine mw_goto i_157_1030 ?_
      exact q _ K1 I2 R1 _ _ _ (by omega) (WL_2 hW1 hMK1 hKO1 hK01 hx1 hF2 hm2)
    · skip
      have h0 : (Fz22 σ (xs (i + 1)) (xs (i + 2))).1 = 0 := nI_inj (Classical.not_not.mp c2) (by omega) (by omega)
      refine mw_aload i_157_1021 (L := OUT) rfl ?_
      refine mw_const i_157_1022 (v := nI 0) (by decide) ?_
      refine mw_lald i_157_1023 (jn := 0) (n := 1) (by omega) (by omega) hKO1 (v := (Fz22 σ (xs (i + 1)) (xs (i + 2))).2.1) (by rw [hF2 OUT (by decide) (by decide)]; exact ho1 h0) ?_
      refine mw_iload i_157_1024 (x := v2) rfl ?_
      refine mw_i2l i_157_1025 ?_
      refine mw_lcmp i_157_1026 (u := (Fz22 σ (xs (i + 1)) (xs (i + 2))).2.1) (v := v2) (fun zx3 hzx3 => ?_)
      refine mw_if i_157_1027 (p := zx3 = nI 0) Iff.rfl (fun c4 => ?_) (fun c4 => ?_)
      · skip
        refine mw_goto i_157_1030 ?_
        exact q _ K1 I2 R1 _ _ _ (by omega) (WL_2 hW1 hMK1 hKO1 hK01 hx1 hF2 hm2)
      · skip
        exact absurd (hzx3.mpr (hv2 h0).symm) c4
  · skip
    exact absurd rfl c1
set_option maxRecDepth 20000 in
set_option maxHeartbeats 400000 in
theorem law_23 {d b : Nat} {K : KM} {I : IM} {R : RM} {Q : QT} {n i L : Nat} {σ : ST} {xs : Nat → Int32} {u5 u6 : Option PV} (hd : 20 ≤ d) (hn : n < 512) (hi8 : i + 8 ≤ L) (hL : L ≤ 4096) (hw : WL n σ xs L K I R)  (q : ∀ b' K' I' R' σ' u5 u6, b ≤ b' → WL (n + 1) σ' xs L K' I' R' → Mw d b' N_L_law 1116 [some (pR (some SC0)), some (pR (some RING)), some (pR (some MO)), some (pR (some OUT)), some (pI (nI i)), u5, u6] [] K' I' R' Q) : Mw d (b + 61) N_L_law 1031 [some (pR (some SC0)), some (pR (some RING)), some (pR (some MO)), some (pR (some OUT)), some (pI (nI i)), u5, u6] [] K I R Q := by
  obtain ⟨d9, rfl⟩ : ∃ d9, d = d9 + 1 := ⟨d - 1, by omega⟩
  have hK0 := hw.2.2.2.2.1
  have hx0 := hw.2.2.2.2.2
  refine mw_aload i_157_1031 (L := RING) rfl ?_
  refine mw_aload i_157_1032 (L := SC0) rfl ?_
  refine mw_iload i_157_1033 (x := nI i) rfl ?_
  refine mw_const i_157_1034 (v := nI 1) (by decide) ?_
  refine mw_iadd i_157_1035 (w := nI (i + 1)) (nI_add _ _) ?_
  refine mw_iald i_157_1036 (jn := i + 1) (n := L) (by omega) (by omega) hK0 (by decide) (v := xs (i + 1)) (congrFun hx0 _) ?_
  refine mw_aload i_157_1037 (L := OUT) rfl ?_
  refine mw_callS i_157_1038 mf_154 (as := [pR (some RING), pI (xs (i + 1)), pR (some OUT)]) (rest := []) (d' := d9) (b' := b + 54) (ls0 := [some (pR (some RING)), some (pI (xs (i + 1))), some (pR (some OUT)), none]) rfl rfl rfl (Nat.le_of_ble_eq_true rfl) rfl (by omega) rfl ?_
  refine kL23 (by omega) hw.1 hn hw.2.2.2.1 ?_
  intro K1 I1 R1 hK1 hO1 hW1 ho1
  obtain ⟨hMK1, hmv1, hKO1, hK01, hx1⟩ := WL_1 (σ' := σ) hw hK1 hO1
  have hle := Fz23_le (σ := σ) (t := xs (i + 1))
  refine aft_v ?_
  refine mw_istore i_157_1039 (ls' := [some (pR (some SC0)), some (pR (some RING)), some (pR (some MO)), some (pR (some OUT)), some (pI (nI i)), some (pI (nI (Fz23 σ (xs (i + 1))).1)), u6]) rfl (Nat.le_of_ble_eq_true rfl) ?_
  refine mw_aload i_157_1040 (L := MO) rfl ?_
  refine mw_aload i_157_1041 (L := SC0) rfl ?_
  refine mw_iload i_157_1042 (x := nI i) rfl ?_
  refine mw_const i_157_1043 (v := nI 1) (by decide) ?_
  refine mw_iadd i_157_1044 (w := nI (i + 1)) (nI_add _ _) ?_
  refine mw_iald i_157_1045 (jn := i + 1) (n := L) (by omega) (by omega) hK01 (by decide) (v := xs (i + 1)) (congrFun hx1 _) ?_
  refine mw_callV i_157_1046 mf_127 (as := [pI (xs (i + 1))]) (rest := []) (d' := d9) (b' := b + 54) (ls0 := [some (pR (some MO)), some (pI (xs (i + 1)))]) rfl rfl rfl (Nat.le_of_ble_eq_true rfl) hMK1.1 rfl rfl rfl ?_
  refine mF23 (by omega) hMK1 hmv1 hw.1.2.2 hn ?_
  intro I2 hF2 h28 hm2 v2 hv2
  refine aft_v ?_
  refine mw_istore i_157_1047 (ls' := [some (pR (some SC0)), some (pR (some RING)), some (pR (some MO)), some (pR (some OUT)), some (pI (nI i)), some (pI (nI (Fz23 σ (xs (i + 1))).1)), some (pI v2)]) rfl (Nat.le_of_ble_eq_true rfl) ?_
  refine mw_aload i_157_1048 (L := MO) rfl ?_
  refine mw_callV i_157_1049 mf_74 (as := []) (rest := []) (d' := d9) (b' := b + 54) (ls0 := [some (pR (some MO))]) rfl rfl rfl (Nat.le_of_ble_eq_true rfl) hMK1.1 rfl rfl rfl ?_
  refine m_thrown hMK1 ?_
  rw [h28]
  refine aft_v ?_
  refine mw_iload i_157_1050 (x := nI (Fz23 σ (xs (i + 1))).1) rfl ?_
  refine mw_ic i_157_1051 (p := (nI (Fz23 σ (xs (i + 1))).1) = (nI (Fz23 σ (xs (i + 1))).1)) Iff.rfl (fun c1 => ?_) (fun c1 => ?_)
  · skip
    refine mw_iload i_157_1054 (x := nI (Fz23 σ (xs (i + 1))).1) rfl ?_
    refine mw_if i_157_1055 (p := ¬ (nI (Fz23 σ (xs (i + 1))).1) = nI 0) Iff.rfl (fun c2 => ?_) (fun c2 => ?_)
    · skip
      refine mw_goto i_157_1065 ?_
      exact q _ K1 I2 R1 _ _ _ (by omega) (WL_2 hW1 hMK1 hKO1 hK01 hx1 hF2 hm2)
    · skip
      have h0 : (Fz23 σ (xs (i + 1))).1 = 0 := nI_inj (Classical.not_not.mp c2) (by omega) (by omega)
      refine mw_aload i_157_1056 (L := OUT) rfl ?_
      refine mw_const i_157_1057 (v := nI 0) (by decide) ?_
      refine mw_lald i_157_1058 (jn := 0) (n := 1) (by omega) (by omega) hKO1 (v := (Fz23 σ (xs (i + 1))).2.1) (by rw [hF2 OUT (by decide) (by decide)]; exact ho1 h0) ?_
      refine mw_iload i_157_1059 (x := v2) rfl ?_
      refine mw_i2l i_157_1060 ?_
      refine mw_lcmp i_157_1061 (u := (Fz23 σ (xs (i + 1))).2.1) (v := v2) (fun zx3 hzx3 => ?_)
      refine mw_if i_157_1062 (p := zx3 = nI 0) Iff.rfl (fun c4 => ?_) (fun c4 => ?_)
      · skip
        refine mw_goto i_157_1065 ?_
        exact q _ K1 I2 R1 _ _ _ (by omega) (WL_2 hW1 hMK1 hKO1 hK01 hx1 hF2 hm2)
      · skip
        exact absurd (hzx3.mpr (hv2 h0).symm) c4
  · skip
    exact absurd rfl c1
set_option maxRecDepth 20000 in
set_option maxHeartbeats 400000 in
theorem law_24 {d b : Nat} {K : KM} {I : IM} {R : RM} {Q : QT} {n i L : Nat} {σ : ST} {xs : Nat → Int32} {u5 u6 : Option PV} (hd : 20 ≤ d) (hn : n < 512) (hi8 : i + 8 ≤ L) (hL : L ≤ 4096) (hw : WL n σ xs L K I R)  (q : ∀ b' K' I' R' σ' u5 u6, b ≤ b' → WL (n + 1) σ' xs L K' I' R' → Mw d b' N_L_law 1116 [some (pR (some SC0)), some (pR (some RING)), some (pR (some MO)), some (pR (some OUT)), some (pI (nI i)), u5, u6] [] K' I' R' Q) : Mw d (b + 61) N_L_law 1066 [some (pR (some SC0)), some (pR (some RING)), some (pR (some MO)), some (pR (some OUT)), some (pI (nI i)), u5, u6] [] K I R Q := by
  obtain ⟨d9, rfl⟩ : ∃ d9, d = d9 + 1 := ⟨d - 1, by omega⟩
  have hK0 := hw.2.2.2.2.1
  have hx0 := hw.2.2.2.2.2
  refine mw_aload i_157_1066 (L := RING) rfl ?_
  refine mw_aload i_157_1067 (L := OUT) rfl ?_
  refine mw_callS i_157_1068 mf_155 (as := [pR (some RING), pR (some OUT)]) (rest := []) (d' := d9) (b' := b + 54) (ls0 := [some (pR (some RING)), some (pR (some OUT)), none]) rfl rfl rfl (Nat.le_of_ble_eq_true rfl) rfl (by omega) rfl ?_
  refine kL24 (by omega) hw.1 hn hw.2.2.2.1 ?_
  intro K1 I1 R1 hK1 hO1 hW1 ho1
  obtain ⟨hMK1, hmv1, hKO1, hK01, hx1⟩ := WL_1 (σ' := σ) hw hK1 hO1
  have hle := Fz24_le (σ := σ)
  refine aft_v ?_
  refine mw_istore i_157_1069 (ls' := [some (pR (some SC0)), some (pR (some RING)), some (pR (some MO)), some (pR (some OUT)), some (pI (nI i)), some (pI (nI (Fz24 σ).1)), u6]) rfl (Nat.le_of_ble_eq_true rfl) ?_
  refine mw_aload i_157_1070 (L := MO) rfl ?_
  refine mw_callV i_157_1071 mf_106 (as := []) (rest := []) (d' := d9) (b' := b + 54) (ls0 := [some (pR (some MO))]) rfl rfl rfl (Nat.le_of_ble_eq_true rfl) hMK1.1 rfl rfl rfl ?_
  refine mF24 (by omega) hMK1 hmv1 hw.1.2.2 hn ?_
  intro I2 hF2 h28 hm2 v2 hv2
  refine aft_v ?_
  refine mw_istore i_157_1072 (ls' := [some (pR (some SC0)), some (pR (some RING)), some (pR (some MO)), some (pR (some OUT)), some (pI (nI i)), some (pI (nI (Fz24 σ).1)), some (pI v2)]) rfl (Nat.le_of_ble_eq_true rfl) ?_
  refine mw_aload i_157_1073 (L := MO) rfl ?_
  refine mw_callV i_157_1074 mf_74 (as := []) (rest := []) (d' := d9) (b' := b + 54) (ls0 := [some (pR (some MO))]) rfl rfl rfl (Nat.le_of_ble_eq_true rfl) hMK1.1 rfl rfl rfl ?_
  refine m_thrown hMK1 ?_
  rw [h28]
  refine aft_v ?_
  refine mw_iload i_157_1075 (x := nI (Fz24 σ).1) rfl ?_
  refine mw_ic i_157_1076 (p := (nI (Fz24 σ).1) = (nI (Fz24 σ).1)) Iff.rfl (fun c1 => ?_) (fun c1 => ?_)
  · skip
    refine mw_iload i_157_1079 (x := nI (Fz24 σ).1) rfl ?_
    refine mw_if i_157_1080 (p := ¬ (nI (Fz24 σ).1) = nI 0) Iff.rfl (fun c2 => ?_) (fun c2 => ?_)
    · skip
      refine mw_goto i_157_1090 ?_
      exact q _ K1 I2 R1 _ _ _ (by omega) (WL_2 hW1 hMK1 hKO1 hK01 hx1 hF2 hm2)
    · skip
      have h0 : (Fz24 σ).1 = 0 := nI_inj (Classical.not_not.mp c2) (by omega) (by omega)
      refine mw_aload i_157_1081 (L := OUT) rfl ?_
      refine mw_const i_157_1082 (v := nI 0) (by decide) ?_
      refine mw_lald i_157_1083 (jn := 0) (n := 1) (by omega) (by omega) hKO1 (v := (Fz24 σ).2.1) (by rw [hF2 OUT (by decide) (by decide)]; exact ho1 h0) ?_
      refine mw_iload i_157_1084 (x := v2) rfl ?_
      refine mw_i2l i_157_1085 ?_
      refine mw_lcmp i_157_1086 (u := (Fz24 σ).2.1) (v := v2) (fun zx3 hzx3 => ?_)
      refine mw_if i_157_1087 (p := zx3 = nI 0) Iff.rfl (fun c4 => ?_) (fun c4 => ?_)
      · skip
        refine mw_goto i_157_1090 ?_
        exact q _ K1 I2 R1 _ _ _ (by omega) (WL_2 hW1 hMK1 hKO1 hK01 hx1 hF2 hm2)
      · skip
        exact absurd (hzx3.mpr (hv2 h0).symm) c4
  · skip
    exact absurd rfl c1
set_option maxRecDepth 20000 in
set_option maxHeartbeats 400000 in
theorem law_25 {d b : Nat} {K : KM} {I : IM} {R : RM} {Q : QT} {n i L : Nat} {σ : ST} {xs : Nat → Int32} {u5 u6 : Option PV} (hd : 20 ≤ d) (hn : n < 512) (hi8 : i + 8 ≤ L) (hL : L ≤ 4096) (hw : WL n σ xs L K I R)  (q : ∀ b' K' I' R' σ' u5 u6, b ≤ b' → WL (n + 1) σ' xs L K' I' R' → Mw d b' N_L_law 1116 [some (pR (some SC0)), some (pR (some RING)), some (pR (some MO)), some (pR (some OUT)), some (pI (nI i)), u5, u6] [] K' I' R' Q) : Mw d (b + 61) N_L_law 1091 [some (pR (some SC0)), some (pR (some RING)), some (pR (some MO)), some (pR (some OUT)), some (pI (nI i)), u5, u6] [] K I R Q := by
  obtain ⟨d9, rfl⟩ : ∃ d9, d = d9 + 1 := ⟨d - 1, by omega⟩
  have hK0 := hw.2.2.2.2.1
  have hx0 := hw.2.2.2.2.2
  refine mw_aload i_157_1091 (L := RING) rfl ?_
  refine mw_aload i_157_1092 (L := OUT) rfl ?_
  refine mw_callS i_157_1093 mf_156 (as := [pR (some RING), pR (some OUT)]) (rest := []) (d' := d9) (b' := b + 54) (ls0 := [some (pR (some RING)), some (pR (some OUT)), none]) rfl rfl rfl (Nat.le_of_ble_eq_true rfl) rfl (by omega) rfl ?_
  refine kL25 (by omega) hw.1 hn hw.2.2.2.1 ?_
  intro K1 I1 R1 hK1 hO1 hW1 ho1
  obtain ⟨hMK1, hmv1, hKO1, hK01, hx1⟩ := WL_1 (σ' := σ) hw hK1 hO1
  have hle := Fz25_le (σ := σ)
  refine aft_v ?_
  refine mw_istore i_157_1094 (ls' := [some (pR (some SC0)), some (pR (some RING)), some (pR (some MO)), some (pR (some OUT)), some (pI (nI i)), some (pI (nI (Fz25 σ).1)), u6]) rfl (Nat.le_of_ble_eq_true rfl) ?_
  refine mw_aload i_157_1095 (L := MO) rfl ?_
  refine mw_callV i_157_1096 mf_107 (as := []) (rest := []) (d' := d9) (b' := b + 54) (ls0 := [some (pR (some MO))]) rfl rfl rfl (Nat.le_of_ble_eq_true rfl) hMK1.1 rfl rfl rfl ?_
  refine mF25 (by omega) hMK1 hmv1 hw.1.2.2 hn ?_
  intro I2 hF2 h28 hm2 v2 hv2
  refine aft_v ?_
  refine mw_istore i_157_1097 (ls' := [some (pR (some SC0)), some (pR (some RING)), some (pR (some MO)), some (pR (some OUT)), some (pI (nI i)), some (pI (nI (Fz25 σ).1)), some (pI v2)]) rfl (Nat.le_of_ble_eq_true rfl) ?_
  refine mw_aload i_157_1098 (L := MO) rfl ?_
  refine mw_callV i_157_1099 mf_74 (as := []) (rest := []) (d' := d9) (b' := b + 54) (ls0 := [some (pR (some MO))]) rfl rfl rfl (Nat.le_of_ble_eq_true rfl) hMK1.1 rfl rfl rfl ?_
  refine m_thrown hMK1 ?_
  rw [h28]
  refine aft_v ?_
  refine mw_iload i_157_1100 (x := nI (Fz25 σ).1) rfl ?_
  refine mw_ic i_157_1101 (p := (nI (Fz25 σ).1) = (nI (Fz25 σ).1)) Iff.rfl (fun c1 => ?_) (fun c1 => ?_)
  · skip
    refine mw_iload i_157_1104 (x := nI (Fz25 σ).1) rfl ?_
    refine mw_if i_157_1105 (p := ¬ (nI (Fz25 σ).1) = nI 0) Iff.rfl (fun c2 => ?_) (fun c2 => ?_)
    · skip
      refine mw_goto i_157_1115 ?_
      exact q _ K1 I2 R1 _ _ _ (by omega) (WL_2 hW1 hMK1 hKO1 hK01 hx1 hF2 hm2)
    · skip
      have h0 : (Fz25 σ).1 = 0 := nI_inj (Classical.not_not.mp c2) (by omega) (by omega)
      refine mw_aload i_157_1106 (L := OUT) rfl ?_
      refine mw_const i_157_1107 (v := nI 0) (by decide) ?_
      refine mw_lald i_157_1108 (jn := 0) (n := 1) (by omega) (by omega) hKO1 (v := (Fz25 σ).2.1) (by rw [hF2 OUT (by decide) (by decide)]; exact ho1 h0) ?_
      refine mw_iload i_157_1109 (x := v2) rfl ?_
      refine mw_i2l i_157_1110 ?_
      refine mw_lcmp i_157_1111 (u := (Fz25 σ).2.1) (v := v2) (fun zx3 hzx3 => ?_)
      refine mw_if i_157_1112 (p := zx3 = nI 0) Iff.rfl (fun c4 => ?_) (fun c4 => ?_)
      · skip
        refine mw_goto i_157_1115 ?_
        exact q _ K1 I2 R1 _ _ _ (by omega) (WL_2 hW1 hMK1 hKO1 hK01 hx1 hF2 hm2)
      · skip
        exact absurd (hzx3.mpr (hv2 h0).symm) c4
  · skip
    exact absurd rfl c1
set_option maxRecDepth 20000 in
set_option maxHeartbeats 400000 in
theorem k_day0 {d b : Nat} {K : KM} {I : IM} {R : RM} {Q : QT} {n : Nat} {σ : ST} (hW : CW n σ K I R) (q : Q (.inl (some (pI (nI (dn σ))))) K I R) : Mw d b N_X5_day 0 [some (pR (some RING))] [] K I R Q := by
  have hS := hW.1.1
  refine mw_aload i_46_0 (L := RING) rfl ?_
  refine mw_get i_46_1 hS.1.1 (v := nI (dn σ)) (CW_d hW) ?_
  refine mw_iretI i_46_2 (x := nI (dn σ)) rt_46 ?_
  exact q
set_option maxRecDepth 20000 in
set_option maxHeartbeats 400000 in
theorem law_13 {d b : Nat} {K : KM} {I : IM} {R : RM} {Q : QT} {n i L : Nat} {σ : ST} {xs : Nat → Int32} {u5 u6 : Option PV} (hd : 20 ≤ d) (hn : n < 512) (hi8 : i + 8 ≤ L) (hL : L ≤ 4096) (hw : WL n σ xs L K I R)  (q : ∀ b' K' I' R' σ' u5 u6, b ≤ b' → WL (n + 1) σ' xs L K' I' R' → Mw d b' N_L_law 1116 [some (pR (some SC0)), some (pR (some RING)), some (pR (some MO)), some (pR (some OUT)), some (pI (nI i)), u5, u6] [] K' I' R' Q) : Mw d (b + 61) N_L_law 601 [some (pR (some SC0)), some (pR (some RING)), some (pR (some MO)), some (pR (some OUT)), some (pI (nI i)), u5, u6] [] K I R Q := by
  obtain ⟨d9, rfl⟩ : ∃ d9, d = d9 + 1 := ⟨d - 1, by omega⟩
  refine mw_aload i_157_601 (L := RING) rfl ?_
  refine mw_callV i_157_602 mf_46 (as := []) (rest := []) (d' := d9) (b' := b + 61) (ls0 := [some (pR (some RING))]) rfl rfl rfl (Nat.le_of_ble_eq_true rfl) hw.1.1.1.1.1 rfl rfl rfl ?_
  refine k_day0 hw.1 ?_
  refine aft_v ?_
  refine mw_aload i_157_603 (L := MO) rfl ?_
  refine mw_callV i_157_604 mf_116 (as := []) (rest := [pI (nI (dn σ))]) (d' := d9) (b' := b + 61) (ls0 := [some (pR (some MO))]) rfl rfl rfl (Nat.le_of_ble_eq_true rfl) hw.2.1.1 rfl rfl rfl ?_
  refine m_day hw.2.1 hw.2.2.1 hw.1.2.2 (fun I2 hF2 h28 hm2 v2 hv2 => ?_)
  refine aft_v ?_
  refine mw_ic i_157_605 (p := (nI (dn σ)) = v2) Iff.rfl (fun c1 => ?_) (fun c1 => ?_)
  · skip
    exact q _ K I2 R _ _ _ (by omega) (WL_2 (CW_up hw.1) hw.2.1 hw.2.2.2.1 hw.2.2.2.2.1 hw.2.2.2.2.2 hF2 hm2)
  · skip
    exact absurd hv2.symm c1
set_option maxRecDepth 20000 in
set_option maxHeartbeats 400000 in
theorem law_head {d b : Nat} {K : KM} {I : IM} {R : RM} {Q : QT} {n L : Nat} {σ : ST} {xs : Nat → Int32} {u5 u6 : Option PV} (hd : 20 ≤ d) (hn9 : n ≤ 512) (hL : L ≤ 4096) (hw : WL n σ xs L K I R)  (q : n < 512 → ∀ b' K' I' R' σ' u5 u6, b ≤ b' → WL (n + 1) σ' xs L K' I' R' → Mw d b' N_L_law 1116 [some (pR (some SC0)), some (pR (some RING)), some (pR (some MO)), some (pR (some OUT)), some (pI (nI (8 * n))), u5, u6] [] K' I' R' Q) (qe : Q (.inl (some (pI (nI 1)))) K I R) : Mw d (b + 61) N_L_law 13 [some (pR (some SC0)), some (pR (some RING)), some (pR (some MO)), some (pR (some OUT)), some (pI (nI (8 * n))), u5, u6] [] K I R Q := by
  obtain ⟨d9, rfl⟩ : ∃ d9, d = d9 + 1 := ⟨d - 1, by omega⟩
  have hK0 := hw.2.2.2.2.1
  have hx0 := hw.2.2.2.2.2
  refine mw_iload i_157_13 (x := nI (8 * n)) rfl ?_
  refine mw_aload i_157_14 (L := SC0) rfl ?_
  refine mw_alen i_157_15 (n := L) hK0 (by decide) ?_
  refine mw_const i_157_16 (v := nI 8) (by decide) ?_
  refine mw_isub i_157_17 (w := ((nI L) - (nI 8))) rfl ?_
  refine mw_ic i_157_18 (p := ((nI L) - (nI 8)) < (nI (8 * n))) Iff.rfl (fun c1 => ?_) (fun c1 => ?_)
  · skip
    refine mw_const i_157_1118 (v := nI 1) (by decide) ?_
    refine mw_iret i_157_1119 (x := nI 1) (fun _ => (by decide)) ?_
    exact qe
  · skip
    have hn : n < 512 := by
      have h9 := Int32.le_iff_toInt_le.mp (Int32.not_lt.mp c1)
      rw [nI_toInt (by omega), pk_sub_toInt (by omega) (by decide)] at h9
      omega
    have hlt : 8 * n < L := by
      have h9 := Int32.le_iff_toInt_le.mp (Int32.not_lt.mp c1)
      rw [nI_toInt (by omega), pk_sub_toInt (by omega) (by decide)] at h9
      omega
    refine mw_aload i_157_19 (L := SC0) rfl ?_
    refine mw_iload i_157_20 (x := nI (8 * n)) rfl ?_
    refine mw_iald i_157_21 (jn := 8 * n) (n := L) (by omega) (by omega) hK0 (by decide) (v := xs (8 * n)) (congrFun hx0 _) ?_
    refine mw_const i_157_22 (v := nI 31) (by decide) ?_
    refine mw_iand i_157_23 (w := ((xs (8 * n)) &&& (nI 31))) rfl ?_
    refine mw_sw_4 i_157_24 (fun c2 => ?_) (fun c3 => ?_) (fun c4 => ?_) (fun c5 => ?_) (fun c6 => ?_) (fun c7 => ?_) (fun c8 => ?_) (fun c9 => ?_) (fun c10 => ?_) (fun c11 => ?_) (fun c12 => ?_) (fun c13 => ?_) (fun c14 => ?_) (fun c15 => ?_) (fun c16 => ?_) (fun c17 => ?_) (fun c18 => ?_) (fun c19 => ?_) (fun c20 => ?_) (fun c21 => ?_) (fun c22 => ?_) (fun c23 => ?_) (fun c24 => ?_) (fun c25 => ?_) (fun c26 => ?_) (fun c27 => ?_) (fun c28 => ?_)
    · skip
      exact law_0 hd hn (by have h9 := Int32.le_iff_toInt_le.mp (Int32.not_lt.mp c1); rw [nI_toInt (by omega), pk_sub_toInt (by omega) (by decide)] at h9; omega) hL hw (q hn)
    · skip
      exact law_1 hd hn (by have h9 := Int32.le_iff_toInt_le.mp (Int32.not_lt.mp c1); rw [nI_toInt (by omega), pk_sub_toInt (by omega) (by decide)] at h9; omega) hL hw (q hn)
    · skip
      exact law_2 hd hn (by have h9 := Int32.le_iff_toInt_le.mp (Int32.not_lt.mp c1); rw [nI_toInt (by omega), pk_sub_toInt (by omega) (by decide)] at h9; omega) hL hw (q hn)
    · skip
      exact law_3 hd hn (by have h9 := Int32.le_iff_toInt_le.mp (Int32.not_lt.mp c1); rw [nI_toInt (by omega), pk_sub_toInt (by omega) (by decide)] at h9; omega) hL hw (q hn)
    · skip
      exact law_4 hd hn (by have h9 := Int32.le_iff_toInt_le.mp (Int32.not_lt.mp c1); rw [nI_toInt (by omega), pk_sub_toInt (by omega) (by decide)] at h9; omega) hL hw (q hn)
    · skip
      exact law_5 hd hn (by have h9 := Int32.le_iff_toInt_le.mp (Int32.not_lt.mp c1); rw [nI_toInt (by omega), pk_sub_toInt (by omega) (by decide)] at h9; omega) hL hw (q hn)
    · skip
      exact law_6 hd hn (by have h9 := Int32.le_iff_toInt_le.mp (Int32.not_lt.mp c1); rw [nI_toInt (by omega), pk_sub_toInt (by omega) (by decide)] at h9; omega) hL hw (q hn)
    · skip
      exact law_7 hd hn (by have h9 := Int32.le_iff_toInt_le.mp (Int32.not_lt.mp c1); rw [nI_toInt (by omega), pk_sub_toInt (by omega) (by decide)] at h9; omega) hL hw (q hn)
    · skip
      exact law_8 hd hn (by have h9 := Int32.le_iff_toInt_le.mp (Int32.not_lt.mp c1); rw [nI_toInt (by omega), pk_sub_toInt (by omega) (by decide)] at h9; omega) hL hw (q hn)
    · skip
      exact law_9 hd hn (by have h9 := Int32.le_iff_toInt_le.mp (Int32.not_lt.mp c1); rw [nI_toInt (by omega), pk_sub_toInt (by omega) (by decide)] at h9; omega) hL hw (q hn)
    · skip
      exact law_10 hd hn (by have h9 := Int32.le_iff_toInt_le.mp (Int32.not_lt.mp c1); rw [nI_toInt (by omega), pk_sub_toInt (by omega) (by decide)] at h9; omega) hL hw (q hn)
    · skip
      exact law_11 hd hn (by have h9 := Int32.le_iff_toInt_le.mp (Int32.not_lt.mp c1); rw [nI_toInt (by omega), pk_sub_toInt (by omega) (by decide)] at h9; omega) hL hw (q hn)
    · skip
      exact law_12 hd hn (by have h9 := Int32.le_iff_toInt_le.mp (Int32.not_lt.mp c1); rw [nI_toInt (by omega), pk_sub_toInt (by omega) (by decide)] at h9; omega) hL hw (q hn)
    · skip
      exact law_13 hd hn (by have h9 := Int32.le_iff_toInt_le.mp (Int32.not_lt.mp c1); rw [nI_toInt (by omega), pk_sub_toInt (by omega) (by decide)] at h9; omega) hL hw (q hn)
    · skip
      exact law_14 hd hn (by have h9 := Int32.le_iff_toInt_le.mp (Int32.not_lt.mp c1); rw [nI_toInt (by omega), pk_sub_toInt (by omega) (by decide)] at h9; omega) hL hw (q hn)
    · skip
      exact law_15 hd hn (by have h9 := Int32.le_iff_toInt_le.mp (Int32.not_lt.mp c1); rw [nI_toInt (by omega), pk_sub_toInt (by omega) (by decide)] at h9; omega) hL hw (q hn)
    · skip
      exact law_16 hd hn (by have h9 := Int32.le_iff_toInt_le.mp (Int32.not_lt.mp c1); rw [nI_toInt (by omega), pk_sub_toInt (by omega) (by decide)] at h9; omega) hL hw (q hn)
    · skip
      exact law_17 hd hn (by have h9 := Int32.le_iff_toInt_le.mp (Int32.not_lt.mp c1); rw [nI_toInt (by omega), pk_sub_toInt (by omega) (by decide)] at h9; omega) hL hw (q hn)
    · skip
      exact law_18 hd hn (by have h9 := Int32.le_iff_toInt_le.mp (Int32.not_lt.mp c1); rw [nI_toInt (by omega), pk_sub_toInt (by omega) (by decide)] at h9; omega) hL hw (q hn)
    · skip
      exact law_19 hd hn (by have h9 := Int32.le_iff_toInt_le.mp (Int32.not_lt.mp c1); rw [nI_toInt (by omega), pk_sub_toInt (by omega) (by decide)] at h9; omega) hL hw (q hn)
    · skip
      exact law_20 hd hn (by have h9 := Int32.le_iff_toInt_le.mp (Int32.not_lt.mp c1); rw [nI_toInt (by omega), pk_sub_toInt (by omega) (by decide)] at h9; omega) hL hw (q hn)
    · skip
      exact law_21 hd hn (by have h9 := Int32.le_iff_toInt_le.mp (Int32.not_lt.mp c1); rw [nI_toInt (by omega), pk_sub_toInt (by omega) (by decide)] at h9; omega) hL hw (q hn)
    · skip
      exact law_22 hd hn (by have h9 := Int32.le_iff_toInt_le.mp (Int32.not_lt.mp c1); rw [nI_toInt (by omega), pk_sub_toInt (by omega) (by decide)] at h9; omega) hL hw (q hn)
    · skip
      exact law_23 hd hn (by have h9 := Int32.le_iff_toInt_le.mp (Int32.not_lt.mp c1); rw [nI_toInt (by omega), pk_sub_toInt (by omega) (by decide)] at h9; omega) hL hw (q hn)
    · skip
      exact law_24 hd hn (by have h9 := Int32.le_iff_toInt_le.mp (Int32.not_lt.mp c1); rw [nI_toInt (by omega), pk_sub_toInt (by omega) (by decide)] at h9; omega) hL hw (q hn)
    · skip
      exact law_25 hd hn (by have h9 := Int32.le_iff_toInt_le.mp (Int32.not_lt.mp c1); rw [nI_toInt (by omega), pk_sub_toInt (by omega) (by decide)] at h9; omega) hL hw (q hn)
    · skip
      exact q hn _ K I R σ _ _ (by omega) ⟨CW_up hw.1, hw.2⟩
set_option maxRecDepth 20000 in
set_option maxHeartbeats 400000 in
theorem law_back {d b : Nat} {K : KM} {I : IM} {R : RM} {Q : QT} {n : Nat} {u5 u6 : Option PV}  (q : Mw d b N_L_law 13 [some (pR (some SC0)), some (pR (some RING)), some (pR (some MO)), some (pR (some OUT)), some (pI (nI (8 * (n + 1)))), u5, u6] [] K I R Q) : Mw d b N_L_law 1116 [some (pR (some SC0)), some (pR (some RING)), some (pR (some MO)), some (pR (some OUT)), some (pI (nI (8 * n))), u5, u6] [] K I R Q := by
  refine mw_iinc i_157_1116 (x := nI (8 * n)) (v := nI (8 * n + 8)) (ls' := [some (pR (some SC0)), some (pR (some RING)), some (pR (some MO)), some (pR (some OUT)), some (pI (nI (8 * n + 8))), u5, u6]) rfl (nI_add _ _) rfl ?_
  refine mw_goto i_157_1117 ?_
  rw [show 8 * n + 8 = 8 * (n + 1) by omega]
  exact q
theorem law_lp {d : Nat} {Q : QT} {L : Nat} {xs : Nat → Int32} (hd : 20 ≤ d) (hL : L ≤ 4096) (qe : ∀ K I R, Q (.inl (some (pI (nI 1)))) K I R) : ∀ (m n b : Nat) (σ : ST) (K : KM) (I : IM) (R : RM) (u5 u6 : Option PV), 513 - n < m → n ≤ 512 → 61 * (513 - n) ≤ b → WL n σ xs L K I R → Mw d b N_L_law 13 [some (pR (some SC0)), some (pR (some RING)), some (pR (some MO)), some (pR (some OUT)), some (pI (nI (8 * n))), u5, u6] [] K I R Q := by
  intro m
  induction m with
  | zero => intro n b σ K I R u5 u6 h; exact absurd h (Nat.not_lt_zero _)
  | succ m ih =>
    intro n b σ K I R u5 u6 hm hn hb hw
    obtain ⟨b2, rfl⟩ : ∃ b2, b = b2 + 61 := ⟨b - 61, by omega⟩
    exact law_head hd hn hL hw (fun hn5 b' K' I' R' σ' v5 v6 hb' hw' => law_back (ih (n + 1) b' σ' K' I' R' v5 v6 (by omega) (by omega) (by omega) hw')) (qe K I R)
