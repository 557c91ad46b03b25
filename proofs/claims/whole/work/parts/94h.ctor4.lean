/-! making the reference; the law from its start -/
/-- the reference's rows below n are made -/
def PMO (n : Nat) (K0 : KM) (I0 : IM) (R0 : RM) (K : KM) (I : IM) (R : RM) : Prop := (∀ L : Lb, L.1 ≠ 2 → L.1 ≠ 3 → K L = K0 L ∧ I L = I0 L ∧ R L = R0 L) ∧ K MO = some (6, 0) ∧ I MO = (fun _ => 0) ∧ (∀ k, k < n → mal k ≠ 0 → R MO k = some (MA k) ∧ K (MA k) = some (mak k, mal k) ∧ I (MA k) = fun _ => 0) ∧ ∀ k, n ≤ k → K (MA k) = none
theorem PMO_step {n k m : Nat} {K0 K K1 : KM} {I0 I I1 : IM} {R0 R R1 R2 : RM} (h : PMO n K0 I0 R0 K I R) (hk : n ≤ k) (hz : ∀ j, n ≤ j → j < k → mal j = 0) (hm : m = k + 1) (eK : K1 = setK K (MA k) (mak k, mal k)) (eI : I1 = setI I (MA k) (fun _ => 0)) (eR : R1 = setR R (MA k) (fun _ => none)) (e2 : R2 = up2R R1 MO k (some (MA k))) : PMO m K0 I0 R0 K1 I1 R2 := by
  obtain ⟨h1, h2, h3, h4, h5⟩ := h
  have rmo : R1 MO = R MO := by rw [eR, setR_ne (by simp)]
  refine ⟨fun L a b => ?_, by rw [eK, setK_ne (by simp)]; exact h2, by rw [eI, setI_ne (by simp)]; exact h3, fun j hj hj0 => ?_, fun j hj => by rw [eK, setK_ne (by simp; omega)]; exact h5 j (by omega)⟩
  · have q : L ≠ MA k := fun e => b (by rw [e])
    have q2 : L ≠ MO := fun e => a (by rw [e])
    rw [eK, eI, e2, eR, setK_ne q, setI_ne q, up2R_ne q2, setR_ne q]
    exact h1 L a b
  · by_cases e : j = k
    · subst e
      exact ⟨by rw [e2, up2R_is], by rw [eK, setK_at], by rw [eI, setI_at]⟩
    · have hjn : j < n := by
        rcases Nat.lt_or_ge j n with q | q
        · exact q
        · exact absurd (hz j q (by omega)) hj0
      obtain ⟨p1, p2, p3⟩ := h4 j hjn hj0
      exact ⟨by rw [e2, up2R_slot e, rmo]; exact p1, by rw [eK, setK_ne (by simp [e])]; exact p2, by rw [eI, setI_ne (by simp [e])]; exact p3⟩
set_option maxRecDepth 20000 in
set_option maxHeartbeats 400000 in
theorem m_init {d b : Nat} {K : KM} {I : IM} {R : RM} {Q : QT} {K0 : KM} {I0 : IM} {R0 : RM} (hd : 1 ≤ d) (hP : PMO 1 K0 I0 R0 K I R) (q : ∀ K' I' R', PMO 27 K0 I0 R0 K' I' R' → Q (.inl none) K' I' R') : Mw d (b + 60000) N_X6_init 0 [some (pR (some MO))] [] K I R Q := by
  refine mw_aload i_73_0 (L := MO) rfl ?_
  refine mw_obj i_73_1 (Nat.le_of_ble_eq_true rfl) (by omega) ?_
  refine mw_aload i_73_2 (L := MO) rfl ?_
  refine mw_const i_73_3 (v := nI 10) (by decide) ?_
  obtain ⟨K21, eK21⟩ : ∃ K21, K21 = setK K (MA 1) (7, 10) := ⟨_, rfl⟩
  obtain ⟨I21, eI21⟩ : ∃ I21, I21 = setI I (MA 1) (fun _ => 0) := ⟨_, rfl⟩
  obtain ⟨R21, eR21⟩ : ∃ R21, R21 = setR R (MA 1) (fun _ => none) := ⟨_, rfl⟩
  refine mw_newa i_73_4 (MA 1) (hP.2.2.2.2 1 (by decide)) (by decide) (b' := b + 59989) (by first | rfl | omega) eK21.symm eI21.symm eR21.symm ?_
  obtain ⟨R22, eR22⟩ : ∃ R22, R22 = up2R R21 MO 1 (some (MA 1)) := ⟨_, rfl⟩
  refine mw_putR i_73_5 (by rw [eK21, setK_ne (by simp)]; exact hP.2.1) (R' := R22) eR22.symm ?_
  have hP1 := PMO_step (k := 1) (m := 2) hP (by decide) (fun j h1 h2 => by exfalso; omega) rfl eK21 eI21 eR21 eR22
  refine mw_aload i_73_6 (L := MO) rfl ?_
  refine mw_const i_73_7 (v := nI 10) (by decide) ?_
  obtain ⟨K23, eK23⟩ : ∃ K23, K23 = setK K21 (MA 2) (7, 10) := ⟨_, rfl⟩
  obtain ⟨I23, eI23⟩ : ∃ I23, I23 = setI I21 (MA 2) (fun _ => 0) := ⟨_, rfl⟩
  obtain ⟨R23, eR23⟩ : ∃ R23, R23 = setR R22 (MA 2) (fun _ => none) := ⟨_, rfl⟩
  refine mw_newa i_73_8 (MA 2) (hP1.2.2.2.2 2 (by decide)) (by decide) (b' := b + 59978) (by first | rfl | omega) eK23.symm eI23.symm eR23.symm ?_
  obtain ⟨R24, eR24⟩ : ∃ R24, R24 = up2R R23 MO 2 (some (MA 2)) := ⟨_, rfl⟩
  refine mw_putR i_73_9 (by rw [eK23, setK_ne (by simp)]; exact hP1.2.1) (R' := R24) eR24.symm ?_
  have hP2 := PMO_step (k := 2) (m := 3) hP1 (by decide) (fun j h1 h2 => by exfalso; omega) rfl eK23 eI23 eR23 eR24
  refine mw_aload i_73_10 (L := MO) rfl ?_
  refine mw_const i_73_11 (v := nI 10) (by decide) ?_
  obtain ⟨K25, eK25⟩ : ∃ K25, K25 = setK K23 (MA 3) (7, 10) := ⟨_, rfl⟩
  obtain ⟨I25, eI25⟩ : ∃ I25, I25 = setI I23 (MA 3) (fun _ => 0) := ⟨_, rfl⟩
  obtain ⟨R25, eR25⟩ : ∃ R25, R25 = setR R24 (MA 3) (fun _ => none) := ⟨_, rfl⟩
  refine mw_newa i_73_12 (MA 3) (hP2.2.2.2.2 3 (by decide)) (by decide) (b' := b + 59967) (by first | rfl | omega) eK25.symm eI25.symm eR25.symm ?_
  obtain ⟨R26, eR26⟩ : ∃ R26, R26 = up2R R25 MO 3 (some (MA 3)) := ⟨_, rfl⟩
  refine mw_putR i_73_13 (by rw [eK25, setK_ne (by simp)]; exact hP2.2.1) (R' := R26) eR26.symm ?_
  have hP3 := PMO_step (k := 3) (m := 4) hP2 (by decide) (fun j h1 h2 => by exfalso; omega) rfl eK25 eI25 eR25 eR26
  refine mw_aload i_73_14 (L := MO) rfl ?_
  refine mw_const i_73_15 (v := nI 40) (by decide) ?_
  obtain ⟨K27, eK27⟩ : ∃ K27, K27 = setK K25 (MA 4) (7, 40) := ⟨_, rfl⟩
  obtain ⟨I27, eI27⟩ : ∃ I27, I27 = setI I25 (MA 4) (fun _ => 0) := ⟨_, rfl⟩
  obtain ⟨R27, eR27⟩ : ∃ R27, R27 = setR R26 (MA 4) (fun _ => none) := ⟨_, rfl⟩
  refine mw_newa i_73_16 (MA 4) (hP3.2.2.2.2 4 (by decide)) (by decide) (b' := b + 59926) (by first | rfl | omega) eK27.symm eI27.symm eR27.symm ?_
  obtain ⟨R28, eR28⟩ : ∃ R28, R28 = up2R R27 MO 4 (some (MA 4)) := ⟨_, rfl⟩
  refine mw_putR i_73_17 (by rw [eK27, setK_ne (by simp)]; exact hP3.2.1) (R' := R28) eR28.symm ?_
  have hP4 := PMO_step (k := 4) (m := 5) hP3 (by decide) (fun j h1 h2 => by exfalso; omega) rfl eK27 eI27 eR27 eR28
  refine mw_aload i_73_18 (L := MO) rfl ?_
  refine mw_const i_73_19 (v := nI 10) (by decide) ?_
  obtain ⟨K29, eK29⟩ : ∃ K29, K29 = setK K27 (MA 5) (7, 10) := ⟨_, rfl⟩
  obtain ⟨I29, eI29⟩ : ∃ I29, I29 = setI I27 (MA 5) (fun _ => 0) := ⟨_, rfl⟩
  obtain ⟨R29, eR29⟩ : ∃ R29, R29 = setR R28 (MA 5) (fun _ => none) := ⟨_, rfl⟩
  refine mw_newa i_73_20 (MA 5) (hP4.2.2.2.2 5 (by decide)) (by decide) (b' := b + 59915) (by first | rfl | omega) eK29.symm eI29.symm eR29.symm ?_
  obtain ⟨R30, eR30⟩ : ∃ R30, R30 = up2R R29 MO 5 (some (MA 5)) := ⟨_, rfl⟩
  refine mw_putR i_73_21 (by rw [eK29, setK_ne (by simp)]; exact hP4.2.1) (R' := R30) eR30.symm ?_
  have hP5 := PMO_step (k := 5) (m := 6) hP4 (by decide) (fun j h1 h2 => by exfalso; omega) rfl eK29 eI29 eR29 eR30
  refine mw_aload i_73_22 (L := MO) rfl ?_
  refine mw_const i_73_23 (v := nI 10) (by decide) ?_
  obtain ⟨K31, eK31⟩ : ∃ K31, K31 = setK K29 (MA 6) (7, 10) := ⟨_, rfl⟩
  obtain ⟨I31, eI31⟩ : ∃ I31, I31 = setI I29 (MA 6) (fun _ => 0) := ⟨_, rfl⟩
  obtain ⟨R31, eR31⟩ : ∃ R31, R31 = setR R30 (MA 6) (fun _ => none) := ⟨_, rfl⟩
  refine mw_newa i_73_24 (MA 6) (hP5.2.2.2.2 6 (by decide)) (by decide) (b' := b + 59904) (by first | rfl | omega) eK31.symm eI31.symm eR31.symm ?_
  obtain ⟨R32, eR32⟩ : ∃ R32, R32 = up2R R31 MO 6 (some (MA 6)) := ⟨_, rfl⟩
  refine mw_putR i_73_25 (by rw [eK31, setK_ne (by simp)]; exact hP5.2.1) (R' := R32) eR32.symm ?_
  have hP6 := PMO_step (k := 6) (m := 7) hP5 (by decide) (fun j h1 h2 => by exfalso; omega) rfl eK31 eI31 eR31 eR32
  refine mw_aload i_73_26 (L := MO) rfl ?_
  refine mw_const i_73_27 (v := nI 10) (by decide) ?_
  obtain ⟨K33, eK33⟩ : ∃ K33, K33 = setK K31 (MA 7) (7, 10) := ⟨_, rfl⟩
  obtain ⟨I33, eI33⟩ : ∃ I33, I33 = setI I31 (MA 7) (fun _ => 0) := ⟨_, rfl⟩
  obtain ⟨R33, eR33⟩ : ∃ R33, R33 = setR R32 (MA 7) (fun _ => none) := ⟨_, rfl⟩
  refine mw_newa i_73_28 (MA 7) (hP6.2.2.2.2 7 (by decide)) (by decide) (b' := b + 59893) (by first | rfl | omega) eK33.symm eI33.symm eR33.symm ?_
  obtain ⟨R34, eR34⟩ : ∃ R34, R34 = up2R R33 MO 7 (some (MA 7)) := ⟨_, rfl⟩
  refine mw_putR i_73_29 (by rw [eK33, setK_ne (by simp)]; exact hP6.2.1) (R' := R34) eR34.symm ?_
  have hP7 := PMO_step (k := 7) (m := 8) hP6 (by decide) (fun j h1 h2 => by exfalso; omega) rfl eK33 eI33 eR33 eR34
  refine mw_aload i_73_30 (L := MO) rfl ?_
  refine mw_const i_73_31 (v := nI 10) (by decide) ?_
  obtain ⟨K35, eK35⟩ : ∃ K35, K35 = setK K33 (MA 8) (7, 10) := ⟨_, rfl⟩
  obtain ⟨I35, eI35⟩ : ∃ I35, I35 = setI I33 (MA 8) (fun _ => 0) := ⟨_, rfl⟩
  obtain ⟨R35, eR35⟩ : ∃ R35, R35 = setR R34 (MA 8) (fun _ => none) := ⟨_, rfl⟩
  refine mw_newa i_73_32 (MA 8) (hP7.2.2.2.2 8 (by decide)) (by decide) (b' := b + 59882) (by first | rfl | omega) eK35.symm eI35.symm eR35.symm ?_
  obtain ⟨R36, eR36⟩ : ∃ R36, R36 = up2R R35 MO 8 (some (MA 8)) := ⟨_, rfl⟩
  refine mw_putR i_73_33 (by rw [eK35, setK_ne (by simp)]; exact hP7.2.1) (R' := R36) eR36.symm ?_
  have hP8 := PMO_step (k := 8) (m := 9) hP7 (by decide) (fun j h1 h2 => by exfalso; omega) rfl eK35 eI35 eR35 eR36
  refine mw_aload i_73_34 (L := MO) rfl ?_
  refine mw_const i_73_35 (v := nI 10) (by decide) ?_
  obtain ⟨K37, eK37⟩ : ∃ K37, K37 = setK K35 (MA 9) (7, 10) := ⟨_, rfl⟩
  obtain ⟨I37, eI37⟩ : ∃ I37, I37 = setI I35 (MA 9) (fun _ => 0) := ⟨_, rfl⟩
  obtain ⟨R37, eR37⟩ : ∃ R37, R37 = setR R36 (MA 9) (fun _ => none) := ⟨_, rfl⟩
  refine mw_newa i_73_36 (MA 9) (hP8.2.2.2.2 9 (by decide)) (by decide) (b' := b + 59871) (by first | rfl | omega) eK37.symm eI37.symm eR37.symm ?_
  obtain ⟨R38, eR38⟩ : ∃ R38, R38 = up2R R37 MO 9 (some (MA 9)) := ⟨_, rfl⟩
  refine mw_putR i_73_37 (by rw [eK37, setK_ne (by simp)]; exact hP8.2.1) (R' := R38) eR38.symm ?_
  have hP9 := PMO_step (k := 9) (m := 10) hP8 (by decide) (fun j h1 h2 => by exfalso; omega) rfl eK37 eI37 eR37 eR38
  refine mw_aload i_73_38 (L := MO) rfl ?_
  refine mw_const i_73_39 (v := nI 10) (by decide) ?_
  obtain ⟨K39, eK39⟩ : ∃ K39, K39 = setK K37 (MA 10) (8, 10) := ⟨_, rfl⟩
  obtain ⟨I39, eI39⟩ : ∃ I39, I39 = setI I37 (MA 10) (fun _ => 0) := ⟨_, rfl⟩
  obtain ⟨R39, eR39⟩ : ∃ R39, R39 = setR R38 (MA 10) (fun _ => none) := ⟨_, rfl⟩
  refine mw_newa i_73_40 (MA 10) (hP9.2.2.2.2 10 (by decide)) (by decide) (b' := b + 59860) (by first | rfl | omega) eK39.symm eI39.symm eR39.symm ?_
  obtain ⟨R40, eR40⟩ : ∃ R40, R40 = up2R R39 MO 10 (some (MA 10)) := ⟨_, rfl⟩
  refine mw_putR i_73_41 (by rw [eK39, setK_ne (by simp)]; exact hP9.2.1) (R' := R40) eR40.symm ?_
  have hP10 := PMO_step (k := 10) (m := 11) hP9 (by decide) (fun j h1 h2 => by exfalso; omega) rfl eK39 eI39 eR39 eR40
  refine mw_aload i_73_42 (L := MO) rfl ?_
  refine mw_const i_73_43 (v := nI 100) (by decide) ?_
  obtain ⟨K41, eK41⟩ : ∃ K41, K41 = setK K39 (MA 11) (7, 100) := ⟨_, rfl⟩
  obtain ⟨I41, eI41⟩ : ∃ I41, I41 = setI I39 (MA 11) (fun _ => 0) := ⟨_, rfl⟩
  obtain ⟨R41, eR41⟩ : ∃ R41, R41 = setR R40 (MA 11) (fun _ => none) := ⟨_, rfl⟩
  refine mw_newa i_73_44 (MA 11) (hP10.2.2.2.2 11 (by decide)) (by decide) (b' := b + 59759) (by first | rfl | omega) eK41.symm eI41.symm eR41.symm ?_
  obtain ⟨R42, eR42⟩ : ∃ R42, R42 = up2R R41 MO 11 (some (MA 11)) := ⟨_, rfl⟩
  refine mw_putR i_73_45 (by rw [eK41, setK_ne (by simp)]; exact hP10.2.1) (R' := R42) eR42.symm ?_
  have hP11 := PMO_step (k := 11) (m := 12) hP10 (by decide) (fun j h1 h2 => by exfalso; omega) rfl eK41 eI41 eR41 eR42
  refine mw_aload i_73_46 (L := MO) rfl ?_
  refine mw_const i_73_47 (v := nI 10) (by decide) ?_
  obtain ⟨K43, eK43⟩ : ∃ K43, K43 = setK K41 (MA 12) (7, 10) := ⟨_, rfl⟩
  obtain ⟨I43, eI43⟩ : ∃ I43, I43 = setI I41 (MA 12) (fun _ => 0) := ⟨_, rfl⟩
  obtain ⟨R43, eR43⟩ : ∃ R43, R43 = setR R42 (MA 12) (fun _ => none) := ⟨_, rfl⟩
  refine mw_newa i_73_48 (MA 12) (hP11.2.2.2.2 12 (by decide)) (by decide) (b' := b + 59748) (by first | rfl | omega) eK43.symm eI43.symm eR43.symm ?_
  obtain ⟨R44, eR44⟩ : ∃ R44, R44 = up2R R43 MO 12 (some (MA 12)) := ⟨_, rfl⟩
  refine mw_putR i_73_49 (by rw [eK43, setK_ne (by simp)]; exact hP11.2.1) (R' := R44) eR44.symm ?_
  have hP12 := PMO_step (k := 12) (m := 13) hP11 (by decide) (fun j h1 h2 => by exfalso; omega) rfl eK43 eI43 eR43 eR44
  refine mw_aload i_73_50 (L := MO) rfl ?_
  refine mw_const i_73_51 (v := nI 100) (by decide) ?_
  obtain ⟨K45, eK45⟩ : ∃ K45, K45 = setK K43 (MA 13) (7, 100) := ⟨_, rfl⟩
  obtain ⟨I45, eI45⟩ : ∃ I45, I45 = setI I43 (MA 13) (fun _ => 0) := ⟨_, rfl⟩
  obtain ⟨R45, eR45⟩ : ∃ R45, R45 = setR R44 (MA 13) (fun _ => none) := ⟨_, rfl⟩
  refine mw_newa i_73_52 (MA 13) (hP12.2.2.2.2 13 (by decide)) (by decide) (b' := b + 59647) (by first | rfl | omega) eK45.symm eI45.symm eR45.symm ?_
  obtain ⟨R46, eR46⟩ : ∃ R46, R46 = up2R R45 MO 13 (some (MA 13)) := ⟨_, rfl⟩
  refine mw_putR i_73_53 (by rw [eK45, setK_ne (by simp)]; exact hP12.2.1) (R' := R46) eR46.symm ?_
  have hP13 := PMO_step (k := 13) (m := 14) hP12 (by decide) (fun j h1 h2 => by exfalso; omega) rfl eK45 eI45 eR45 eR46
  refine mw_aload i_73_54 (L := MO) rfl ?_
  refine mw_const i_73_55 (v := nI 8000) (by decide) ?_
  obtain ⟨K47, eK47⟩ : ∃ K47, K47 = setK K45 (MA 15) (7, 8000) := ⟨_, rfl⟩
  obtain ⟨I47, eI47⟩ : ∃ I47, I47 = setI I45 (MA 15) (fun _ => 0) := ⟨_, rfl⟩
  obtain ⟨R47, eR47⟩ : ∃ R47, R47 = setR R46 (MA 15) (fun _ => none) := ⟨_, rfl⟩
  refine mw_newa i_73_56 (MA 15) (hP13.2.2.2.2 15 (by decide)) (by decide) (b' := b + 51646) (by first | rfl | omega) eK47.symm eI47.symm eR47.symm ?_
  obtain ⟨R48, eR48⟩ : ∃ R48, R48 = up2R R47 MO 15 (some (MA 15)) := ⟨_, rfl⟩
  refine mw_putR i_73_57 (by rw [eK47, setK_ne (by simp)]; exact hP13.2.1) (R' := R48) eR48.symm ?_
  have hP15 := PMO_step (k := 15) (m := 16) hP13 (by decide) (fun j h1 h2 => by rw [show j = 14 by omega]; rfl) rfl eK47 eI47 eR47 eR48
  refine mw_aload i_73_58 (L := MO) rfl ?_
  refine mw_const i_73_59 (v := nI 8000) (by decide) ?_
  obtain ⟨K49, eK49⟩ : ∃ K49, K49 = setK K47 (MA 16) (7, 8000) := ⟨_, rfl⟩
  obtain ⟨I49, eI49⟩ : ∃ I49, I49 = setI I47 (MA 16) (fun _ => 0) := ⟨_, rfl⟩
  obtain ⟨R49, eR49⟩ : ∃ R49, R49 = setR R48 (MA 16) (fun _ => none) := ⟨_, rfl⟩
  refine mw_newa i_73_60 (MA 16) (hP15.2.2.2.2 16 (by decide)) (by decide) (b' := b + 43645) (by first | rfl | omega) eK49.symm eI49.symm eR49.symm ?_
  obtain ⟨R50, eR50⟩ : ∃ R50, R50 = up2R R49 MO 16 (some (MA 16)) := ⟨_, rfl⟩
  refine mw_putR i_73_61 (by rw [eK49, setK_ne (by simp)]; exact hP15.2.1) (R' := R50) eR50.symm ?_
  have hP16 := PMO_step (k := 16) (m := 17) hP15 (by decide) (fun j h1 h2 => by exfalso; omega) rfl eK49 eI49 eR49 eR50
  refine mw_aload i_73_62 (L := MO) rfl ?_
  refine mw_const i_73_63 (v := nI 4) (by decide) ?_
  obtain ⟨K51, eK51⟩ : ∃ K51, K51 = setK K49 (MA 17) (7, 4) := ⟨_, rfl⟩
  obtain ⟨I51, eI51⟩ : ∃ I51, I51 = setI I49 (MA 17) (fun _ => 0) := ⟨_, rfl⟩
  obtain ⟨R51, eR51⟩ : ∃ R51, R51 = setR R50 (MA 17) (fun _ => none) := ⟨_, rfl⟩
  refine mw_newa i_73_64 (MA 17) (hP16.2.2.2.2 17 (by decide)) (by decide) (b' := b + 43640) (by first | rfl | omega) eK51.symm eI51.symm eR51.symm ?_
  obtain ⟨R52, eR52⟩ : ∃ R52, R52 = up2R R51 MO 17 (some (MA 17)) := ⟨_, rfl⟩
  refine mw_putR i_73_65 (by rw [eK51, setK_ne (by simp)]; exact hP16.2.1) (R' := R52) eR52.symm ?_
  have hP17 := PMO_step (k := 17) (m := 18) hP16 (by decide) (fun j h1 h2 => by exfalso; omega) rfl eK51 eI51 eR51 eR52
  refine mw_aload i_73_66 (L := MO) rfl ?_
  refine mw_const i_73_67 (v := nI 36000) (by decide) ?_
  obtain ⟨K53, eK53⟩ : ∃ K53, K53 = setK K51 (MA 19) (7, 36000) := ⟨_, rfl⟩
  obtain ⟨I53, eI53⟩ : ∃ I53, I53 = setI I51 (MA 19) (fun _ => 0) := ⟨_, rfl⟩
  obtain ⟨R53, eR53⟩ : ∃ R53, R53 = setR R52 (MA 19) (fun _ => none) := ⟨_, rfl⟩
  refine mw_newa i_73_68 (MA 19) (hP17.2.2.2.2 19 (by decide)) (by decide) (b' := b + 7639) (by first | rfl | omega) eK53.symm eI53.symm eR53.symm ?_
  obtain ⟨R54, eR54⟩ : ∃ R54, R54 = up2R R53 MO 19 (some (MA 19)) := ⟨_, rfl⟩
  refine mw_putR i_73_69 (by rw [eK53, setK_ne (by simp)]; exact hP17.2.1) (R' := R54) eR54.symm ?_
  have hP19 := PMO_step (k := 19) (m := 20) hP17 (by decide) (fun j h1 h2 => by rw [show j = 18 by omega]; rfl) rfl eK53 eI53 eR53 eR54
  refine mw_aload i_73_70 (L := MO) rfl ?_
  refine mw_const i_73_71 (v := nI 1000) (by decide) ?_
  obtain ⟨K55, eK55⟩ : ∃ K55, K55 = setK K53 (MA 20) (7, 1000) := ⟨_, rfl⟩
  obtain ⟨I55, eI55⟩ : ∃ I55, I55 = setI I53 (MA 20) (fun _ => 0) := ⟨_, rfl⟩
  obtain ⟨R55, eR55⟩ : ∃ R55, R55 = setR R54 (MA 20) (fun _ => none) := ⟨_, rfl⟩
  refine mw_newa i_73_72 (MA 20) (hP19.2.2.2.2 20 (by decide)) (by decide) (b' := b + 6638) (by first | rfl | omega) eK55.symm eI55.symm eR55.symm ?_
  obtain ⟨R56, eR56⟩ : ∃ R56, R56 = up2R R55 MO 20 (some (MA 20)) := ⟨_, rfl⟩
  refine mw_putR i_73_73 (by rw [eK55, setK_ne (by simp)]; exact hP19.2.1) (R' := R56) eR56.symm ?_
  have hP20 := PMO_step (k := 20) (m := 21) hP19 (by decide) (fun j h1 h2 => by exfalso; omega) rfl eK55 eI55 eR55 eR56
  refine mw_aload i_73_74 (L := MO) rfl ?_
  refine mw_const i_73_75 (v := nI 1000) (by decide) ?_
  obtain ⟨K57, eK57⟩ : ∃ K57, K57 = setK K55 (MA 21) (7, 1000) := ⟨_, rfl⟩
  obtain ⟨I57, eI57⟩ : ∃ I57, I57 = setI I55 (MA 21) (fun _ => 0) := ⟨_, rfl⟩
  obtain ⟨R57, eR57⟩ : ∃ R57, R57 = setR R56 (MA 21) (fun _ => none) := ⟨_, rfl⟩
  refine mw_newa i_73_76 (MA 21) (hP20.2.2.2.2 21 (by decide)) (by decide) (b' := b + 5637) (by first | rfl | omega) eK57.symm eI57.symm eR57.symm ?_
  obtain ⟨R58, eR58⟩ : ∃ R58, R58 = up2R R57 MO 21 (some (MA 21)) := ⟨_, rfl⟩
  refine mw_putR i_73_77 (by rw [eK57, setK_ne (by simp)]; exact hP20.2.1) (R' := R58) eR58.symm ?_
  have hP21 := PMO_step (k := 21) (m := 22) hP20 (by decide) (fun j h1 h2 => by exfalso; omega) rfl eK57 eI57 eR57 eR58
  refine mw_aload i_73_78 (L := MO) rfl ?_
  refine mw_const i_73_79 (v := nI 1000) (by decide) ?_
  obtain ⟨K59, eK59⟩ : ∃ K59, K59 = setK K57 (MA 22) (8, 1000) := ⟨_, rfl⟩
  obtain ⟨I59, eI59⟩ : ∃ I59, I59 = setI I57 (MA 22) (fun _ => 0) := ⟨_, rfl⟩
  obtain ⟨R59, eR59⟩ : ∃ R59, R59 = setR R58 (MA 22) (fun _ => none) := ⟨_, rfl⟩
  refine mw_newa i_73_80 (MA 22) (hP21.2.2.2.2 22 (by decide)) (by decide) (b' := b + 4636) (by first | rfl | omega) eK59.symm eI59.symm eR59.symm ?_
  obtain ⟨R60, eR60⟩ : ∃ R60, R60 = up2R R59 MO 22 (some (MA 22)) := ⟨_, rfl⟩
  refine mw_putR i_73_81 (by rw [eK59, setK_ne (by simp)]; exact hP21.2.1) (R' := R60) eR60.symm ?_
  have hP22 := PMO_step (k := 22) (m := 23) hP21 (by decide) (fun j h1 h2 => by exfalso; omega) rfl eK59 eI59 eR59 eR60
  refine mw_aload i_73_82 (L := MO) rfl ?_
  refine mw_const i_73_83 (v := nI 4) (by decide) ?_
  obtain ⟨K61, eK61⟩ : ∃ K61, K61 = setK K59 (MA 23) (7, 4) := ⟨_, rfl⟩
  obtain ⟨I61, eI61⟩ : ∃ I61, I61 = setI I59 (MA 23) (fun _ => 0) := ⟨_, rfl⟩
  obtain ⟨R61, eR61⟩ : ∃ R61, R61 = setR R60 (MA 23) (fun _ => none) := ⟨_, rfl⟩
  refine mw_newa i_73_84 (MA 23) (hP22.2.2.2.2 23 (by decide)) (by decide) (b' := b + 4631) (by first | rfl | omega) eK61.symm eI61.symm eR61.symm ?_
  obtain ⟨R62, eR62⟩ : ∃ R62, R62 = up2R R61 MO 23 (some (MA 23)) := ⟨_, rfl⟩
  refine mw_putR i_73_85 (by rw [eK61, setK_ne (by simp)]; exact hP22.2.1) (R' := R62) eR62.symm ?_
  have hP23 := PMO_step (k := 23) (m := 24) hP22 (by decide) (fun j h1 h2 => by exfalso; omega) rfl eK61 eI61 eR61 eR62
  refine mw_aload i_73_86 (L := MO) rfl ?_
  refine mw_const i_73_87 (v := nI 4) (by decide) ?_
  obtain ⟨K63, eK63⟩ : ∃ K63, K63 = setK K61 (MA 24) (7, 4) := ⟨_, rfl⟩
  obtain ⟨I63, eI63⟩ : ∃ I63, I63 = setI I61 (MA 24) (fun _ => 0) := ⟨_, rfl⟩
  obtain ⟨R63, eR63⟩ : ∃ R63, R63 = setR R62 (MA 24) (fun _ => none) := ⟨_, rfl⟩
  refine mw_newa i_73_88 (MA 24) (hP23.2.2.2.2 24 (by decide)) (by decide) (b' := b + 4626) (by first | rfl | omega) eK63.symm eI63.symm eR63.symm ?_
  obtain ⟨R64, eR64⟩ : ∃ R64, R64 = up2R R63 MO 24 (some (MA 24)) := ⟨_, rfl⟩
  refine mw_putR i_73_89 (by rw [eK63, setK_ne (by simp)]; exact hP23.2.1) (R' := R64) eR64.symm ?_
  have hP24 := PMO_step (k := 24) (m := 25) hP23 (by decide) (fun j h1 h2 => by exfalso; omega) rfl eK63 eI63 eR63 eR64
  refine mw_aload i_73_90 (L := MO) rfl ?_
  refine mw_const i_73_91 (v := nI 4) (by decide) ?_
  obtain ⟨K65, eK65⟩ : ∃ K65, K65 = setK K63 (MA 25) (7, 4) := ⟨_, rfl⟩
  obtain ⟨I65, eI65⟩ : ∃ I65, I65 = setI I63 (MA 25) (fun _ => 0) := ⟨_, rfl⟩
  obtain ⟨R65, eR65⟩ : ∃ R65, R65 = setR R64 (MA 25) (fun _ => none) := ⟨_, rfl⟩
  refine mw_newa i_73_92 (MA 25) (hP24.2.2.2.2 25 (by decide)) (by decide) (b' := b + 4621) (by first | rfl | omega) eK65.symm eI65.symm eR65.symm ?_
  obtain ⟨R66, eR66⟩ : ∃ R66, R66 = up2R R65 MO 25 (some (MA 25)) := ⟨_, rfl⟩
  refine mw_putR i_73_93 (by rw [eK65, setK_ne (by simp)]; exact hP24.2.1) (R' := R66) eR66.symm ?_
  have hP25 := PMO_step (k := 25) (m := 26) hP24 (by decide) (fun j h1 h2 => by exfalso; omega) rfl eK65 eI65 eR65 eR66
  refine mw_aload i_73_94 (L := MO) rfl ?_
  refine mw_const i_73_95 (v := nI 4) (by decide) ?_
  obtain ⟨K67, eK67⟩ : ∃ K67, K67 = setK K65 (MA 26) (7, 4) := ⟨_, rfl⟩
  obtain ⟨I67, eI67⟩ : ∃ I67, I67 = setI I65 (MA 26) (fun _ => 0) := ⟨_, rfl⟩
  obtain ⟨R67, eR67⟩ : ∃ R67, R67 = setR R66 (MA 26) (fun _ => none) := ⟨_, rfl⟩
  refine mw_newa i_73_96 (MA 26) (hP25.2.2.2.2 26 (by decide)) (by decide) (b' := b + 4616) (by first | rfl | omega) eK67.symm eI67.symm eR67.symm ?_
  obtain ⟨R68, eR68⟩ : ∃ R68, R68 = up2R R67 MO 26 (some (MA 26)) := ⟨_, rfl⟩
  refine mw_putR i_73_97 (by rw [eK67, setK_ne (by simp)]; exact hP25.2.1) (R' := R68) eR68.symm ?_
  have hP26 := PMO_step (k := 26) (m := 27) hP25 (by decide) (fun j h1 h2 => by exfalso; omega) rfl eK67 eI67 eR67 eR68
  refine mw_ret i_73_98 ?_
  exact q _ _ _ hP26
theorem PMO_MK {K0 K : KM} {I0 I : IM} {R0 R : RM} (h : PMO 27 K0 I0 R0 K I R) : MK K R ∧ mv I = sg0 := by
  refine ⟨⟨h.2.1, fun k hk => ?_⟩, ?_⟩
  · have hk27 : k < 27 := by
      rcases Nat.lt_or_ge k 27 with q | q
      · exact q
      · exfalso
        apply hk
        unfold mal
        rcases Nat.lt_or_ge k 29 with q2 | q2
        · rcases (show k = 27 ∨ k = 28 by omega) with rfl | rfl <;> rfl
        · rw [List.getD_eq_getElem?_getD, List.getElem?_eq_none (by simpa using q2)]; rfl
    obtain ⟨a, b, -⟩ := h.2.2.2.1 k hk27 hk
    exact ⟨a, b⟩
  · funext k j
    unfold mv sg0
    by_cases e : k = 0 ∨ k = 14 ∨ k = 18
    · rw [if_pos e, h.2.2.1]
    · rw [if_neg e]
      by_cases e2 : k < 24
      · rw [if_pos e2]
        have hm : mal k ≠ 0 := by
          have : ∀ k, k < 24 → ¬ (k = 0 ∨ k = 14 ∨ k = 18) → mal k ≠ 0 := by decide
          exact this k e2 e
        rw [(h.2.2.2.1 k (by omega) hm).2.2]
      · rw [if_neg e2]
theorem CW_hi {n : Nat} {σ : ST} {K K' : KM} {I I' : IM} {R R' : RM} (h : CW n σ K I R) (e : ∀ L : Lb, 4 ≤ L.1 → K' L = K L ∧ I' L = I L ∧ R' L = R L) : CW n σ K' I' R' := by
  obtain ⟨⟨⟨⟨a1, a2, a3, a4, a5, a6, a7⟩, ⟨b1, b2, b3, b4, b5⟩, hw, ht, hm⟩, hn, hc⟩, hR, hV⟩ := h
  have ep : ∀ c, pm R' c = pm R c := fun c => by funext j; unfold pm; rw [(e (MM c) (by show 4 ≤ 20; decide)).2.2]
  have co : ∀ c, CO K R c → CO K' R' c := fun c q => by
    obtain ⟨q1, q2, q3, q4, q5, q6⟩ := q
    unfold CO
    rw [ep]
    have A := e (CA c) (by show 4 ≤ 19; decide)
    have B := e (MM c) (by show 4 ≤ 20; decide)
    exact ⟨by rw [A.1]; exact q1, by rw [A.2.2]; exact q2, by rw [B.1]; exact q3, fun j hj => by rw [(e (MT c j) (by show 4 ≤ 21; decide)).1]; exact q4 j hj, fun j hj => ⟨(q5 j hj).1, by rw [B.2.2]; exact (q5 j hj).2⟩, q6⟩
  have r := e RING (by decide)
  have crd := e CRD (by decide)
  have men := e MEN (by decide)
  refine ⟨⟨⟨⟨by rw [r.1]; exact a1, by rw [r.2.2]; exact a2, by rw [r.2.2]; exact a3, by rw [r.2.2]; exact a4, by rw [r.2.2]; exact a5, by rw [r.2.2]; exact a6, by rw [r.2.2]; exact a7⟩, ⟨by rw [(e ROS (by decide)).1]; exact b1, by rw [(e TIT (by decide)).1]; exact b2, by rw [crd.1]; exact b3, by rw [(e GAT (by decide)).1]; exact b4, by rw [men.1]; exact b5⟩, fun w q => ?_, fun t q => ?_, fun k q => ?_⟩, co _ hn, fun c q => ?_⟩, ?_, hV⟩
  · obtain ⟨w0, w1, w2, w3, w4, w5, w6, w7⟩ := hw w q
    have A := e (WR w) (by show 4 ≤ 12; decide)
    exact ⟨by rw [(e ROS (by decide)).2.2]; exact w0, by rw [A.1]; exact w1, by rw [A.2.2]; exact w2, by rw [A.2.2]; exact w3, by rw [A.2.2]; exact w4, by rw [(e (LV w) (by show 4 ≤ 13; decide)).1]; exact w5, by rw [(e (CD w) (by show 4 ≤ 14; decide)).1]; exact w6, by rw [(e (WA w) (by show 4 ≤ 15; decide)).1]; exact w7⟩
  · obtain ⟨t0, t1, t2, t3, t4, t5⟩ := ht t q
    have A := e (TT t) (by show 4 ≤ 16; decide)
    exact ⟨by rw [(e TIT (by decide)).2.2]; exact t0, by rw [A.1]; exact t1, by rw [A.2.2]; exact t2, by rw [A.2.2]; exact t3, by rw [(e (TH t) (by show 4 ≤ 17; decide)).1]; exact t4, by rw [(e (TD t) (by show 4 ≤ 18; decide)).1]; exact t5⟩
  · exact ⟨by rw [men.2.2]; exact (hm k q).1, by rw [(e (MN k) (by show 4 ≤ 10; decide)).1]; exact (hm k q).2⟩
  · rw [crd.2.2]
    rcases hc c q with ⟨h1, h2, h3, h4⟩ | ⟨h1, h2⟩
    · exact Or.inl ⟨h1, by rw [(e (CA c) (by show 4 ≤ 19; decide)).1]; exact h2, by rw [(e (MM c) (by show 4 ≤ 20; decide)).1]; exact h3, fun j => by rw [(e (MT c j) (by show 4 ≤ 21; decide)).1]; exact h4 j⟩
    · exact Or.inr ⟨h1, co c h2⟩
  · obtain ⟨q1, q2, q3, q4, q5, q6⟩ := hR
    have hI : ∀ L : Lb, 4 ≤ L.1 → I' L = I L := fun L h => (e L h).2.1
    refine ⟨by rw [hI RING (by decide)]; exact q1, fun t h => by rw [hI GAT (by decide)]; exact q2 t h, fun w h => ?_, fun t h => ?_, by rw [hI (CA 1000) (by decide)]; exact q5, fun d h => ?_⟩
    · have := q3 w h
      unfold RCw at *
      rw [hI (WR w) (by show 4 ≤ 12; decide), hI (LV w) (by show 4 ≤ 13; decide), hI (CD w) (by show 4 ≤ 14; decide), hI (WA w) (by show 4 ≤ 15; decide)]
      unfold prO at *
      rw [hI (WR w) (by show 4 ≤ 12; decide)]
      exact this
    · have := q4 t h
      unfold RCt at *
      rw [hI (TT t) (by show 4 ≤ 16; decide), hI (TH t) (by show 4 ≤ 17; decide), hI (TD t) (by show 4 ≤ 18; decide)]
      exact this
    · have := q6 d h
      unfold RCc at *
      rw [crd.2.2, hI (CA d) (by show 4 ≤ 19; decide), ep]
      rcases this with h1 | ⟨h1, h2, h3, h4, h5⟩
      · exact Or.inl h1
      · refine Or.inr ⟨h1, h2, h3, h4, fun j hj => ?_⟩
        have := h5 j hj
        unfold RCm at *
        rw [hI _ (by show 4 ≤ 21; decide)]
        exact this
set_option maxRecDepth 20000 in
set_option maxHeartbeats 400000 in
theorem law_all {d b : Nat} {K : KM} {I : IM} {R : RM} {Q : QT} {L : Nat} {xs : Nat → Int32} (hd : 30 ≤ d) (hL : L ≤ 4096) (hk00 : K (0, 0, 0) = some (14, L)) (hkn : ∀ q, q ≠ (0, 0, 0) → K q = none) (hi00 : I (0, 0, 0) = xs) (qe : ∀ K I R, Q (.inl (some (pI (nI 1)))) K I R) : Mw d (b + 601000) N_L_law 0 [some (pR (some SC0)), none, none, none, none, none, none] [] K I R Q := by
  obtain ⟨d9, rfl⟩ : ∃ d9, d = d9 + 1 := ⟨d - 1, by omega⟩
  obtain ⟨K21, eK21⟩ : ∃ K21, K21 = setK K RING (5, 0) := ⟨_, rfl⟩
  obtain ⟨I21, eI21⟩ : ∃ I21, I21 = setI I RING (fun _ => 0) := ⟨_, rfl⟩
  obtain ⟨R21, eR21⟩ : ∃ R21, R21 = setR R RING (fun _ => none) := ⟨_, rfl⟩
  refine mw_new i_157_0 (RING) (hkn _ (by simp)) (b' := b + 600990) (by first | rfl | omega) eK21.symm eI21.symm eR21.symm ?_
  refine mw_dup i_157_1 trivial ?_
  have hk0 : K21 RING = some (5, 0) := by rw [eK21, setK_at]
  have hi0 : I21 RING = fun _ => 0 := by rw [eI21, setI_at]
  have hfr : ∀ L : Lb, 5 ≤ L.1 → K21 L = none := fun L h5 => by rw [eK21, setK_ne (fun e => by subst e; exact absurd h5 (by decide))]; exact hkn _ (fun e => by subst e; exact absurd h5 (by decide))
  refine mw_callI i_157_2 mf_32 (as := []) (rest := [pR (some RING)]) (d' := d9) (b' := b + 594990) (ls0 := [some (pR (some RING)), none]) rfl rfl rfl (Nat.le_of_ble_eq_true rfl) hk0 rfl (by omega) rfl ?_
  refine k_Rinit (b := 0) (by omega) hk0 hi0 hfr (fun K1 I1 R1 hRS hWP hTP => ?_)
  have hs0 : K1 (0, 0, 0) = some (14, L) ∧ I1 (0, 0, 0) = xs := by
    obtain ⟨z1, z2, -⟩ := hRS.1 (0, 0, 0) (by decide)
    rw [z1, z2, eK21, eI21, setK_ne (by simp), setI_ne (by simp)]
    exact ⟨hk00, hi00⟩
  have hmo0 : ∀ L : Lb, L.1 < 4 → L ≠ (0, 0, 0) → K1 L = none := fun L h4 hn => by
    rw [(hRS.1 L h4).1, eK21, setK_ne (fun e => by subst e; exact absurd h4 (by decide))]
    exact hkn _ hn
  have hmo : K1 MO = none := hmo0 _ (by decide) (by decide)
  refine ⟨⟨_, rfl⟩, aft_n ?_⟩
  refine mw_astore i_157_3 (ls' := [some (pR (some SC0)), some (pR (some RING)), none, none, none, none, none]) rfl (Nat.le_of_ble_eq_true rfl) ?_
  obtain ⟨K22, eK22⟩ : ∃ K22, K22 = setK K1 MO (6, 0) := ⟨_, rfl⟩
  obtain ⟨I22, eI22⟩ : ∃ I22, I22 = setI I1 MO (fun _ => 0) := ⟨_, rfl⟩
  obtain ⟨R22, eR22⟩ : ∃ R22, R22 = setR R1 MO (fun _ => none) := ⟨_, rfl⟩
  refine mw_new i_157_4 (MO) hmo (b' := b + 594960) (by first | rfl | omega) eK22.symm eI22.symm eR22.symm ?_
  refine mw_dup i_157_5 trivial ?_
  have hPM : PMO 1 K22 I22 R22 K22 I22 R22 := ⟨fun L _ _ => ⟨rfl, rfl, rfl⟩, by rw [eK22, setK_at], by rw [eI22, setI_at], fun k hk hk0 => absurd (by rw [show k = 0 by omega]; rfl) hk0, fun k _ => by rw [eK22, setK_ne (by simp)]; exact hmo0 _ (by show 3 < 4; decide) (by simp)⟩
  refine mw_callI i_157_6 mf_73 (as := []) (rest := [pR (some MO)]) (d' := d9) (b' := b + 534960) (ls0 := [some (pR (some MO))]) rfl rfl rfl (Nat.le_of_ble_eq_true rfl) hPM.2.1 rfl (by omega) rfl ?_
  refine m_init (b := 0) (by omega) hPM (fun K2 I2 R2 hP2 => ?_)
  have hfr2 : ∀ L : Lb, L.1 ≠ 2 → L.1 ≠ 3 → K2 L = K1 L ∧ I2 L = I1 L ∧ R2 L = R1 L := fun L a b => by
    obtain ⟨z1, z2, z3⟩ := hP2.1 L a b
    have q : L ≠ MO := fun e => a (by rw [e])
    rw [z1, z2, z3, eK22, eI22, eR22, setK_ne q, setI_ne q, setR_ne q]
    exact ⟨rfl, rfl, rfl⟩
  have hout : K2 OUT = none := by rw [(hfr2 OUT (by decide) (by decide)).1]; exact hmo0 _ (by decide) (by decide)
  refine ⟨⟨_, rfl⟩, aft_n ?_⟩
  refine mw_astore i_157_7 (ls' := [some (pR (some SC0)), some (pR (some RING)), some (pR (some MO)), none, none, none, none]) rfl (Nat.le_of_ble_eq_true rfl) ?_
  refine mw_const i_157_8 (v := nI 1) (by decide) ?_
  obtain ⟨K23, eK23⟩ : ∃ K23, K23 = setK K2 OUT (13, 1) := ⟨_, rfl⟩
  obtain ⟨I23, eI23⟩ : ∃ I23, I23 = setI I2 OUT (fun _ => 0) := ⟨_, rfl⟩
  obtain ⟨R23, eR23⟩ : ∃ R23, R23 = setR R2 OUT (fun _ => none) := ⟨_, rfl⟩
  refine mw_newa i_157_9 (OUT) hout (by decide) (b' := b + 534958) (by first | rfl | omega) eK23.symm eI23.symm eR23.symm ?_
  refine mw_astore i_157_10 (ls' := [some (pR (some SC0)), some (pR (some RING)), some (pR (some MO)), some (pR (some OUT)), none, none, none]) rfl (Nat.le_of_ble_eq_true rfl) ?_
  refine mw_const i_157_11 (v := nI 0) (by decide) ?_
  refine mw_istore i_157_12 (ls' := [some (pR (some SC0)), some (pR (some RING)), some (pR (some MO)), some (pR (some OUT)), some (pI (nI 0)), none, none]) rfl (Nat.le_of_ble_eq_true rfl) ?_
  have hfr3 : ∀ L : Lb, L.1 ≠ 1 → K23 L = K2 L ∧ I23 L = I2 L ∧ R23 L = R2 L := fun L a => by
    have q : L ≠ OUT := fun e => a (by rw [e])
    rw [eK23, eI23, eR23, setK_ne q, setI_ne q, setR_ne q]
    exact ⟨rfl, rfl, rfl⟩
  obtain ⟨hMK, hmv⟩ := PMO_MK hP2
  have hW1 := CW_0 hRS hWP hTP
  have hall : ∀ L : Lb, 4 ≤ L.1 → K23 L = K1 L ∧ I23 L = I1 L ∧ R23 L = R1 L := fun L h => by
    obtain ⟨z1, z2, z3⟩ := hfr3 L (by omega)
    obtain ⟨y1, y2, y3⟩ := hfr2 L (by omega) (by omega)
    exact ⟨z1.trans y1, z2.trans y2, z3.trans y3⟩
  have hW2 : CW 0 sg0 K23 I23 R23 := CW_hi hW1 hall
  have hw : WL 0 sg0 xs L K23 I23 R23 := by
    refine ⟨hW2, ⟨by rw [(hfr3 MO (by decide)).1]; exact hMK.1, fun k hk => ⟨by rw [(hfr3 MO (by decide)).2.2]; exact (hMK.2 k hk).1, by rw [(hfr3 (MA k) (by show 3 ≠ 1; decide)).1]; exact (hMK.2 k hk).2⟩⟩, ?_, by rw [eK23, setK_at], ?_, ?_⟩
    · rw [← hmv]
      funext k j
      unfold mv
      rw [(hfr3 MO (by decide)).2.1, (hfr3 (MA k) (by show 3 ≠ 1; decide)).2.1]
    · rw [(hfr3 (0, 0, 0) (by decide)).1, (hfr2 (0, 0, 0) (by decide) (by decide)).1]; exact hs0.1
    · rw [(hfr3 (0, 0, 0) (by decide)).2.1, (hfr2 (0, 0, 0) (by decide) (by decide)).2.1]; exact hs0.2
  exact law_lp (by omega) hL qe 514 0 _ sg0 K23 I23 R23 none none (by decide) (by decide) (by omega) hw
