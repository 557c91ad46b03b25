/-! the reference: what it tells -/
set_option maxRecDepth 20000 in
set_option maxHeartbeats 400000 in
theorem m_love {d b : Nat} {K : KM} {I : IM} {R : RM} {Q : QT} {n0 : Nat} {σ : ST} {town : Int32} {w : Int32} (hd : 2 ≤ d) (hM : MK K R) (hm : mv I = σ) (hV : IV n0 σ)  (q1 : ¬ (isN town 4 ∧ isN w (pn σ)) → ∀ I', FrM I I' → I' MO 28 = nI 1 → mv I' = σ → Q (.inl (some (pI (nI 0)))) K I' R) (q0 : ∀ t x, t < 4 → x < pn σ → town = nI t → w = nI x → ∀ I', FrM I I' → I' MO 28 = nI 0 → mv I' = σ → ∀ v, v = σ 4 (10 * t + x) → Q (.inl (some (pI v))) K I' R) : Mw d b N_X6_love 0 [some (pR (some MO)), some (pI town), some (pI w)] [] K I R Q := by
  obtain ⟨d9, rfl⟩ : ∃ d9, d = d9 + 1 := ⟨d - 1, by omega⟩
  have hpp := hV.1.2
  have htt := hV.2.1.2
  have hdd := hV.2.2.1.2
  refine mw_aload i_119_0 (L := MO) rfl ?_
  have J1 : Mw (d9 + 1) b 119 11 [some (pR (some MO)), some (pI town), some (pI w)] [pI (bI (isN town 4 ∧ isN w (pn σ))), pR (some MO)] K I R Q := by
    refine mw_const i_119_11 (v := nI 1) (by decide) ?_
    refine mw_const i_119_12 (v := nI 1) (by decide) ?_
    refine mw_callV i_119_13 mf_76 (as := [pI (bI (isN town 4 ∧ isN w (pn σ))), pI (nI 1), pI (nI 1)]) (rest := []) (d' := d9) (b' := b) (ls0 := [some (pR (some MO)), some (pI (bI (isN town 4 ∧ isN w (pn σ)))), some (pI (nI 1)), some (pI (nI 1))]) rfl rfl rfl (Nat.le_of_ble_eq_true rfl) (MK_o hM) rfl rfl rfl ?_
    refine m_goes hM ?_
    rw [show gz (bI (isN town 4 ∧ isN w (pn σ))) (nI 1) (nI 1) = gn (isN town 4 ∧ isN w (pn σ)) True True from by unfold gn; rw [bI_T]]
    obtain ⟨Ig2, eIg2⟩ : ∃ Ig2, Ig2 = up2 I MO 28 (nI (gn (isN town 4 ∧ isN w (pn σ)) True True)) := ⟨_, rfl⟩
    rw [← eIg2]
    refine aft_v ?_
    refine mw_eqB i_119_14 rfl (fun c3 => ?_) (fun c3 => ?_)
    · skip
      refine mw_const i_119_24 (v := nI 0) (by decide) ?_
      refine mw_iretI i_119_25 (x := nI 0) rt_119 ?_
      have h28 : Ig2 MO 28 = nI (gn (isN town 4 ∧ isN w (pn σ)) True True) := by rw [eIg2, up2_at, upd_at]
      have hmv : mv Ig2 = σ := by rw [eIg2, mv_o (by decide), hm]
      have hfr : FrM I Ig2 := (eIg2.symm ▸ FrM_up (FrM_rfl) (by decide))
      by_cases p19 : isN town 4 ∧ isN w (pn σ)
      rotate_left
      · exact q1 p19 Ig2 hfr (h28.trans (by rw [gn_1 p19])) hmv
      exact absurd (gn_t p19 trivial trivial) c3
    · skip
      obtain ⟨p1, p2, p3⟩ := gn_0.mp c3
      obtain ⟨⟨x, hx, rfl⟩, ⟨y, hy, rfl⟩⟩ := p1
      refine mw_aload i_119_15 (L := MO) rfl ?_
      refine mw_getR i_119_16 (MK_o hM) (q := some (MA 4)) (MK_r hM 4 (by decide)) ?_
      refine mw_const i_119_17 (v := nI 10) (by decide) ?_
      refine mw_iload i_119_18 (x := nI x) rfl ?_
      refine mw_imul i_119_19 (w := nI (10 * x)) (pk_mul _ _) ?_
      refine mw_iload i_119_20 (x := nI y) rfl ?_
      refine mw_iadd i_119_21 (w := nI (10 * x + y)) (nI_add _ _) ?_
      refine mw_iald i_119_22 (jn := 10 * x + y) (n := 40) (by omega) (by omega) (show K (MA 4) = some (7, 40) from MK_k hM 4 (by decide)) (by decide) (v := σ 4 (10 * x + y)) (by rw [eIg2, up2_ne (by simp)]; exact (rm hm (by decide) (10 * x + y))) ?_
      refine mw_goto i_119_23 ?_
      refine mw_iretI i_119_25 (x := σ 4 (10 * x + y)) rt_119 ?_
      exact q0 _ _ (by assumption) (by assumption) rfl rfl _ ((eIg2.symm ▸ FrM_up (FrM_rfl) (by decide))) (by rw [eIg2, up2_at, upd_at, c3]) (by rw [eIg2, mv_o (by decide), hm]) _ rfl
  refine mw_iload i_119_1 (x := town) rfl ?_
  refine mw_callS i_119_2 mf_77 (as := [pI town]) (rest := [pR (some MO)]) (d' := d9) (b' := b) (ls0 := [some (pI town)]) rfl rfl rfl (Nat.le_of_ble_eq_true rfl) rfl rfl rfl ?_
  refine m_isTown (by omega) ?_
  refine aft_v ?_
  refine mw_eqB i_119_3 rfl (fun c4 => ?_) (fun c4 => ?_)
  · skip
    refine mw_const i_119_10 (v := nI 0) (by decide) ?_
    rw [show nI 0 = bI (isN town 4 ∧ isN w (pn σ)) from (bI_f (fun h => c4 h.1)).symm]
    exact J1
  · skip
    refine mw_aload i_119_4 (L := MO) rfl ?_
    refine mw_iload i_119_5 (x := w) rfl ?_
    refine mw_callV i_119_6 mf_78 (as := [pI w]) (rest := [pR (some MO)]) (d' := d9) (b' := b) (ls0 := [some (pR (some MO)), some (pI w)]) rfl rfl rfl (Nat.le_of_ble_eq_true rfl) (MK_o hM) rfl rfl rfl ?_
    refine m_isOne (by omega) hM ((rs hm (by decide)).trans hV.1.1) hpp ?_
    refine aft_v ?_
    refine mw_eqB i_119_7 rfl (fun c5 => ?_) (fun c5 => ?_)
    · skip
      refine mw_const i_119_10 (v := nI 0) (by decide) ?_
      rw [show nI 0 = bI (isN town 4 ∧ isN w (pn σ)) from (bI_f (fun h => c5 h.2)).symm]
      exact J1
    · skip
      refine mw_const i_119_8 (v := nI 1) (by decide) ?_
      refine mw_goto i_119_9 ?_
      rw [show nI 1 = bI (isN town 4 ∧ isN w (pn σ)) from (bI_t (⟨c4, c5⟩)).symm]
      exact J1
set_option maxRecDepth 20000 in
set_option maxHeartbeats 400000 in
theorem m_worthP {d b : Nat} {K : KM} {I : IM} {R : RM} {Q : QT} {n0 : Nat} {σ : ST} {town : Int32} {w : Int32} (hd : 2 ≤ d) (hM : MK K R) (hm : mv I = σ) (hV : IV n0 σ)  (q1 : ¬ (isN town 4 ∧ isN w (pn σ)) → ∀ I', FrM I I' → I' MO 28 = nI 1 → mv I' = σ → Q (.inl (some (pI (nI 0)))) K I' R) (q0 : ∀ t x, t < 4 → x < pn σ → town = nI t → w = nI x → ∀ I', FrM I I' → I' MO 28 = nI 0 → mv I' = σ → ∀ v, v = wrt σ t x → Q (.inl (some (pI v))) K I' R) : Mw d b N_X6_worth 0 [some (pR (some MO)), some (pI town), some (pI w)] [] K I R Q := by
  obtain ⟨d9, rfl⟩ : ∃ d9, d = d9 + 1 := ⟨d - 1, by omega⟩
  have hpp := hV.1.2
  have htt := hV.2.1.2
  have hdd := hV.2.2.1.2
  refine mw_aload i_120_0 (L := MO) rfl ?_
  have J1 : Mw (d9 + 1) b 120 11 [some (pR (some MO)), some (pI town), some (pI w)] [pI (bI (isN town 4 ∧ isN w (pn σ))), pR (some MO)] K I R Q := by
    refine mw_const i_120_11 (v := nI 1) (by decide) ?_
    refine mw_const i_120_12 (v := nI 1) (by decide) ?_
    refine mw_callV i_120_13 mf_76 (as := [pI (bI (isN town 4 ∧ isN w (pn σ))), pI (nI 1), pI (nI 1)]) (rest := []) (d' := d9) (b' := b) (ls0 := [some (pR (some MO)), some (pI (bI (isN town 4 ∧ isN w (pn σ)))), some (pI (nI 1)), some (pI (nI 1))]) rfl rfl rfl (Nat.le_of_ble_eq_true rfl) (MK_o hM) rfl rfl rfl ?_
    refine m_goes hM ?_
    rw [show gz (bI (isN town 4 ∧ isN w (pn σ))) (nI 1) (nI 1) = gn (isN town 4 ∧ isN w (pn σ)) True True from by unfold gn; rw [bI_T]]
    obtain ⟨Ig2, eIg2⟩ : ∃ Ig2, Ig2 = up2 I MO 28 (nI (gn (isN town 4 ∧ isN w (pn σ)) True True)) := ⟨_, rfl⟩
    rw [← eIg2]
    refine aft_v ?_
    refine mw_eqB i_120_14 rfl (fun c3 => ?_) (fun c3 => ?_)
    · skip
      refine mw_const i_120_20 (v := nI 0) (by decide) ?_
      refine mw_iretI i_120_21 (x := nI 0) rt_120 ?_
      have h28 : Ig2 MO 28 = nI (gn (isN town 4 ∧ isN w (pn σ)) True True) := by rw [eIg2, up2_at, upd_at]
      have hmv : mv Ig2 = σ := by rw [eIg2, mv_o (by decide), hm]
      have hfr : FrM I Ig2 := (eIg2.symm ▸ FrM_up (FrM_rfl) (by decide))
      by_cases p19 : isN town 4 ∧ isN w (pn σ)
      rotate_left
      · exact q1 p19 Ig2 hfr (h28.trans (by rw [gn_1 p19])) hmv
      exact absurd (gn_t p19 trivial trivial) c3
    · skip
      obtain ⟨p1, p2, p3⟩ := gn_0.mp c3
      obtain ⟨⟨x, hx, rfl⟩, ⟨y, hy, rfl⟩⟩ := p1
      refine mw_aload i_120_15 (L := MO) rfl ?_
      refine mw_iload i_120_16 (x := nI x) rfl ?_
      refine mw_iload i_120_17 (x := nI y) rfl ?_
      have hmg : mv Ig2 = σ := by rw [eIg2, mv_o (by decide), hm]
      refine mw_callV i_120_18 mf_110 (as := [pI (nI x), pI (nI y)]) (rest := []) (d' := d9) (b' := b) (ls0 := [some (pR (some MO)), some (pI (nI x)), some (pI (nI y)), none, none]) rfl rfl rfl (Nat.le_of_ble_eq_true rfl) (MK_o hM) rfl rfl rfl ?_
      refine m_worth hM hmg (by omega) (by omega) ?_
      refine aft_v ?_
      refine mw_goto i_120_19 ?_
      refine mw_iretI i_120_21 (x := wrt σ x y) rt_120 ?_
      exact q0 _ _ (by assumption) (by assumption) rfl rfl _ ((eIg2.symm ▸ FrM_up (FrM_rfl) (by decide))) (by rw [eIg2, up2_at, upd_at, c3]) (by rw [eIg2, mv_o (by decide), hm]) _ rfl
  refine mw_iload i_120_1 (x := town) rfl ?_
  refine mw_callS i_120_2 mf_77 (as := [pI town]) (rest := [pR (some MO)]) (d' := d9) (b' := b) (ls0 := [some (pI town)]) rfl rfl rfl (Nat.le_of_ble_eq_true rfl) rfl rfl rfl ?_
  refine m_isTown (by omega) ?_
  refine aft_v ?_
  refine mw_eqB i_120_3 rfl (fun c4 => ?_) (fun c4 => ?_)
  · skip
    refine mw_const i_120_10 (v := nI 0) (by decide) ?_
    rw [show nI 0 = bI (isN town 4 ∧ isN w (pn σ)) from (bI_f (fun h => c4 h.1)).symm]
    exact J1
  · skip
    refine mw_aload i_120_4 (L := MO) rfl ?_
    refine mw_iload i_120_5 (x := w) rfl ?_
    refine mw_callV i_120_6 mf_78 (as := [pI w]) (rest := [pR (some MO)]) (d' := d9) (b' := b) (ls0 := [some (pR (some MO)), some (pI w)]) rfl rfl rfl (Nat.le_of_ble_eq_true rfl) (MK_o hM) rfl rfl rfl ?_
    refine m_isOne (by omega) hM ((rs hm (by decide)).trans hV.1.1) hpp ?_
    refine aft_v ?_
    refine mw_eqB i_120_7 rfl (fun c5 => ?_) (fun c5 => ?_)
    · skip
      refine mw_const i_120_10 (v := nI 0) (by decide) ?_
      rw [show nI 0 = bI (isN town 4 ∧ isN w (pn σ)) from (bI_f (fun h => c5 h.2)).symm]
      exact J1
    · skip
      refine mw_const i_120_8 (v := nI 1) (by decide) ?_
      refine mw_goto i_120_9 ?_
      rw [show nI 1 = bI (isN town 4 ∧ isN w (pn σ)) from (bI_t (⟨c4, c5⟩)).symm]
      exact J1
set_option maxRecDepth 20000 in
set_option maxHeartbeats 400000 in
theorem m_champP {d b : Nat} {K : KM} {I : IM} {R : RM} {Q : QT} {n0 : Nat} {σ : ST} {t : Int32} (hd : 2 ≤ d) (hM : MK K R) (hm : mv I = σ) (hV : IV n0 σ) (hn9 : n0 ≤ 512) (q1 : ¬ (isN t (tn σ)) → ∀ I', FrM I I' → I' MO 28 = nI 1 → mv I' = σ → Q (.inl (some (pI (nI 0)))) K I' R) (q0 : ∀ x, x < tn σ → t = nI x → ∀ I', FrM I I' → I' MO 28 = nI 0 → mv I' = σ → ∀ v, v = chO σ x → Q (.inl (some (pI v))) K I' R) : Mw d b N_X6_champion 0 [some (pR (some MO)), some (pI t)] [] K I R Q := by
  obtain ⟨d9, rfl⟩ : ∃ d9, d = d9 + 1 := ⟨d - 1, by omega⟩
  have hpp := hV.1.2
  have htt := hV.2.1.2
  have hdd := hV.2.2.1.2
  refine mw_aload i_124_0 (L := MO) rfl ?_
  refine mw_aload i_124_1 (L := MO) rfl ?_
  refine mw_iload i_124_2 (x := t) rfl ?_
  refine mw_callV i_124_3 mf_79 (as := [pI t]) (rest := [pR (some MO)]) (d' := d9) (b' := b) (ls0 := [some (pR (some MO)), some (pI t)]) rfl rfl rfl (Nat.le_of_ble_eq_true rfl) (MK_o hM) rfl rfl rfl ?_
  refine m_isTitle (by omega) hM ((rs hm (by decide)).trans hV.2.1.1) htt ?_
  refine aft_v ?_
  refine mw_const i_124_4 (v := nI 1) (by decide) ?_
  refine mw_const i_124_5 (v := nI 1) (by decide) ?_
  refine mw_callV i_124_6 mf_76 (as := [pI (bI (isN t (tn σ))), pI (nI 1), pI (nI 1)]) (rest := []) (d' := d9) (b' := b) (ls0 := [some (pR (some MO)), some (pI (bI (isN t (tn σ)))), some (pI (nI 1)), some (pI (nI 1))]) rfl rfl rfl (Nat.le_of_ble_eq_true rfl) (MK_o hM) rfl rfl rfl ?_
  refine m_goes hM ?_
  rw [show gz (bI (isN t (tn σ))) (nI 1) (nI 1) = gn (isN t (tn σ)) True True from by unfold gn; rw [bI_T]]
  obtain ⟨Ig1, eIg1⟩ : ∃ Ig1, Ig1 = up2 I MO 28 (nI (gn (isN t (tn σ)) True True)) := ⟨_, rfl⟩
  rw [← eIg1]
  refine aft_v ?_
  refine mw_eqB i_124_7 rfl (fun c2 => ?_) (fun c2 => ?_)
  · skip
    refine mw_const i_124_12 (v := nI 0) (by decide) ?_
    refine mw_iretI i_124_13 (x := nI 0) rt_124 ?_
    have h28 : Ig1 MO 28 = nI (gn (isN t (tn σ)) True True) := by rw [eIg1, up2_at, upd_at]
    have hmv : mv Ig1 = σ := by rw [eIg1, mv_o (by decide), hm]
    have hfr : FrM I Ig1 := (eIg1.symm ▸ FrM_up (FrM_rfl) (by decide))
    by_cases p19 : isN t (tn σ)
    rotate_left
    · exact q1 p19 Ig1 hfr (h28.trans (by rw [gn_1 p19])) hmv
    exact absurd (gn_t p19 trivial trivial) c2
  · skip
    obtain ⟨p1, p2, p3⟩ := gn_0.mp c2
    obtain ⟨x, hx, rfl⟩ := p1
    refine mw_aload i_124_8 (L := MO) rfl ?_
    refine mw_iload i_124_9 (x := nI x) rfl ?_
    have hmg : mv Ig1 = σ := by rw [eIg1, mv_o (by decide), hm]
    refine mw_callV i_124_10 mf_88 (as := [pI (nI x)]) (rest := []) (d' := d9) (b' := b) (ls0 := [some (pR (some MO)), some (pI (nI x))]) rfl rfl rfl (Nat.le_of_ble_eq_true rfl) (MK_o hM) rfl rfl rfl ?_
    refine m_champ hM hmg hV (by omega) hn9 ?_
    refine aft_v ?_
    refine mw_goto i_124_11 ?_
    refine mw_iretI i_124_13 (x := chO σ x) rt_124 ?_
    exact q0 _ (by assumption) rfl _ ((eIg1.symm ▸ FrM_up (FrM_rfl) (by decide))) (by rw [eIg1, up2_at, upd_at, c2]) (by rw [eIg1, mv_o (by decide), hm]) _ rfl
set_option maxRecDepth 20000 in
set_option maxHeartbeats 400000 in
theorem m_gate {d b : Nat} {K : KM} {I : IM} {R : RM} {Q : QT} {n0 : Nat} {σ : ST} {t : Int32} (hd : 2 ≤ d) (hM : MK K R) (hm : mv I = σ) (hV : IV n0 σ)  (q1 : ¬ (isN t 4) → ∀ I', FrM I I' → I' MO 28 = nI 1 → mv I' = σ → Q (.inl (some (pI (nI 0)))) K I' R) (q0 : ∀ x, x < 4 → t = nI x → ∀ I', FrM I I' → I' MO 28 = nI 0 → mv I' = σ → ∀ v, v = σ 23 x → Q (.inl (some (pI v))) K I' R) : Mw d b N_X6_gate 0 [some (pR (some MO)), some (pI t)] [] K I R Q := by
  obtain ⟨d9, rfl⟩ : ∃ d9, d = d9 + 1 := ⟨d - 1, by omega⟩
  have hpp := hV.1.2
  have htt := hV.2.1.2
  have hdd := hV.2.2.1.2
  refine mw_aload i_127_0 (L := MO) rfl ?_
  refine mw_iload i_127_1 (x := t) rfl ?_
  refine mw_callS i_127_2 mf_77 (as := [pI t]) (rest := [pR (some MO)]) (d' := d9) (b' := b) (ls0 := [some (pI t)]) rfl rfl rfl (Nat.le_of_ble_eq_true rfl) rfl rfl rfl ?_
  refine m_isTown (by omega) ?_
  refine aft_v ?_
  refine mw_const i_127_3 (v := nI 1) (by decide) ?_
  refine mw_const i_127_4 (v := nI 1) (by decide) ?_
  refine mw_callV i_127_5 mf_76 (as := [pI (bI (isN t 4)), pI (nI 1), pI (nI 1)]) (rest := []) (d' := d9) (b' := b) (ls0 := [some (pR (some MO)), some (pI (bI (isN t 4))), some (pI (nI 1)), some (pI (nI 1))]) rfl rfl rfl (Nat.le_of_ble_eq_true rfl) (MK_o hM) rfl rfl rfl ?_
  refine m_goes hM ?_
  rw [show gz (bI (isN t 4)) (nI 1) (nI 1) = gn (isN t 4) True True from by unfold gn; rw [bI_T]]
  obtain ⟨Ig1, eIg1⟩ : ∃ Ig1, Ig1 = up2 I MO 28 (nI (gn (isN t 4) True True)) := ⟨_, rfl⟩
  rw [← eIg1]
  refine aft_v ?_
  refine mw_eqB i_127_6 rfl (fun c2 => ?_) (fun c2 => ?_)
  · skip
    refine mw_const i_127_12 (v := nI 0) (by decide) ?_
    refine mw_iretI i_127_13 (x := nI 0) rt_127 ?_
    have h28 : Ig1 MO 28 = nI (gn (isN t 4) True True) := by rw [eIg1, up2_at, upd_at]
    have hmv : mv Ig1 = σ := by rw [eIg1, mv_o (by decide), hm]
    have hfr : FrM I Ig1 := (eIg1.symm ▸ FrM_up (FrM_rfl) (by decide))
    by_cases p19 : isN t 4
    rotate_left
    · exact q1 p19 Ig1 hfr (h28.trans (by rw [gn_1 p19])) hmv
    exact absurd (gn_t p19 trivial trivial) c2
  · skip
    obtain ⟨p1, p2, p3⟩ := gn_0.mp c2
    obtain ⟨x, hx, rfl⟩ := p1
    refine mw_aload i_127_7 (L := MO) rfl ?_
    refine mw_getR i_127_8 (MK_o hM) (q := some (MA 23)) (MK_r hM 23 (by decide)) ?_
    refine mw_iload i_127_9 (x := nI x) rfl ?_
    refine mw_iald i_127_10 (jn := x) (n := 4) (by omega) (by omega) (show K (MA 23) = some (7, 4) from MK_k hM 23 (by decide)) (by decide) (v := σ 23 x) (by rw [eIg1, up2_ne (by simp)]; exact (rm hm (by decide) x)) ?_
    refine mw_goto i_127_11 ?_
    refine mw_iretI i_127_13 (x := σ 23 x) rt_127 ?_
    exact q0 _ (by assumption) rfl _ ((eIg1.symm ▸ FrM_up (FrM_rfl) (by decide))) (by rw [eIg1, up2_at, upd_at, c2]) (by rw [eIg1, mv_o (by decide), hm]) _ rfl
set_option maxRecDepth 20000 in
set_option maxHeartbeats 400000 in
theorem m_beat {d b : Nat} {K : KM} {I : IM} {R : RM} {Q : QT} {n0 : Nat} {σ : ST} {w : Int32} {o : Int32} (hd : 2 ≤ d) (hM : MK K R) (hm : mv I = σ) (hV : IV n0 σ)  (q1 : ¬ (isN w (pn σ) ∧ isN o (pn σ)) → ∀ I', FrM I I' → I' MO 28 = nI 1 → mv I' = σ → Q (.inl (some (pI (nI 0)))) K I' R) (q0 : ∀ x y, x < pn σ → y < pn σ → w = nI x → o = nI y → ∀ I', FrM I I' → I' MO 28 = nI 0 → mv I' = σ → ∀ v, v = σ 13 (10 * x + y) → Q (.inl (some (pI v))) K I' R) : Mw d b N_X6_beat 0 [some (pR (some MO)), some (pI w), some (pI o)] [] K I R Q := by
  obtain ⟨d9, rfl⟩ : ∃ d9, d = d9 + 1 := ⟨d - 1, by omega⟩
  have hpp := hV.1.2
  have htt := hV.2.1.2
  have hdd := hV.2.2.1.2
  refine mw_aload i_125_0 (L := MO) rfl ?_
  have J1 : Mw (d9 + 1) b 125 12 [some (pR (some MO)), some (pI w), some (pI o)] [pI (bI (isN w (pn σ) ∧ isN o (pn σ))), pR (some MO)] K I R Q := by
    refine mw_const i_125_12 (v := nI 1) (by decide) ?_
    refine mw_const i_125_13 (v := nI 1) (by decide) ?_
    refine mw_callV i_125_14 mf_76 (as := [pI (bI (isN w (pn σ) ∧ isN o (pn σ))), pI (nI 1), pI (nI 1)]) (rest := []) (d' := d9) (b' := b) (ls0 := [some (pR (some MO)), some (pI (bI (isN w (pn σ) ∧ isN o (pn σ)))), some (pI (nI 1)), some (pI (nI 1))]) rfl rfl rfl (Nat.le_of_ble_eq_true rfl) (MK_o hM) rfl rfl rfl ?_
    refine m_goes hM ?_
    rw [show gz (bI (isN w (pn σ) ∧ isN o (pn σ))) (nI 1) (nI 1) = gn (isN w (pn σ) ∧ isN o (pn σ)) True True from by unfold gn; rw [bI_T]]
    obtain ⟨Ig2, eIg2⟩ : ∃ Ig2, Ig2 = up2 I MO 28 (nI (gn (isN w (pn σ) ∧ isN o (pn σ)) True True)) := ⟨_, rfl⟩
    rw [← eIg2]
    refine aft_v ?_
    refine mw_eqB i_125_15 rfl (fun c3 => ?_) (fun c3 => ?_)
    · skip
      refine mw_const i_125_25 (v := nI 0) (by decide) ?_
      refine mw_iretI i_125_26 (x := nI 0) rt_125 ?_
      have h28 : Ig2 MO 28 = nI (gn (isN w (pn σ) ∧ isN o (pn σ)) True True) := by rw [eIg2, up2_at, upd_at]
      have hmv : mv Ig2 = σ := by rw [eIg2, mv_o (by decide), hm]
      have hfr : FrM I Ig2 := (eIg2.symm ▸ FrM_up (FrM_rfl) (by decide))
      by_cases p19 : isN w (pn σ) ∧ isN o (pn σ)
      rotate_left
      · exact q1 p19 Ig2 hfr (h28.trans (by rw [gn_1 p19])) hmv
      exact absurd (gn_t p19 trivial trivial) c3
    · skip
      obtain ⟨p1, p2, p3⟩ := gn_0.mp c3
      obtain ⟨⟨x, hx, rfl⟩, ⟨y, hy, rfl⟩⟩ := p1
      refine mw_aload i_125_16 (L := MO) rfl ?_
      refine mw_getR i_125_17 (MK_o hM) (q := some (MA 13)) (MK_r hM 13 (by decide)) ?_
      refine mw_const i_125_18 (v := nI 10) (by decide) ?_
      refine mw_iload i_125_19 (x := nI x) rfl ?_
      refine mw_imul i_125_20 (w := nI (10 * x)) (pk_mul _ _) ?_
      refine mw_iload i_125_21 (x := nI y) rfl ?_
      refine mw_iadd i_125_22 (w := nI (10 * x + y)) (nI_add _ _) ?_
      refine mw_iald i_125_23 (jn := 10 * x + y) (n := 100) (by omega) (by omega) (show K (MA 13) = some (7, 100) from MK_k hM 13 (by decide)) (by decide) (v := σ 13 (10 * x + y)) (by rw [eIg2, up2_ne (by simp)]; exact (rm hm (by decide) (10 * x + y))) ?_
      refine mw_goto i_125_24 ?_
      refine mw_iretI i_125_26 (x := σ 13 (10 * x + y)) rt_125 ?_
      exact q0 _ _ (by assumption) (by assumption) rfl rfl _ ((eIg2.symm ▸ FrM_up (FrM_rfl) (by decide))) (by rw [eIg2, up2_at, upd_at, c3]) (by rw [eIg2, mv_o (by decide), hm]) _ rfl
  refine mw_aload i_125_1 (L := MO) rfl ?_
  refine mw_iload i_125_2 (x := w) rfl ?_
  refine mw_callV i_125_3 mf_78 (as := [pI w]) (rest := [pR (some MO)]) (d' := d9) (b' := b) (ls0 := [some (pR (some MO)), some (pI w)]) rfl rfl rfl (Nat.le_of_ble_eq_true rfl) (MK_o hM) rfl rfl rfl ?_
  refine m_isOne (by omega) hM ((rs hm (by decide)).trans hV.1.1) hpp ?_
  refine aft_v ?_
  refine mw_eqB i_125_4 rfl (fun c4 => ?_) (fun c4 => ?_)
  · skip
    refine mw_const i_125_11 (v := nI 0) (by decide) ?_
    rw [show nI 0 = bI (isN w (pn σ) ∧ isN o (pn σ)) from (bI_f (fun h => c4 h.1)).symm]
    exact J1
  · skip
    refine mw_aload i_125_5 (L := MO) rfl ?_
    refine mw_iload i_125_6 (x := o) rfl ?_
    refine mw_callV i_125_7 mf_78 (as := [pI o]) (rest := [pR (some MO)]) (d' := d9) (b' := b) (ls0 := [some (pR (some MO)), some (pI o)]) rfl rfl rfl (Nat.le_of_ble_eq_true rfl) (MK_o hM) rfl rfl rfl ?_
    refine m_isOne (by omega) hM ((rs hm (by decide)).trans hV.1.1) hpp ?_
    refine aft_v ?_
    refine mw_eqB i_125_8 rfl (fun c5 => ?_) (fun c5 => ?_)
    · skip
      refine mw_const i_125_11 (v := nI 0) (by decide) ?_
      rw [show nI 0 = bI (isN w (pn σ) ∧ isN o (pn σ)) from (bI_f (fun h => c5 h.2)).symm]
      exact J1
    · skip
      refine mw_const i_125_9 (v := nI 1) (by decide) ?_
      refine mw_goto i_125_10 ?_
      rw [show nI 1 = bI (isN w (pn σ) ∧ isN o (pn σ)) from (bI_t (⟨c4, c5⟩)).symm]
      exact J1
theorem smI_00 {f : Nat → Int32} : ∀ {n : Nat}, (∀ k, k < n → f k = nI 0) → smI f n = nI 0
  | 0, _ => rfl
  | n + 1, h => by
    show smI f n + f n = nI 0
    rw [smI_00 (fun k hk => h k (by omega)), h n (by omega)]; rfl
theorem smI_lt {f : Nat → Int32} {a : Nat} : ∀ {n : Nat}, a ≤ n → (∀ k, a ≤ k → k < n → f k = nI 0) → smI f n = smI f a
  | 0, h, _ => by rw [show a = 0 by omega]
  | n + 1, h, h0 => by
    by_cases e : a = n + 1
    · rw [e]
    · show smI f n + f n = smI f a
      rw [h0 n (by omega) (by omega), add0]
      exact smI_lt (by omega) (fun k h1 h2 => h0 k h1 (by omega))
theorem won10 {n : Nat} {σ : ST} (hV : IV n σ) {x : Nat} (hx : x < 10) : smI (fun k => σ 13 (10 * x + k)) (pn σ) = smI (fun k => σ 13 (10 * x + k)) 10 := by
  have hp := hV.1.2
  refine (smI_lt hp (fun o h1 h2 => ?_)).symm
  rw [hV.2.2.2.2.2.2 x o hx h2]
  refine smI_00 (fun d hd => ?_)
  split
  · refine smI_00 (fun j hj => if_neg (fun q => ?_))
    have hc := (hV.2.2.2.2.2.1 d hd).2.2.2.2.1 j hj
    obtain ⟨⟨f, hf, ef⟩, ⟨s, hs, es⟩, -⟩ := hc
    have h3 := q.2.2
    unfold lsr at h3
    split at h3
    · rw [es] at h3
      have := nI_inj h3 (by omega) (by omega)
      omega
    · rw [ef] at h3
      have := nI_inj h3 (by omega) (by omega)
      omega
  · rfl
set_option maxRecDepth 20000 in
set_option maxHeartbeats 400000 in
theorem m_ofW {d b : Nat} {K : KM} {I : IM} {R : RM} {Q : QT} {n0 : Nat} {σ : ST} {w : Int32} {what : Int32} (hd : 2 ≤ d) (hM : MK K R) (hm : mv I = σ) (hV : IV n0 σ)  (q1 : ¬ (isN w (pn σ)) → ∀ I', FrM I I' → I' MO 28 = nI 1 → mv I' = σ → Q (.inl (some (pI (nI 0)))) K I' R) (q2 : (isN w (pn σ)) → ¬ (isN what 7) → ∀ I', FrM I I' → I' MO 28 = nI 2 → mv I' = σ → Q (.inl (some (pI (nI 0)))) K I' R) (q0 : ∀ x k, x < pn σ → k < 7 → w = nI x → what = nI k → ∀ I', FrM I I' → I' MO 28 = nI 0 → mv I' = σ → ∀ v, v = owv σ x k → Q (.inl (some (pI v))) K I' R) : Mw d b N_X6_ofWrestler 0 [some (pR (some MO)), some (pI w), some (pI what)] [] K I R Q := by
  obtain ⟨d9, rfl⟩ : ∃ d9, d = d9 + 1 := ⟨d - 1, by omega⟩
  have hpp := hV.1.2
  have htt := hV.2.1.2
  have hdd := hV.2.2.1.2
  refine mw_aload i_118_0 (L := MO) rfl ?_
  refine mw_aload i_118_1 (L := MO) rfl ?_
  refine mw_iload i_118_2 (x := w) rfl ?_
  refine mw_callV i_118_3 mf_78 (as := [pI w]) (rest := [pR (some MO)]) (d' := d9) (b' := b) (ls0 := [some (pR (some MO)), some (pI w)]) rfl rfl rfl (Nat.le_of_ble_eq_true rfl) (MK_o hM) rfl rfl rfl ?_
  refine m_isOne (by omega) hM ((rs hm (by decide)).trans hV.1.1) hpp ?_
  refine aft_v ?_
  refine mw_iload i_118_4 (x := what) rfl ?_
  refine mw_const i_118_5 (v := nI 0) (by decide) ?_
  refine mw_const i_118_6 (v := nI 6) (by decide) ?_
  refine mw_callS i_118_7 mf_75 (as := [pI what, pI (nI 0), pI (nI 6)]) (rest := [pI (bI (isN w (pn σ))), pR (some MO)]) (d' := d9) (b' := b) (ls0 := [some (pI what), some (pI (nI 0)), some (pI (nI 6))]) rfl rfl rfl (Nat.le_of_ble_eq_true rfl) rfl rfl rfl ?_
  refine m_in ?_
  rw [bI_congr (inr_isN (x := what) (n := 6) (by decide))]
  refine aft_v ?_
  refine mw_const i_118_8 (v := nI 1) (by decide) ?_
  refine mw_callV i_118_9 mf_76 (as := [pI (bI (isN w (pn σ))), pI (bI (isN what 7)), pI (nI 1)]) (rest := []) (d' := d9) (b' := b) (ls0 := [some (pR (some MO)), some (pI (bI (isN w (pn σ)))), some (pI (bI (isN what 7))), some (pI (nI 1))]) rfl rfl rfl (Nat.le_of_ble_eq_true rfl) (MK_o hM) rfl rfl rfl ?_
  refine m_goes hM ?_
  rw [show gz (bI (isN w (pn σ))) (bI (isN what 7)) (nI 1) = gn (isN w (pn σ)) (isN what 7) True from by unfold gn; rw [bI_T]]
  obtain ⟨Ig1, eIg1⟩ : ∃ Ig1, Ig1 = up2 I MO 28 (nI (gn (isN w (pn σ)) (isN what 7) True)) := ⟨_, rfl⟩
  rw [← eIg1]
  refine aft_v ?_
  refine mw_neB i_118_10 rfl (fun c2 => ?_) (fun c2 => ?_)
  · skip
    obtain ⟨p1, p2, p3⟩ := gn_0.mp c2
    obtain ⟨x, hx, rfl⟩ := p1
    refine mw_iload i_118_13 (x := what) rfl ?_
    refine mw_sw_3 i_118_14 (fun c3 => ?_) (fun c4 => ?_) (fun c5 => ?_) (fun c6 => ?_) (fun c7 => ?_) (fun c8 => ?_) (fun c9 => ?_)
    · skip
      subst c3
      refine mw_aload i_118_15 (L := MO) rfl ?_
      refine mw_getR i_118_16 (MK_o hM) (q := some (MA 3)) (MK_r hM 3 (by decide)) ?_
      refine mw_iload i_118_17 (x := nI x) rfl ?_
      refine mw_iald i_118_18 (jn := x) (n := 10) (by omega) (by omega) (show K (MA 3) = some (7, 10) from MK_k hM 3 (by decide)) (by decide) (v := σ 3 x) (by rw [eIg1, up2_ne (by simp)]; exact (rm hm (by decide) x)) ?_
      refine mw_iretI i_118_19 (x := σ 3 x) rt_118 ?_
      exact q0 x 0 hx (by decide) rfl rfl _ ((eIg1.symm ▸ FrM_up (FrM_rfl) (by decide))) (by rw [eIg1, up2_at, upd_at, c2]) (by rw [eIg1, mv_o (by decide), hm]) _ rfl
    · skip
      subst c4
      refine mw_aload i_118_20 (L := MO) rfl ?_
      refine mw_getR i_118_21 (MK_o hM) (q := some (MA 5)) (MK_r hM 5 (by decide)) ?_
      refine mw_iload i_118_22 (x := nI x) rfl ?_
      refine mw_iald i_118_23 (jn := x) (n := 10) (by omega) (by omega) (show K (MA 5) = some (7, 10) from MK_k hM 5 (by decide)) (by decide) (v := σ 5 x) (by rw [eIg1, up2_ne (by simp)]; exact (rm hm (by decide) x)) ?_
      refine mw_iretI i_118_24 (x := σ 5 x) rt_118 ?_
      exact q0 x 1 hx (by decide) rfl rfl _ ((eIg1.symm ▸ FrM_up (FrM_rfl) (by decide))) (by rw [eIg1, up2_at, upd_at, c2]) (by rw [eIg1, mv_o (by decide), hm]) _ rfl
    · skip
      subst c5
      refine mw_aload i_118_25 (L := MO) rfl ?_
      refine mw_iload i_118_26 (x := nI x) rfl ?_
      refine mw_aload i_118_27 (L := MO) rfl ?_
      refine mw_get i_118_28 (MK_o hM) (v := nI (dn σ)) (by rw [eIg1, up2_slot (by decide)]; exact ((rs hm (by decide)).trans hV.2.2.1.1)) ?_
      have hmg : mv Ig1 = σ := by rw [eIg1, mv_o (by decide), hm]
      refine mw_callV i_118_29 mf_82 (as := [pI (nI x), pI (nI (dn σ))]) (rest := []) (d' := d9) (b' := b) (ls0 := [some (pR (some MO)), some (pI (nI x)), some (pI (nI (dn σ)))]) rfl rfl rfl (Nat.le_of_ble_eq_true rfl) (MK_o hM) rfl rfl rfl ?_
      refine m_isHurt hM (by omega) ?_
      rw [rm hmg (by decide) x]
      refine aft_v ?_
      refine mw_eqB i_118_30 rfl (fun c10 => ?_) (fun c10 => ?_)
      · skip
        refine mw_const i_118_36 (v := nI 0) (by decide) ?_
        refine mw_iretI i_118_37 (x := nI 0) rt_118 ?_
        exact q0 x 2 hx (by decide) rfl rfl _ ((eIg1.symm ▸ FrM_up (FrM_rfl) (by decide))) (by rw [eIg1, up2_at, upd_at, c2]) (by rw [eIg1, mv_o (by decide), hm]) _ (if_neg c10).symm
      · skip
        refine mw_aload i_118_31 (L := MO) rfl ?_
        refine mw_getR i_118_32 (MK_o hM) (q := some (MA 6)) (MK_r hM 6 (by decide)) ?_
        refine mw_iload i_118_33 (x := nI x) rfl ?_
        refine mw_iald i_118_34 (jn := x) (n := 10) (by omega) (by omega) (show K (MA 6) = some (7, 10) from MK_k hM 6 (by decide)) (by decide) (v := σ 6 x) (by rw [eIg1, up2_ne (by simp)]; exact (rm hm (by decide) x)) ?_
        refine mw_goto i_118_35 ?_
        refine mw_iretI i_118_37 (x := σ 6 x) rt_118 ?_
        exact q0 x 2 hx (by decide) rfl rfl _ ((eIg1.symm ▸ FrM_up (FrM_rfl) (by decide))) (by rw [eIg1, up2_at, upd_at, c2]) (by rw [eIg1, mv_o (by decide), hm]) _ (if_pos c10).symm
    · skip
      subst c6
      refine mw_aload i_118_38 (L := MO) rfl ?_
      refine mw_getR i_118_39 (MK_o hM) (q := some (MA 7)) (MK_r hM 7 (by decide)) ?_
      refine mw_iload i_118_40 (x := nI x) rfl ?_
      refine mw_iald i_118_41 (jn := x) (n := 10) (by omega) (by omega) (show K (MA 7) = some (7, 10) from MK_k hM 7 (by decide)) (by decide) (v := σ 7 x) (by rw [eIg1, up2_ne (by simp)]; exact (rm hm (by decide) x)) ?_
      refine mw_iretI i_118_42 (x := σ 7 x) rt_118 ?_
      exact q0 x 3 hx (by decide) rfl rfl _ ((eIg1.symm ▸ FrM_up (FrM_rfl) (by decide))) (by rw [eIg1, up2_at, upd_at, c2]) (by rw [eIg1, mv_o (by decide), hm]) _ rfl
    · skip
      subst c7
      refine mw_aload i_118_43 (L := MO) rfl ?_
      refine mw_iload i_118_44 (x := nI x) rfl ?_
      have hmg : mv Ig1 = σ := by rw [eIg1, mv_o (by decide), hm]
      refine mw_callV i_118_45 mf_117 (as := [pI (nI x)]) (rest := []) (d' := d9) (b' := b) (ls0 := [some (pR (some MO)), some (pI (nI x)), none, none]) rfl rfl rfl (Nat.le_of_ble_eq_true rfl) (MK_o hM) rfl rfl rfl ?_
      refine m_wonOf hM hmg hV (by omega) ?_
      refine aft_v ?_
      refine mw_iretI i_118_46 (x := smI (fun k => σ 13 (10 * x + k)) (pn σ)) rt_118 ?_
      exact q0 x 4 hx (by decide) rfl rfl _ ((eIg1.symm ▸ FrM_up (FrM_rfl) (by decide))) (by rw [eIg1, up2_at, upd_at, c2]) (by rw [eIg1, mv_o (by decide), hm]) _ (won10 hV (by omega))
    · skip
      subst c8
      refine mw_aload i_118_47 (L := MO) rfl ?_
      refine mw_getR i_118_48 (MK_o hM) (q := some (MA 8)) (MK_r hM 8 (by decide)) ?_
      refine mw_iload i_118_49 (x := nI x) rfl ?_
      refine mw_iald i_118_50 (jn := x) (n := 10) (by omega) (by omega) (show K (MA 8) = some (7, 10) from MK_k hM 8 (by decide)) (by decide) (v := σ 8 x) (by rw [eIg1, up2_ne (by simp)]; exact (rm hm (by decide) x)) ?_
      refine mw_iretI i_118_51 (x := σ 8 x) rt_118 ?_
      exact q0 x 5 hx (by decide) rfl rfl _ ((eIg1.symm ▸ FrM_up (FrM_rfl) (by decide))) (by rw [eIg1, up2_at, upd_at, c2]) (by rw [eIg1, mv_o (by decide), hm]) _ rfl
    · skip
      refine mw_aload i_118_52 (L := MO) rfl ?_
      refine mw_getR i_118_53 (MK_o hM) (q := some (MA 9)) (MK_r hM 9 (by decide)) ?_
      refine mw_iload i_118_54 (x := nI x) rfl ?_
      refine mw_iald i_118_55 (jn := x) (n := 10) (by omega) (by omega) (show K (MA 9) = some (7, 10) from MK_k hM 9 (by decide)) (by decide) (v := σ 9 x) (by rw [eIg1, up2_ne (by simp)]; exact (rm hm (by decide) x)) ?_
      refine mw_iretI i_118_56 (x := σ 9 x) rt_118 ?_
      obtain ⟨k9, hk9, ek9⟩ := p2
      have hk6 : k9 = 6 := by
        have := c9
        by_cases h : k9 < 6
        · exact absurd ek9 (this k9 h)
        · omega
      subst hk6
      exact q0 x 6 hx (by decide) rfl ek9 _ ((eIg1.symm ▸ FrM_up (FrM_rfl) (by decide))) (by rw [eIg1, up2_at, upd_at, c2]) (by rw [eIg1, mv_o (by decide), hm]) _ rfl
  · skip
    refine mw_const i_118_11 (v := nI 0) (by decide) ?_
    refine mw_iretI i_118_12 (x := nI 0) rt_118 ?_
    have h28 : Ig1 MO 28 = nI (gn (isN w (pn σ)) (isN what 7) True) := by rw [eIg1, up2_at, upd_at]
    have hmv : mv Ig1 = σ := by rw [eIg1, mv_o (by decide), hm]
    have hfr : FrM I Ig1 := (eIg1.symm ▸ FrM_up (FrM_rfl) (by decide))
    by_cases p19 : isN w (pn σ)
    rotate_left
    · exact q1 p19 Ig1 hfr (h28.trans (by rw [gn_1 p19])) hmv
    by_cases p29 : isN what 7
    rotate_left
    · exact q2 p19 p29 Ig1 hfr (h28.trans (by rw [gn_2 p19 p29])) hmv
    exact absurd (gn_t p19 p29 trivial) c2
set_option maxRecDepth 20000 in
set_option maxHeartbeats 400000 in
theorem m_ofC {d b : Nat} {K : KM} {I : IM} {R : RM} {Q : QT} {n0 : Nat} {σ : ST} {its : Int32} {what : Int32} (hd : 2 ≤ d) (hM : MK K R) (hm : mv I = σ) (hV : IV n0 σ)  (q1 : ¬ (isN its 1000 ∧ isN what 4) → ∀ I', FrM I I' → I' MO 28 = nI 1 → mv I' = σ → Q (.inl (some (pI (nI 0)))) K I' R) (q0 : ∀ x k, x < 1000 → k < 4 → its = nI x → what = nI k → ∀ I', FrM I I' → I' MO 28 = nI 0 → mv I' = σ → ∀ v, v = ocv σ x k → Q (.inl (some (pI v))) K I' R) : Mw d b N_X6_ofCard 0 [some (pR (some MO)), some (pI its), some (pI what)] [] K I R Q := by
  obtain ⟨d9, rfl⟩ : ∃ d9, d = d9 + 1 := ⟨d - 1, by omega⟩
  have hpp := hV.1.2
  have htt := hV.2.1.2
  have hdd := hV.2.2.1.2
  refine mw_aload i_121_0 (L := MO) rfl ?_
  have J1 : Mw (d9 + 1) b 121 14 [some (pR (some MO)), some (pI its), some (pI what)] [pI (bI (isN its 1000 ∧ isN what 4)), pR (some MO)] K I R Q := by
    refine mw_const i_121_14 (v := nI 1) (by decide) ?_
    refine mw_const i_121_15 (v := nI 1) (by decide) ?_
    refine mw_callV i_121_16 mf_76 (as := [pI (bI (isN its 1000 ∧ isN what 4)), pI (nI 1), pI (nI 1)]) (rest := []) (d' := d9) (b' := b) (ls0 := [some (pR (some MO)), some (pI (bI (isN its 1000 ∧ isN what 4))), some (pI (nI 1)), some (pI (nI 1))]) rfl rfl rfl (Nat.le_of_ble_eq_true rfl) (MK_o hM) rfl rfl rfl ?_
    refine m_goes hM ?_
    rw [show gz (bI (isN its 1000 ∧ isN what 4)) (nI 1) (nI 1) = gn (isN its 1000 ∧ isN what 4) True True from by unfold gn; rw [bI_T]]
    obtain ⟨Ig2, eIg2⟩ : ∃ Ig2, Ig2 = up2 I MO 28 (nI (gn (isN its 1000 ∧ isN what 4) True True)) := ⟨_, rfl⟩
    rw [← eIg2]
    refine aft_v ?_
    refine mw_neB i_121_17 rfl (fun c3 => ?_) (fun c3 => ?_)
    · skip
      obtain ⟨p1, p2, p3⟩ := gn_0.mp c3
      obtain ⟨⟨x, hx, rfl⟩, ⟨k, hk, rfl⟩⟩ := p1
      have h6 := (hV.2.2.2.2.2.1 x hx).2.1
      rcases (show k = 0 ∨ k = 1 ∨ k = 2 ∨ k = 3 by omega) with rfl | rfl | rfl | rfl
      · skip
        refine mw_iload i_121_20 (x := nI 0) rfl ?_
        refine mw_ifF i_121_21 (show ¬ (¬ nI 0 = 0) by decide) ?_
        refine mw_aload i_121_22 (L := MO) rfl ?_
        refine mw_getR i_121_23 (MK_o hM) (q := some (MA 20)) (MK_r hM 20 (by decide)) ?_
        refine mw_iload i_121_24 (x := nI x) rfl ?_
        refine mw_iald i_121_25 (jn := x) (n := 1000) (by omega) (by omega) (show K (MA 20) = some (7, 1000) from MK_k hM 20 (by decide)) (by decide) (v := nI (mn σ x)) (by rw [eIg2, up2_ne (by simp)]; exact ((rm hm (by decide) x).trans (hV.2.2.2.2.2.1 x (by omega)).1)) ?_
        refine mw_if i_121_26 (p := ¬ (nI (mn σ x)) = nI 0) Iff.rfl (fun c4 => ?_) (fun c4 => ?_)
        · skip
          refine mw_aload i_121_29 (L := MO) rfl ?_
          refine mw_getR i_121_30 (MK_o hM) (q := some (MA 21)) (MK_r hM 21 (by decide)) ?_
          refine mw_iload i_121_31 (x := nI x) rfl ?_
          refine mw_iald i_121_32 (jn := x) (n := 1000) (by omega) (by omega) (show K (MA 21) = some (7, 1000) from MK_k hM 21 (by decide)) (by decide) (v := σ 21 x) (by rw [eIg2, up2_ne (by simp)]; exact (rm hm (by decide) x)) ?_
          refine mw_goto i_121_33 ?_
          refine mw_iretI i_121_57 (x := σ 21 x) rt_121 ?_
          exact q0 x 0 hx (by decide) rfl rfl _ ((eIg2.symm ▸ FrM_up (FrM_rfl) (by decide))) (by rw [eIg2, up2_at, upd_at, c3]) (by rw [eIg2, mv_o (by decide), hm]) _ (if_neg (fun h => c4 (by rw [h]))).symm
        · skip
          refine mw_const i_121_27 (v := (-1)) (by decide) ?_
          refine mw_goto i_121_28 ?_
          refine mw_iretI i_121_57 (x := (-1)) rt_121 ?_
          exact q0 x 0 hx (by decide) rfl rfl _ ((eIg2.symm ▸ FrM_up (FrM_rfl) (by decide))) (by rw [eIg2, up2_at, upd_at, c3]) (by rw [eIg2, mv_o (by decide), hm]) _ (if_pos (nI_inj (Classical.not_not.mp c4) (by omega) (by omega))).symm
      · skip
        refine mw_iload i_121_20 (x := nI 1) rfl ?_
        refine mw_ifT i_121_21 (show ¬ nI 1 = 0 by decide) ?_
        refine mw_iload i_121_34 (x := nI 1) rfl ?_
        refine mw_const i_121_35 (v := nI 1) (by decide) ?_
        refine mw_icF i_121_36 (show ¬ (¬ nI 1 = nI 1) by decide) ?_
        refine mw_aload i_121_37 (L := MO) rfl ?_
        refine mw_getR i_121_38 (MK_o hM) (q := some (MA 20)) (MK_r hM 20 (by decide)) ?_
        refine mw_iload i_121_39 (x := nI x) rfl ?_
        refine mw_iald i_121_40 (jn := x) (n := 1000) (by omega) (by omega) (show K (MA 20) = some (7, 1000) from MK_k hM 20 (by decide)) (by decide) (v := nI (mn σ x)) (by rw [eIg2, up2_ne (by simp)]; exact ((rm hm (by decide) x).trans (hV.2.2.2.2.2.1 x (by omega)).1)) ?_
        refine mw_goto i_121_41 ?_
        refine mw_iretI i_121_57 (x := nI (mn σ x)) rt_121 ?_
        exact q0 x 1 hx (by decide) rfl rfl _ ((eIg2.symm ▸ FrM_up (FrM_rfl) (by decide))) (by rw [eIg2, up2_at, upd_at, c3]) (by rw [eIg2, mv_o (by decide), hm]) _ rfl
      · skip
        refine mw_iload i_121_20 (x := nI 2) rfl ?_
        refine mw_ifT i_121_21 (show ¬ nI 2 = 0 by decide) ?_
        refine mw_iload i_121_34 (x := nI 2) rfl ?_
        refine mw_const i_121_35 (v := nI 1) (by decide) ?_
        refine mw_icT i_121_36 (show ¬ nI 2 = nI 1 by decide) ?_
        refine mw_iload i_121_42 (x := nI 2) rfl ?_
        refine mw_const i_121_43 (v := nI 2) (by decide) ?_
        refine mw_icF i_121_44 (show ¬ (¬ nI 2 = nI 2) by decide) ?_
        refine mw_aload i_121_45 (L := MO) rfl ?_
        refine mw_iload i_121_46 (x := nI x) rfl ?_
        have hmg : mv Ig2 = σ := by rw [eIg2, mv_o (by decide), hm]
        refine mw_callV i_121_47 mf_91 (as := [pI (nI x)]) (rest := []) (d' := d9) (b' := b) (ls0 := [some (pR (some MO)), some (pI (nI x)), none, none]) rfl rfl rfl (Nat.le_of_ble_eq_true rfl) (MK_o hM) rfl rfl rfl ?_
        refine m_minutes (by omega) hM hmg hV (by omega) ?_
        refine aft_v ?_
        refine mw_goto i_121_48 ?_
        refine mw_iretI i_121_57 (x := smI (fun j => σ 19 (36 * x + 6 * j + 3)) (mn σ x)) rt_121 ?_
        exact q0 x 2 hx (by decide) rfl rfl _ ((eIg2.symm ▸ FrM_up (FrM_rfl) (by decide))) (by rw [eIg2, up2_at, upd_at, c3]) (by rw [eIg2, mv_o (by decide), hm]) _ rfl
      · skip
        refine mw_iload i_121_20 (x := nI 3) rfl ?_
        refine mw_ifT i_121_21 (show ¬ nI 3 = 0 by decide) ?_
        refine mw_iload i_121_34 (x := nI 3) rfl ?_
        refine mw_const i_121_35 (v := nI 1) (by decide) ?_
        refine mw_icT i_121_36 (show ¬ nI 3 = nI 1 by decide) ?_
        refine mw_iload i_121_42 (x := nI 3) rfl ?_
        refine mw_const i_121_43 (v := nI 2) (by decide) ?_
        refine mw_icT i_121_44 (show ¬ nI 3 = nI 2 by decide) ?_
        refine mw_aload i_121_49 (L := MO) rfl ?_
        refine mw_getR i_121_50 (MK_o hM) (q := some (MA 22)) (MK_r hM 22 (by decide)) ?_
        refine mw_iload i_121_51 (x := nI x) rfl ?_
        refine mw_bald i_121_52 (jn := x) (n := 1000) (by omega) (by omega) (show K (MA 22) = some (8, 1000) from MK_k hM 22 (by decide)) (v := σ 22 x) (by rw [eIg2, up2_ne (by simp)]; exact (rm hm (by decide) x)) ?_
        refine mw_if i_121_53 (p := (σ 22 x) = nI 0) Iff.rfl (fun c5 => ?_) (fun c5 => ?_)
        · skip
          refine mw_const i_121_56 (v := nI 0) (by decide) ?_
          refine mw_iretI i_121_57 (x := nI 0) rt_121 ?_
          exact q0 x 3 hx (by decide) rfl rfl _ ((eIg2.symm ▸ FrM_up (FrM_rfl) (by decide))) (by rw [eIg2, up2_at, upd_at, c3]) (by rw [eIg2, mv_o (by decide), hm]) _ c5.symm
        · skip
          refine mw_const i_121_54 (v := nI 1) (by decide) ?_
          refine mw_goto i_121_55 ?_
          refine mw_iretI i_121_57 (x := nI 1) rt_121 ?_
          exact q0 x 3 hx (by decide) rfl rfl _ ((eIg2.symm ▸ FrM_up (FrM_rfl) (by decide))) (by rw [eIg2, up2_at, upd_at, c3]) (by rw [eIg2, mv_o (by decide), hm]) _ ((hV.2.2.2.2.2.1 x hx).2.2.1.elim (fun h => absurd h c5) (fun h => h.1)).symm
    · skip
      refine mw_const i_121_18 (v := nI 0) (by decide) ?_
      refine mw_iretI i_121_19 (x := nI 0) rt_121 ?_
      have h28 : Ig2 MO 28 = nI (gn (isN its 1000 ∧ isN what 4) True True) := by rw [eIg2, up2_at, upd_at]
      have hmv : mv Ig2 = σ := by rw [eIg2, mv_o (by decide), hm]
      have hfr : FrM I Ig2 := (eIg2.symm ▸ FrM_up (FrM_rfl) (by decide))
      by_cases p19 : isN its 1000 ∧ isN what 4
      rotate_left
      · exact q1 p19 Ig2 hfr (h28.trans (by rw [gn_1 p19])) hmv
      exact absurd (gn_t p19 trivial trivial) c3
  refine mw_iload i_121_1 (x := its) rfl ?_
  refine mw_const i_121_2 (v := nI 0) (by decide) ?_
  refine mw_const i_121_3 (v := nI 999) (by decide) ?_
  refine mw_callS i_121_4 mf_75 (as := [pI its, pI (nI 0), pI (nI 999)]) (rest := [pR (some MO)]) (d' := d9) (b' := b) (ls0 := [some (pI its), some (pI (nI 0)), some (pI (nI 999))]) rfl rfl rfl (Nat.le_of_ble_eq_true rfl) rfl rfl rfl ?_
  refine m_in ?_
  rw [bI_congr (inr_isN (x := its) (n := 999) (by decide))]
  refine aft_v ?_
  refine mw_eqB i_121_5 rfl (fun c6 => ?_) (fun c6 => ?_)
  · skip
    refine mw_const i_121_13 (v := nI 0) (by decide) ?_
    rw [show nI 0 = bI (isN its 1000 ∧ isN what 4) from (bI_f (fun h => c6 h.1)).symm]
    exact J1
  · skip
    refine mw_iload i_121_6 (x := what) rfl ?_
    refine mw_const i_121_7 (v := nI 0) (by decide) ?_
    refine mw_const i_121_8 (v := nI 3) (by decide) ?_
    refine mw_callS i_121_9 mf_75 (as := [pI what, pI (nI 0), pI (nI 3)]) (rest := [pR (some MO)]) (d' := d9) (b' := b) (ls0 := [some (pI what), some (pI (nI 0)), some (pI (nI 3))]) rfl rfl rfl (Nat.le_of_ble_eq_true rfl) rfl rfl rfl ?_
    refine m_in ?_
    rw [bI_congr (inr_isN (x := what) (n := 3) (by decide))]
    refine aft_v ?_
    refine mw_eqB i_121_10 rfl (fun c7 => ?_) (fun c7 => ?_)
    · skip
      refine mw_const i_121_13 (v := nI 0) (by decide) ?_
      rw [show nI 0 = bI (isN its 1000 ∧ isN what 4) from (bI_f (fun h => c7 h.2)).symm]
      exact J1
    · skip
      refine mw_const i_121_11 (v := nI 1) (by decide) ?_
      refine mw_goto i_121_12 ?_
      rw [show nI 1 = bI (isN its 1000 ∧ isN what 4) from (bI_t (⟨c6, c7⟩)).symm]
      exact J1
