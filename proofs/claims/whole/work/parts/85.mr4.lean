/-! the reference: matches told, lineage, the simple changes -/
set_option maxRecDepth 20000 in
set_option maxHeartbeats 400000 in
theorem m_day {d b : Nat} {K : KM} {I : IM} {R : RM} {Q : QT} {n0 : Nat} {σ : ST} (hM : MK K R) (hm : mv I = σ) (hV : IV n0 σ)  (q0 : ∀ I', FrM I I' → I' MO 28 = nI 0 → mv I' = σ → ∀ v, v = nI (dn σ) → Q (.inl (some (pI v))) K I' R) : Mw d b N_X6_day 0 [some (pR (some MO))] [] K I R Q := by
  have hpp := hV.1.2
  have htt := hV.2.1.2
  have hdd := hV.2.2.1.2
  refine mw_aload i_116_0 (L := MO) rfl ?_
  refine mw_const i_116_1 (v := nI 0) (by decide) ?_
  obtain ⟨I21, e21⟩ : ∃ I21, I21 = up2 I MO 28 (nI 0) := ⟨_, rfl⟩
  refine mw_put i_116_2 (x := nI 0) (MK_o hM) (I' := I21) e21.symm ?_
  refine mw_aload i_116_3 (L := MO) rfl ?_
  refine mw_get i_116_4 (MK_o hM) (v := nI (dn σ)) (by rw [e21, up2_slot (by decide)]; exact ((rs hm (by decide)).trans hV.2.2.1.1)) ?_
  refine mw_iretI i_116_5 (x := nI (dn σ)) rt_116 ?_
  exact q0 _ ((e21.symm ▸ FrM_up (FrM_rfl) (by decide))) (by rw [e21, up2_at, upd_at]) (by rw [e21, mv_o (by decide), hm]) _ rfl
set_option maxRecDepth 20000 in
set_option maxHeartbeats 400000 in
theorem m_beatAnew {d b : Nat} {K : KM} {I : IM} {R : RM} {Q : QT} {n0 : Nat} {σ : ST} {w o : Int32} (hd : 3 ≤ d) (hM : MK K R) (hm : mv I = σ) (hV : IV n0 σ)  (q1 : ¬ (isN w (pn σ) ∧ isN o (pn σ)) → ∀ I', FrM I I' → I' MO 28 = nI 1 → mv I' = σ → Q (.inl (some (pI (nI 0)))) K I' R) (q0 : ∀ x y, x < pn σ → y < pn σ → w = nI x → o = nI y → ∀ I', FrM I I' → I' MO 28 = nI 0 → mv I' = σ → ∀ v, v = σ 13 (10 * x + y) → Q (.inl (some (pI v))) K I' R) : Mw d b N_X6_beatAnew 0 [some (pR (some MO)), some (pI w), some (pI o)] [] K I R Q := by
  obtain ⟨d9, rfl⟩ : ∃ d9, d = d9 + 1 := ⟨d - 1, by omega⟩
  refine mw_aload i_126_0 (L := MO) rfl ?_
  refine mw_iload i_126_1 (x := w) rfl ?_
  refine mw_iload i_126_2 (x := o) rfl ?_
  refine mw_callV i_126_3 mf_125 (as := [pI w, pI o]) (rest := []) (d' := d9) (b' := b) (ls0 := [some (pR (some MO)), some (pI w), some (pI o)]) rfl rfl rfl (Nat.le_of_ble_eq_true rfl) (MK_o hM) rfl rfl rfl ?_
  refine m_beat (by omega) hM hm hV (fun h I9 a b c => ?_) (fun x y hx hy ex ey I9 a b c v hv => ?_)
  · skip
    refine aft_v ?_
    refine mw_iretI i_126_4 (x := nI 0) rt_126 ?_
    exact q1 h I9 a b c
  · skip
    refine aft_v ?_
    refine mw_iretI i_126_4 (x := v) rt_126 ?_
    exact q0 x y hx hy ex ey I9 a b c v hv
set_option maxRecDepth 20000 in
set_option maxHeartbeats 400000 in
theorem m_lin_o {d b : Nat} {K : KM} {I : IM} {R : RM} {Q : QT} {n0 : Nat} {σ : ST} {t : Int32} {at_ : Int32} {pd : Prop} (hd : 2 ≤ d) (hM : MK K R) (hm : mv I = σ) (hV : IV n0 σ) (ht : ¬ isN t (tn σ)) (q1 : ¬ (False) → ∀ I', FrM I I' → I' MO 28 = nI 1 → mv I' = σ → Q (.inl (some (pI (nI 0)))) K I' R)  : Mw d b N_X6_lineage 0 [some (pR (some MO)), some (pI t), some (pI at_), some (pI (bI pd)), none] [] K I R Q := by
  obtain ⟨d9, rfl⟩ : ∃ d9, d = d9 + 1 := ⟨d - 1, by omega⟩
  have hpp := hV.1.2
  have htt := hV.2.1.2
  have hdd := hV.2.2.1.2
  have J1 : Mw (d9 + 1) b 123 23 [some (pR (some MO)), some (pI t), some (pI at_), some (pI (bI pd)), none] [pI (bI False)] K I R Q := by
    refine mw_istore i_123_23 (ls' := [some (pR (some MO)), some (pI t), some (pI at_), some (pI (bI pd)), some (pI (bI False))]) rfl (Nat.le_of_ble_eq_true rfl) ?_
    refine mw_aload i_123_24 (L := MO) rfl ?_
    refine mw_iload i_123_25 (x := bI False) rfl ?_
    refine mw_const i_123_26 (v := nI 1) (by decide) ?_
    refine mw_const i_123_27 (v := nI 1) (by decide) ?_
    refine mw_callV i_123_28 mf_76 (as := [pI (bI False), pI (nI 1), pI (nI 1)]) (rest := []) (d' := d9) (b' := b) (ls0 := [some (pR (some MO)), some (pI (bI False)), some (pI (nI 1)), some (pI (nI 1))]) rfl rfl rfl (Nat.le_of_ble_eq_true rfl) (MK_o hM) rfl rfl rfl ?_
    refine m_goes hM ?_
    rw [show gz (bI False) (nI 1) (nI 1) = gn False True True from by unfold gn; rw [bI_T]]
    obtain ⟨Ig2, eIg2⟩ : ∃ Ig2, Ig2 = up2 I MO 28 (nI (gn False True True)) := ⟨_, rfl⟩
    rw [← eIg2]
    refine aft_v ?_
    refine mw_neB i_123_29 rfl (fun c3 => ?_) (fun c3 => ?_)
    · skip
      obtain ⟨p1, p2, p3⟩ := gn_0.mp c3
      exact p1.elim
    · skip
      refine mw_const i_123_30 (v := nI 0) (by decide) ?_
      refine mw_iretI i_123_31 (x := nI 0) rt_123 ?_
      have h28 : Ig2 MO 28 = nI (gn False True True) := by rw [eIg2, up2_at, upd_at]
      have hmv : mv Ig2 = σ := by rw [eIg2, mv_o (by decide), hm]
      have hfr : FrM I Ig2 := (eIg2.symm ▸ FrM_up (FrM_rfl) (by decide))
      by_cases p19 : False
      rotate_left
      · exact q1 p19 Ig2 hfr (h28.trans (by rw [gn_1 p19])) hmv
      exact absurd (gn_t p19 trivial trivial) c3
  refine mw_aload i_123_0 (L := MO) rfl ?_
  refine mw_iload i_123_1 (x := t) rfl ?_
  refine mw_callV i_123_2 mf_79 (as := [pI t]) (rest := []) (d' := d9) (b' := b) (ls0 := [some (pR (some MO)), some (pI t)]) rfl rfl rfl (Nat.le_of_ble_eq_true rfl) (MK_o hM) rfl rfl rfl ?_
  refine m_isTitle (by omega) hM ((rs hm (by decide)).trans hV.2.1.1) htt ?_
  refine aft_v ?_
  refine mw_eqB i_123_3 rfl (fun c4 => ?_) (fun c4 => ?_)
  · skip
    refine mw_const i_123_22 (v := nI 0) (by decide) ?_
    rw [show nI 0 = bI (False) from (bI_f ((fun h => h))).symm]
    exact J1
  · skip
    exact absurd c4 ht
set_option maxRecDepth 20000 in
set_option maxHeartbeats 400000 in
theorem m_lin_i {d b : Nat} {K : KM} {I : IM} {R : RM} {Q : QT} {n0 : Nat} {σ : ST} {x : Nat} {at_ : Int32} {pd : Prop} (hd : 2 ≤ d) (hM : MK K R) (hm : mv I = σ) (hV : IV n0 σ) (hx : x < tn σ) (hn9 : n0 ≤ 512) (q1 : ¬ (isN at_ (lnO σ x)) → ∀ I', FrM I I' → I' MO 28 = nI 1 → mv I' = σ → Q (.inl (some (pI (nI 0)))) K I' R) (q0 : ∀ k, k < lnO σ x → at_ = nI k → ∀ I', FrM I I' → I' MO 28 = nI 0 → mv I' = σ → ∀ v, v = @ite _ pd (Classical.propDecidable _) (σ 16 (2000 * x + k)) (σ 15 (2000 * x + k)) → Q (.inl (some (pI v))) K I' R) : Mw d b N_X6_lineage 0 [some (pR (some MO)), some (pI (nI x)), some (pI at_), some (pI (bI pd)), none] [] K I R Q := by
  obtain ⟨d9, rfl⟩ : ∃ d9, d = d9 + 1 := ⟨d - 1, by omega⟩
  have hpp := hV.1.2
  have htt := hV.2.1.2
  have hdd := hV.2.2.1.2
  have hlx := (hV.2.2.2.2.1 x (by omega)).2
  have J1 : Mw (d9 + 1) b 123 23 [some (pR (some MO)), some (pI (nI x)), some (pI at_), some (pI (bI pd)), none] [pI (bI (isN at_ (lnO σ x)))] K I R Q := by
    refine mw_istore i_123_23 (ls' := [some (pR (some MO)), some (pI (nI x)), some (pI at_), some (pI (bI pd)), some (pI (bI (isN at_ (lnO σ x))))]) rfl (Nat.le_of_ble_eq_true rfl) ?_
    refine mw_aload i_123_24 (L := MO) rfl ?_
    refine mw_iload i_123_25 (x := bI (isN at_ (lnO σ x))) rfl ?_
    refine mw_const i_123_26 (v := nI 1) (by decide) ?_
    refine mw_const i_123_27 (v := nI 1) (by decide) ?_
    refine mw_callV i_123_28 mf_76 (as := [pI (bI (isN at_ (lnO σ x))), pI (nI 1), pI (nI 1)]) (rest := []) (d' := d9) (b' := b) (ls0 := [some (pR (some MO)), some (pI (bI (isN at_ (lnO σ x)))), some (pI (nI 1)), some (pI (nI 1))]) rfl rfl rfl (Nat.le_of_ble_eq_true rfl) (MK_o hM) rfl rfl rfl ?_
    refine m_goes hM ?_
    rw [show gz (bI (isN at_ (lnO σ x))) (nI 1) (nI 1) = gn (isN at_ (lnO σ x)) True True from by unfold gn; rw [bI_T]]
    obtain ⟨Ig2, eIg2⟩ : ∃ Ig2, Ig2 = up2 I MO 28 (nI (gn (isN at_ (lnO σ x)) True True)) := ⟨_, rfl⟩
    rw [← eIg2]
    refine aft_v ?_
    refine mw_neB i_123_29 rfl (fun c3 => ?_) (fun c3 => ?_)
    · skip
      obtain ⟨p1, p2, p3⟩ := gn_0.mp c3
      obtain ⟨k, hk, rfl⟩ := p1
      refine mw_iload i_123_32 (x := bI pd) rfl ?_
      refine mw_eqB i_123_33 rfl (fun c4 => ?_) (fun c4 => ?_)
      · skip
        refine mw_aload i_123_43 (L := MO) rfl ?_
        refine mw_getR i_123_44 (MK_o hM) (q := some (MA 15)) (MK_r hM 15 (by decide)) ?_
        refine mw_const i_123_45 (v := nI 2000) (by decide) ?_
        refine mw_iload i_123_46 (x := nI x) rfl ?_
        refine mw_imul i_123_47 (w := nI (2000 * x)) (pk_mul _ _) ?_
        refine mw_iload i_123_48 (x := nI k) rfl ?_
        refine mw_iadd i_123_49 (w := nI (2000 * x + k)) (nI_add _ _) ?_
        refine mw_iald i_123_50 (jn := 2000 * x + k) (n := 8000) (by omega) (by omega) (show K (MA 15) = some (7, 8000) from MK_k hM 15 (by decide)) (by decide) (v := σ 15 (2000 * x + k)) (by rw [eIg2, up2_ne (by simp)]; exact (rm hm (by decide) (2000 * x + k))) ?_
        refine mw_iretI i_123_51 (x := σ 15 (2000 * x + k)) rt_123 ?_
        exact q0 k hk rfl _ ((eIg2.symm ▸ FrM_up (FrM_rfl) (by decide))) (by rw [eIg2, up2_at, upd_at, c3]) (by rw [eIg2, mv_o (by decide), hm]) _ (if_neg c4).symm
      · skip
        refine mw_aload i_123_34 (L := MO) rfl ?_
        refine mw_getR i_123_35 (MK_o hM) (q := some (MA 16)) (MK_r hM 16 (by decide)) ?_
        refine mw_const i_123_36 (v := nI 2000) (by decide) ?_
        refine mw_iload i_123_37 (x := nI x) rfl ?_
        refine mw_imul i_123_38 (w := nI (2000 * x)) (pk_mul _ _) ?_
        refine mw_iload i_123_39 (x := nI k) rfl ?_
        refine mw_iadd i_123_40 (w := nI (2000 * x + k)) (nI_add _ _) ?_
        refine mw_iald i_123_41 (jn := 2000 * x + k) (n := 8000) (by omega) (by omega) (show K (MA 16) = some (7, 8000) from MK_k hM 16 (by decide)) (by decide) (v := σ 16 (2000 * x + k)) (by rw [eIg2, up2_ne (by simp)]; exact (rm hm (by decide) (2000 * x + k))) ?_
        refine mw_goto i_123_42 ?_
        refine mw_iretI i_123_51 (x := σ 16 (2000 * x + k)) rt_123 ?_
        exact q0 k hk rfl _ ((eIg2.symm ▸ FrM_up (FrM_rfl) (by decide))) (by rw [eIg2, up2_at, upd_at, c3]) (by rw [eIg2, mv_o (by decide), hm]) _ (if_pos c4).symm
    · skip
      refine mw_const i_123_30 (v := nI 0) (by decide) ?_
      refine mw_iretI i_123_31 (x := nI 0) rt_123 ?_
      have h28 : Ig2 MO 28 = nI (gn (isN at_ (lnO σ x)) True True) := by rw [eIg2, up2_at, upd_at]
      have hmv : mv Ig2 = σ := by rw [eIg2, mv_o (by decide), hm]
      have hfr : FrM I Ig2 := (eIg2.symm ▸ FrM_up (FrM_rfl) (by decide))
      by_cases p19 : isN at_ (lnO σ x)
      rotate_left
      · exact q1 p19 Ig2 hfr (h28.trans (by rw [gn_1 p19])) hmv
      exact absurd (gn_t p19 trivial trivial) c3
  refine mw_aload i_123_0 (L := MO) rfl ?_
  refine mw_iload i_123_1 (x := nI x) rfl ?_
  refine mw_callV i_123_2 mf_79 (as := [pI (nI x)]) (rest := []) (d' := d9) (b' := b) (ls0 := [some (pR (some MO)), some (pI (nI x))]) rfl rfl rfl (Nat.le_of_ble_eq_true rfl) (MK_o hM) rfl rfl rfl ?_
  refine m_isTitle (by omega) hM ((rs hm (by decide)).trans hV.2.1.1) htt ?_
  refine aft_v ?_
  refine mw_eqB i_123_3 rfl (fun c5 => ?_) (fun c5 => ?_)
  · skip
    exact absurd ⟨x, hx, rfl⟩ c5
  · skip
    refine mw_iload i_123_4 (x := at_) rfl ?_
    refine mw_const i_123_5 (v := nI 0) (by decide) ?_
    refine mw_aload i_123_6 (L := MO) rfl ?_
    refine mw_getR i_123_7 (MK_o hM) (q := some (MA 17)) (MK_r hM 17 (by decide)) ?_
    refine mw_aload i_123_8 (L := MO) rfl ?_
    refine mw_iload i_123_9 (x := nI x) rfl ?_
    refine mw_callV i_123_10 mf_79 (as := [pI (nI x)]) (rest := [pR (some (MA 17)), pI (nI 0), pI at_]) (d' := d9) (b' := b) (ls0 := [some (pR (some MO)), some (pI (nI x))]) rfl rfl rfl (Nat.le_of_ble_eq_true rfl) (MK_o hM) rfl rfl rfl ?_
    refine m_isTitle (by omega) hM ((rs hm (by decide)).trans hV.2.1.1) htt ?_
    refine aft_v ?_
    refine mw_eqB i_123_11 rfl (fun c6 => ?_) (fun c6 => ?_)
    · skip
      exact absurd ⟨x, hx, rfl⟩ c6
    · skip
      refine mw_iload i_123_12 (x := nI x) rfl ?_
      refine mw_goto i_123_13 ?_
      refine mw_iald i_123_15 (jn := x) (n := 4) (by omega) (by omega) (show K (MA 17) = some (7, 4) from MK_k hM 17 (by decide)) (by decide) (v := nI (lnO σ x)) ((rm hm (by decide) x).trans (hV.2.2.2.2.1 x (by omega)).1) ?_
      refine mw_const i_123_16 (v := nI 1) (by decide) ?_
      refine mw_isub i_123_17 (w := ((nI (lnO σ x)) - (nI 1))) rfl ?_
      refine mw_callS i_123_18 mf_75 (as := [pI at_, pI (nI 0), pI ((nI (lnO σ x)) - (nI 1))]) (rest := []) (d' := d9) (b' := b) (ls0 := [some (pI at_), some (pI (nI 0)), some (pI ((nI (lnO σ x)) - (nI 1)))]) rfl rfl rfl (Nat.le_of_ble_eq_true rfl) rfl rfl rfl ?_
      refine m_in ?_
      rw [bI_congr (inr_isN1 (x := at_) (n := (lnO σ x)) (by omega))]
      refine aft_v ?_
      refine mw_eqB i_123_19 rfl (fun c7 => ?_) (fun c7 => ?_)
      · skip
        refine mw_const i_123_22 (v := nI 0) (by decide) ?_
        rw [show nI 0 = bI (isN at_ (lnO σ x)) from (bI_f (c7)).symm]
        exact J1
      · skip
        refine mw_const i_123_20 (v := nI 1) (by decide) ?_
        refine mw_goto i_123_21 ?_
        rw [show nI 1 = bI (isN at_ (lnO σ x)) from (bI_t (c7)).symm]
        exact J1
set_option maxRecDepth 20000 in
set_option maxHeartbeats 400000 in
theorem m_ofM_o {d b : Nat} {K : KM} {I : IM} {R : RM} {Q : QT} {n0 : Nat} {σ : ST} {its : Int32} {ma : Int32} {what : Int32} (hd : 2 ≤ d) (hM : MK K R) (hm : mv I = σ) (hV : IV n0 σ) (hx : ¬ isN its 1000) (q1 : ¬ (False) → ∀ I', FrM I I' → I' MO 28 = nI 1 → mv I' = σ → Q (.inl (some (pI (nI 0)))) K I' R) (q2 : (False) → ¬ (isN what 6) → ∀ I', FrM I I' → I' MO 28 = nI 2 → mv I' = σ → Q (.inl (some (pI (nI 0)))) K I' R)  : Mw d b N_X6_ofMatch 0 [some (pR (some MO)), some (pI its), some (pI ma), some (pI what), none] [] K I R Q := by
  obtain ⟨d9, rfl⟩ : ∃ d9, d = d9 + 1 := ⟨d - 1, by omega⟩
  have hpp := hV.1.2
  have htt := hV.2.1.2
  have hdd := hV.2.2.1.2
  refine mw_aload i_122_0 (L := MO) rfl ?_
  refine mw_iload i_122_1 (x := its) rfl ?_
  refine mw_iload i_122_2 (x := ma) rfl ?_
  refine mw_callV i_122_3 mf_80 (as := [pI its, pI ma]) (rest := []) (d' := d9) (b' := b) (ls0 := [some (pR (some MO)), some (pI its), some (pI ma)]) rfl rfl rfl (Nat.le_of_ble_eq_true rfl) (MK_o hM) rfl rfl rfl ?_
  refine m_isMatch_o (by omega) hM hm hV hx ?_
  refine aft_v ?_
  refine mw_istore i_122_4 (ls' := [some (pR (some MO)), some (pI its), some (pI ma), some (pI what), some (pI (bI False))]) rfl (Nat.le_of_ble_eq_true rfl) ?_
  refine mw_aload i_122_5 (L := MO) rfl ?_
  refine mw_iload i_122_6 (x := bI False) rfl ?_
  refine mw_iload i_122_7 (x := what) rfl ?_
  refine mw_const i_122_8 (v := nI 0) (by decide) ?_
  refine mw_const i_122_9 (v := nI 5) (by decide) ?_
  refine mw_callS i_122_10 mf_75 (as := [pI what, pI (nI 0), pI (nI 5)]) (rest := [pI (bI False), pR (some MO)]) (d' := d9) (b' := b) (ls0 := [some (pI what), some (pI (nI 0)), some (pI (nI 5))]) rfl rfl rfl (Nat.le_of_ble_eq_true rfl) rfl rfl rfl ?_
  refine m_in ?_
  rw [bI_congr (inr_isN (x := what) (n := 5) (by decide))]
  refine aft_v ?_
  refine mw_const i_122_11 (v := nI 1) (by decide) ?_
  refine mw_callV i_122_12 mf_76 (as := [pI (bI False), pI (bI (isN what 6)), pI (nI 1)]) (rest := []) (d' := d9) (b' := b) (ls0 := [some (pR (some MO)), some (pI (bI False)), some (pI (bI (isN what 6))), some (pI (nI 1))]) rfl rfl rfl (Nat.le_of_ble_eq_true rfl) (MK_o hM) rfl rfl rfl ?_
  refine m_goes hM ?_
  rw [show gz (bI False) (bI (isN what 6)) (nI 1) = gn False (isN what 6) True from by unfold gn; rw [bI_T]]
  obtain ⟨Ig1, eIg1⟩ : ∃ Ig1, Ig1 = up2 I MO 28 (nI (gn False (isN what 6) True)) := ⟨_, rfl⟩
  rw [← eIg1]
  refine aft_v ?_
  refine mw_neB i_122_13 rfl (fun c2 => ?_) (fun c2 => ?_)
  · skip
    obtain ⟨p1, p2, p3⟩ := gn_0.mp c2
    exact p1.elim
  · skip
    refine mw_const i_122_14 (v := nI 0) (by decide) ?_
    refine mw_iretI i_122_15 (x := nI 0) rt_122 ?_
    have h28 : Ig1 MO 28 = nI (gn False (isN what 6) True) := by rw [eIg1, up2_at, upd_at]
    have hmv : mv Ig1 = σ := by rw [eIg1, mv_o (by decide), hm]
    have hfr : FrM I Ig1 := (eIg1.symm ▸ FrM_up (FrM_rfl) (by decide))
    by_cases p19 : False
    rotate_left
    · exact q1 p19 Ig1 hfr (h28.trans (by rw [gn_1 p19])) hmv
    by_cases p29 : isN what 6
    rotate_left
    · exact q2 p19 p29 Ig1 hfr (h28.trans (by rw [gn_2 p19 p29])) hmv
    exact absurd (gn_t p19 p29 trivial) c2
set_option maxRecDepth 20000 in
set_option maxHeartbeats 400000 in
theorem m_ofM_i {d b : Nat} {K : KM} {I : IM} {R : RM} {Q : QT} {n0 : Nat} {σ : ST} {x : Nat} {ma what : Int32} (hd : 2 ≤ d) (hM : MK K R) (hm : mv I = σ) (hV : IV n0 σ) (hx : x < 1000) (q1 : ¬ (isN ma (mn σ x)) → ∀ I', FrM I I' → I' MO 28 = nI 1 → mv I' = σ → Q (.inl (some (pI (nI 0)))) K I' R) (q2 : (isN ma (mn σ x)) → ¬ (isN what 6) → ∀ I', FrM I I' → I' MO 28 = nI 2 → mv I' = σ → Q (.inl (some (pI (nI 0)))) K I' R) (q0 : ∀ j k, j < mn σ x → k < 6 → ma = nI j → what = nI k → ∀ I', FrM I I' → I' MO 28 = nI 0 → mv I' = σ → ∀ v, v = omv σ x j k → Q (.inl (some (pI v))) K I' R) : Mw d b N_X6_ofMatch 0 [some (pR (some MO)), some (pI (nI x)), some (pI ma), some (pI what), none] [] K I R Q := by
  obtain ⟨d9, rfl⟩ : ∃ d9, d = d9 + 1 := ⟨d - 1, by omega⟩
  have hpp := hV.1.2
  have htt := hV.2.1.2
  have hdd := hV.2.2.1.2
  have h6 := (hV.2.2.2.2.2.1 x hx).2.1
  refine mw_aload i_122_0 (L := MO) rfl ?_
  refine mw_iload i_122_1 (x := nI x) rfl ?_
  refine mw_iload i_122_2 (x := ma) rfl ?_
  refine mw_callV i_122_3 mf_80 (as := [pI (nI x), pI ma]) (rest := []) (d' := d9) (b' := b) (ls0 := [some (pR (some MO)), some (pI (nI x)), some (pI ma)]) rfl rfl rfl (Nat.le_of_ble_eq_true rfl) (MK_o hM) rfl rfl rfl ?_
  refine m_isMatch (by omega) hM hm hV hx ?_
  refine aft_v ?_
  refine mw_istore i_122_4 (ls' := [some (pR (some MO)), some (pI (nI x)), some (pI ma), some (pI what), some (pI (bI (isN ma (mn σ x))))]) rfl (Nat.le_of_ble_eq_true rfl) ?_
  refine mw_aload i_122_5 (L := MO) rfl ?_
  refine mw_iload i_122_6 (x := bI (isN ma (mn σ x))) rfl ?_
  refine mw_iload i_122_7 (x := what) rfl ?_
  refine mw_const i_122_8 (v := nI 0) (by decide) ?_
  refine mw_const i_122_9 (v := nI 5) (by decide) ?_
  refine mw_callS i_122_10 mf_75 (as := [pI what, pI (nI 0), pI (nI 5)]) (rest := [pI (bI (isN ma (mn σ x))), pR (some MO)]) (d' := d9) (b' := b) (ls0 := [some (pI what), some (pI (nI 0)), some (pI (nI 5))]) rfl rfl rfl (Nat.le_of_ble_eq_true rfl) rfl rfl rfl ?_
  refine m_in ?_
  rw [bI_congr (inr_isN (x := what) (n := 5) (by decide))]
  refine aft_v ?_
  refine mw_const i_122_11 (v := nI 1) (by decide) ?_
  refine mw_callV i_122_12 mf_76 (as := [pI (bI (isN ma (mn σ x))), pI (bI (isN what 6)), pI (nI 1)]) (rest := []) (d' := d9) (b' := b) (ls0 := [some (pR (some MO)), some (pI (bI (isN ma (mn σ x)))), some (pI (bI (isN what 6))), some (pI (nI 1))]) rfl rfl rfl (Nat.le_of_ble_eq_true rfl) (MK_o hM) rfl rfl rfl ?_
  refine m_goes hM ?_
  rw [show gz (bI (isN ma (mn σ x))) (bI (isN what 6)) (nI 1) = gn (isN ma (mn σ x)) (isN what 6) True from by unfold gn; rw [bI_T]]
  obtain ⟨Ig1, eIg1⟩ : ∃ Ig1, Ig1 = up2 I MO 28 (nI (gn (isN ma (mn σ x)) (isN what 6) True)) := ⟨_, rfl⟩
  rw [← eIg1]
  refine aft_v ?_
  refine mw_neB i_122_13 rfl (fun c2 => ?_) (fun c2 => ?_)
  · skip
    obtain ⟨p1, p2, p3⟩ := gn_0.mp c2
    obtain ⟨j, hj, rfl⟩ := p1
    obtain ⟨k, hk, rfl⟩ := p2
    rcases (show k = 0 ∨ k = 1 ∨ k = 2 ∨ k = 3 ∨ k = 4 ∨ k = 5 by omega) with rfl | rfl | rfl | rfl | rfl | rfl
    · skip
      refine mw_iload i_122_16 (x := nI 0) rfl ?_
      refine mw_const i_122_17 (v := nI 2) (by decide) ?_
      refine mw_icT i_122_18 (show ¬ nI 0 = nI 2 by decide) ?_
      refine mw_aload i_122_43 (L := MO) rfl ?_
      refine mw_iload i_122_44 (x := nI x) rfl ?_
      refine mw_iload i_122_45 (x := nI j) rfl ?_
      refine mw_iload i_122_46 (x := nI 0) rfl ?_
      have hmg : mv Ig1 = σ := by rw [eIg1, mv_o (by decide), hm]
      refine mw_callV i_122_47 mf_81 (as := [pI (nI x), pI (nI j), pI (nI 0)]) (rest := []) (d' := d9) (b' := b) (ls0 := [some (pR (some MO)), some (pI (nI x)), some (pI (nI j)), some (pI (nI 0))]) rfl rfl rfl (Nat.le_of_ble_eq_true rfl) (MK_o hM) rfl rfl rfl ?_
      refine m_of hM (by omega) (by omega) (by omega) ?_
      rw [show Ig1 (MA 19) (36 * x + 6 * j + 0) = σ 19 (36 * x + 6 * j) from rm hmg (by decide) _]
      refine aft_v ?_
      refine mw_iretI i_122_48 (x := σ 19 (36 * x + 6 * j)) rt_122 ?_
      exact q0 j 0 hj (by decide) rfl rfl _ ((eIg1.symm ▸ FrM_up (FrM_rfl) (by decide))) (by rw [eIg1, up2_at, upd_at, c2]) (by rw [eIg1, mv_o (by decide), hm]) _ rfl
    · skip
      refine mw_iload i_122_16 (x := nI 1) rfl ?_
      refine mw_const i_122_17 (v := nI 2) (by decide) ?_
      refine mw_icT i_122_18 (show ¬ nI 1 = nI 2 by decide) ?_
      refine mw_aload i_122_43 (L := MO) rfl ?_
      refine mw_iload i_122_44 (x := nI x) rfl ?_
      refine mw_iload i_122_45 (x := nI j) rfl ?_
      refine mw_iload i_122_46 (x := nI 1) rfl ?_
      have hmg : mv Ig1 = σ := by rw [eIg1, mv_o (by decide), hm]
      refine mw_callV i_122_47 mf_81 (as := [pI (nI x), pI (nI j), pI (nI 1)]) (rest := []) (d' := d9) (b' := b) (ls0 := [some (pR (some MO)), some (pI (nI x)), some (pI (nI j)), some (pI (nI 1))]) rfl rfl rfl (Nat.le_of_ble_eq_true rfl) (MK_o hM) rfl rfl rfl ?_
      refine m_of hM (by omega) (by omega) (by omega) ?_
      rw [show Ig1 (MA 19) (36 * x + 6 * j + 1) = σ 19 (36 * x + 6 * j + 1) from rm hmg (by decide) _]
      refine aft_v ?_
      refine mw_iretI i_122_48 (x := σ 19 (36 * x + 6 * j + 1)) rt_122 ?_
      exact q0 j 1 hj (by decide) rfl rfl _ ((eIg1.symm ▸ FrM_up (FrM_rfl) (by decide))) (by rw [eIg1, up2_at, upd_at, c2]) (by rw [eIg1, mv_o (by decide), hm]) _ rfl
    · skip
      rcases ((hV.2.2.2.2.2.1 x hx).2.2.2.2.1 j hj).2.2.2.1 with e2 | e2
      · skip
        refine mw_iload i_122_16 (x := nI 2) rfl ?_
        refine mw_const i_122_17 (v := nI 2) (by decide) ?_
        refine mw_icF i_122_18 (show ¬ (¬ nI 2 = nI 2) by decide) ?_
        refine mw_aload i_122_19 (L := MO) rfl ?_
        refine mw_getR i_122_20 (MK_o hM) (q := some (MA 22)) (MK_r hM 22 (by decide)) ?_
        refine mw_iload i_122_21 (x := nI x) rfl ?_
        refine mw_bald i_122_22 (jn := x) (n := 1000) (by omega) (by omega) (show K (MA 22) = some (8, 1000) from MK_k hM 22 (by decide)) (v := σ 22 x) (by rw [eIg1, up2_ne (by simp)]; exact (rm hm (by decide) x)) ?_
        refine mw_if i_122_23 (p := (σ 22 x) = nI 0) Iff.rfl (fun c3 => ?_) (fun c3 => ?_)
        · skip
          refine mw_aload i_122_33 (L := MO) rfl ?_
          refine mw_iload i_122_34 (x := nI x) rfl ?_
          refine mw_iload i_122_35 (x := nI j) rfl ?_
          refine mw_aload i_122_36 (L := MO) rfl ?_
          refine mw_iload i_122_37 (x := nI x) rfl ?_
          refine mw_iload i_122_38 (x := nI j) rfl ?_
          refine mw_const i_122_39 (v := nI 2) (by decide) ?_
          have hmg : mv Ig1 = σ := by rw [eIg1, mv_o (by decide), hm]
          refine mw_callV i_122_40 mf_81 (as := [pI (nI x), pI (nI j), pI (nI 2)]) (rest := [pI (nI j), pI (nI x), pR (some MO)]) (d' := d9) (b' := b) (ls0 := [some (pR (some MO)), some (pI (nI x)), some (pI (nI j)), some (pI (nI 2))]) rfl rfl rfl (Nat.le_of_ble_eq_true rfl) (MK_o hM) rfl rfl rfl ?_
          refine m_of hM (by omega) (by omega) (by omega) ?_
          rw [show Ig1 (MA 19) (36 * x + 6 * j + 2) = nI 0 from (rm hmg (by decide) _).trans e2]
          refine aft_v ?_
          have hmg : mv Ig1 = σ := by rw [eIg1, mv_o (by decide), hm]
          refine mw_callV i_122_41 mf_81 (as := [pI (nI x), pI (nI j), pI (nI 0)]) (rest := []) (d' := d9) (b' := b) (ls0 := [some (pR (some MO)), some (pI (nI x)), some (pI (nI j)), some (pI (nI 0))]) rfl rfl rfl (Nat.le_of_ble_eq_true rfl) (MK_o hM) rfl rfl rfl ?_
          refine m_of hM (by omega) (by omega) (by omega) ?_
          rw [show Ig1 (MA 19) (36 * x + 6 * j + 0) = σ 19 (36 * x + 6 * j) from rm hmg (by decide) _]
          refine aft_v ?_
          refine mw_iretI i_122_42 (x := σ 19 (36 * x + 6 * j)) rt_122 ?_
          exact q0 j 2 hj (by decide) rfl rfl _ ((eIg1.symm ▸ FrM_up (FrM_rfl) (by decide))) (by rw [eIg1, up2_at, upd_at, c2]) (by rw [eIg1, mv_o (by decide), hm]) _ ((if_neg (fun h => absurd (h.1.symm.trans c3) (by decide))).trans (if_pos e2)).symm
        · skip
          refine mw_aload i_122_24 (L := MO) rfl ?_
          refine mw_iload i_122_25 (x := nI x) rfl ?_
          refine mw_iload i_122_26 (x := nI j) rfl ?_
          refine mw_const i_122_27 (v := nI 5) (by decide) ?_
          have hmg : mv Ig1 = σ := by rw [eIg1, mv_o (by decide), hm]
          refine mw_callV i_122_28 mf_81 (as := [pI (nI x), pI (nI j), pI (nI 5)]) (rest := []) (d' := d9) (b' := b) (ls0 := [some (pR (some MO)), some (pI (nI x)), some (pI (nI j)), some (pI (nI 5))]) rfl rfl rfl (Nat.le_of_ble_eq_true rfl) (MK_o hM) rfl rfl rfl ?_
          refine m_of hM (by omega) (by omega) (by omega) ?_
          rw [show Ig1 (MA 19) (36 * x + 6 * j + 5) = σ 19 (36 * x + 6 * j + 5) from rm hmg (by decide) _]
          refine aft_v ?_
          refine mw_const i_122_29 (v := nI 1) (by decide) ?_
          refine mw_ic i_122_30 (p := ¬ (σ 19 (36 * x + 6 * j + 5)) = (nI 1)) Iff.rfl (fun c4 => ?_) (fun c4 => ?_)
          · skip
            refine mw_aload i_122_33 (L := MO) rfl ?_
            refine mw_iload i_122_34 (x := nI x) rfl ?_
            refine mw_iload i_122_35 (x := nI j) rfl ?_
            refine mw_aload i_122_36 (L := MO) rfl ?_
            refine mw_iload i_122_37 (x := nI x) rfl ?_
            refine mw_iload i_122_38 (x := nI j) rfl ?_
            refine mw_const i_122_39 (v := nI 2) (by decide) ?_
            have hmg : mv Ig1 = σ := by rw [eIg1, mv_o (by decide), hm]
            refine mw_callV i_122_40 mf_81 (as := [pI (nI x), pI (nI j), pI (nI 2)]) (rest := [pI (nI j), pI (nI x), pR (some MO)]) (d' := d9) (b' := b) (ls0 := [some (pR (some MO)), some (pI (nI x)), some (pI (nI j)), some (pI (nI 2))]) rfl rfl rfl (Nat.le_of_ble_eq_true rfl) (MK_o hM) rfl rfl rfl ?_
            refine m_of hM (by omega) (by omega) (by omega) ?_
            rw [show Ig1 (MA 19) (36 * x + 6 * j + 2) = nI 0 from (rm hmg (by decide) _).trans e2]
            refine aft_v ?_
            have hmg : mv Ig1 = σ := by rw [eIg1, mv_o (by decide), hm]
            refine mw_callV i_122_41 mf_81 (as := [pI (nI x), pI (nI j), pI (nI 0)]) (rest := []) (d' := d9) (b' := b) (ls0 := [some (pR (some MO)), some (pI (nI x)), some (pI (nI j)), some (pI (nI 0))]) rfl rfl rfl (Nat.le_of_ble_eq_true rfl) (MK_o hM) rfl rfl rfl ?_
            refine m_of hM (by omega) (by omega) (by omega) ?_
            rw [show Ig1 (MA 19) (36 * x + 6 * j + 0) = σ 19 (36 * x + 6 * j) from rm hmg (by decide) _]
            refine aft_v ?_
            refine mw_iretI i_122_42 (x := σ 19 (36 * x + 6 * j)) rt_122 ?_
            exact q0 j 2 hj (by decide) rfl rfl _ ((eIg1.symm ▸ FrM_up (FrM_rfl) (by decide))) (by rw [eIg1, up2_at, upd_at, c2]) (by rw [eIg1, mv_o (by decide), hm]) _ ((if_neg (fun h => c4 h.2)).trans (if_pos e2)).symm
          · skip
            refine mw_const i_122_31 (v := (-1)) (by decide) ?_
            refine mw_goto i_122_32 ?_
            refine mw_iretI i_122_42 (x := (-1)) rt_122 ?_
            exact q0 j 2 hj (by decide) rfl rfl _ ((eIg1.symm ▸ FrM_up (FrM_rfl) (by decide))) (by rw [eIg1, up2_at, upd_at, c2]) (by rw [eIg1, mv_o (by decide), hm]) _ (if_pos ⟨(hV.2.2.2.2.2.1 x hx).2.2.1.elim (fun h => absurd h c3) (fun h => h.1), Classical.not_not.mp c4⟩).symm
      · skip
        refine mw_iload i_122_16 (x := nI 2) rfl ?_
        refine mw_const i_122_17 (v := nI 2) (by decide) ?_
        refine mw_icF i_122_18 (show ¬ (¬ nI 2 = nI 2) by decide) ?_
        refine mw_aload i_122_19 (L := MO) rfl ?_
        refine mw_getR i_122_20 (MK_o hM) (q := some (MA 22)) (MK_r hM 22 (by decide)) ?_
        refine mw_iload i_122_21 (x := nI x) rfl ?_
        refine mw_bald i_122_22 (jn := x) (n := 1000) (by omega) (by omega) (show K (MA 22) = some (8, 1000) from MK_k hM 22 (by decide)) (v := σ 22 x) (by rw [eIg1, up2_ne (by simp)]; exact (rm hm (by decide) x)) ?_
        refine mw_if i_122_23 (p := (σ 22 x) = nI 0) Iff.rfl (fun c5 => ?_) (fun c5 => ?_)
        · skip
          refine mw_aload i_122_33 (L := MO) rfl ?_
          refine mw_iload i_122_34 (x := nI x) rfl ?_
          refine mw_iload i_122_35 (x := nI j) rfl ?_
          refine mw_aload i_122_36 (L := MO) rfl ?_
          refine mw_iload i_122_37 (x := nI x) rfl ?_
          refine mw_iload i_122_38 (x := nI j) rfl ?_
          refine mw_const i_122_39 (v := nI 2) (by decide) ?_
          have hmg : mv Ig1 = σ := by rw [eIg1, mv_o (by decide), hm]
          refine mw_callV i_122_40 mf_81 (as := [pI (nI x), pI (nI j), pI (nI 2)]) (rest := [pI (nI j), pI (nI x), pR (some MO)]) (d' := d9) (b' := b) (ls0 := [some (pR (some MO)), some (pI (nI x)), some (pI (nI j)), some (pI (nI 2))]) rfl rfl rfl (Nat.le_of_ble_eq_true rfl) (MK_o hM) rfl rfl rfl ?_
          refine m_of hM (by omega) (by omega) (by omega) ?_
          rw [show Ig1 (MA 19) (36 * x + 6 * j + 2) = nI 1 from (rm hmg (by decide) _).trans e2]
          refine aft_v ?_
          have hmg : mv Ig1 = σ := by rw [eIg1, mv_o (by decide), hm]
          refine mw_callV i_122_41 mf_81 (as := [pI (nI x), pI (nI j), pI (nI 1)]) (rest := []) (d' := d9) (b' := b) (ls0 := [some (pR (some MO)), some (pI (nI x)), some (pI (nI j)), some (pI (nI 1))]) rfl rfl rfl (Nat.le_of_ble_eq_true rfl) (MK_o hM) rfl rfl rfl ?_
          refine m_of hM (by omega) (by omega) (by omega) ?_
          rw [show Ig1 (MA 19) (36 * x + 6 * j + 1) = σ 19 (36 * x + 6 * j + 1) from rm hmg (by decide) _]
          refine aft_v ?_
          refine mw_iretI i_122_42 (x := σ 19 (36 * x + 6 * j + 1)) rt_122 ?_
          exact q0 j 2 hj (by decide) rfl rfl _ ((eIg1.symm ▸ FrM_up (FrM_rfl) (by decide))) (by rw [eIg1, up2_at, upd_at, c2]) (by rw [eIg1, mv_o (by decide), hm]) _ ((if_neg (fun h => absurd (h.1.symm.trans c5) (by decide))).trans (if_neg (by rw [e2]; decide))).symm
        · skip
          refine mw_aload i_122_24 (L := MO) rfl ?_
          refine mw_iload i_122_25 (x := nI x) rfl ?_
          refine mw_iload i_122_26 (x := nI j) rfl ?_
          refine mw_const i_122_27 (v := nI 5) (by decide) ?_
          have hmg : mv Ig1 = σ := by rw [eIg1, mv_o (by decide), hm]
          refine mw_callV i_122_28 mf_81 (as := [pI (nI x), pI (nI j), pI (nI 5)]) (rest := []) (d' := d9) (b' := b) (ls0 := [some (pR (some MO)), some (pI (nI x)), some (pI (nI j)), some (pI (nI 5))]) rfl rfl rfl (Nat.le_of_ble_eq_true rfl) (MK_o hM) rfl rfl rfl ?_
          refine m_of hM (by omega) (by omega) (by omega) ?_
          rw [show Ig1 (MA 19) (36 * x + 6 * j + 5) = σ 19 (36 * x + 6 * j + 5) from rm hmg (by decide) _]
          refine aft_v ?_
          refine mw_const i_122_29 (v := nI 1) (by decide) ?_
          refine mw_ic i_122_30 (p := ¬ (σ 19 (36 * x + 6 * j + 5)) = (nI 1)) Iff.rfl (fun c6 => ?_) (fun c6 => ?_)
          · skip
            refine mw_aload i_122_33 (L := MO) rfl ?_
            refine mw_iload i_122_34 (x := nI x) rfl ?_
            refine mw_iload i_122_35 (x := nI j) rfl ?_
            refine mw_aload i_122_36 (L := MO) rfl ?_
            refine mw_iload i_122_37 (x := nI x) rfl ?_
            refine mw_iload i_122_38 (x := nI j) rfl ?_
            refine mw_const i_122_39 (v := nI 2) (by decide) ?_
            have hmg : mv Ig1 = σ := by rw [eIg1, mv_o (by decide), hm]
            refine mw_callV i_122_40 mf_81 (as := [pI (nI x), pI (nI j), pI (nI 2)]) (rest := [pI (nI j), pI (nI x), pR (some MO)]) (d' := d9) (b' := b) (ls0 := [some (pR (some MO)), some (pI (nI x)), some (pI (nI j)), some (pI (nI 2))]) rfl rfl rfl (Nat.le_of_ble_eq_true rfl) (MK_o hM) rfl rfl rfl ?_
            refine m_of hM (by omega) (by omega) (by omega) ?_
            rw [show Ig1 (MA 19) (36 * x + 6 * j + 2) = nI 1 from (rm hmg (by decide) _).trans e2]
            refine aft_v ?_
            have hmg : mv Ig1 = σ := by rw [eIg1, mv_o (by decide), hm]
            refine mw_callV i_122_41 mf_81 (as := [pI (nI x), pI (nI j), pI (nI 1)]) (rest := []) (d' := d9) (b' := b) (ls0 := [some (pR (some MO)), some (pI (nI x)), some (pI (nI j)), some (pI (nI 1))]) rfl rfl rfl (Nat.le_of_ble_eq_true rfl) (MK_o hM) rfl rfl rfl ?_
            refine m_of hM (by omega) (by omega) (by omega) ?_
            rw [show Ig1 (MA 19) (36 * x + 6 * j + 1) = σ 19 (36 * x + 6 * j + 1) from rm hmg (by decide) _]
            refine aft_v ?_
            refine mw_iretI i_122_42 (x := σ 19 (36 * x + 6 * j + 1)) rt_122 ?_
            exact q0 j 2 hj (by decide) rfl rfl _ ((eIg1.symm ▸ FrM_up (FrM_rfl) (by decide))) (by rw [eIg1, up2_at, upd_at, c2]) (by rw [eIg1, mv_o (by decide), hm]) _ ((if_neg (fun h => c6 h.2)).trans (if_neg (by rw [e2]; decide))).symm
          · skip
            refine mw_const i_122_31 (v := (-1)) (by decide) ?_
            refine mw_goto i_122_32 ?_
            refine mw_iretI i_122_42 (x := (-1)) rt_122 ?_
            exact q0 j 2 hj (by decide) rfl rfl _ ((eIg1.symm ▸ FrM_up (FrM_rfl) (by decide))) (by rw [eIg1, up2_at, upd_at, c2]) (by rw [eIg1, mv_o (by decide), hm]) _ (if_pos ⟨(hV.2.2.2.2.2.1 x hx).2.2.1.elim (fun h => absurd h c5) (fun h => h.1), Classical.not_not.mp c6⟩).symm
    · skip
      refine mw_iload i_122_16 (x := nI 3) rfl ?_
      refine mw_const i_122_17 (v := nI 2) (by decide) ?_
      refine mw_icT i_122_18 (show ¬ nI 3 = nI 2 by decide) ?_
      refine mw_aload i_122_43 (L := MO) rfl ?_
      refine mw_iload i_122_44 (x := nI x) rfl ?_
      refine mw_iload i_122_45 (x := nI j) rfl ?_
      refine mw_iload i_122_46 (x := nI 3) rfl ?_
      have hmg : mv Ig1 = σ := by rw [eIg1, mv_o (by decide), hm]
      refine mw_callV i_122_47 mf_81 (as := [pI (nI x), pI (nI j), pI (nI 3)]) (rest := []) (d' := d9) (b' := b) (ls0 := [some (pR (some MO)), some (pI (nI x)), some (pI (nI j)), some (pI (nI 3))]) rfl rfl rfl (Nat.le_of_ble_eq_true rfl) (MK_o hM) rfl rfl rfl ?_
      refine m_of hM (by omega) (by omega) (by omega) ?_
      rw [show Ig1 (MA 19) (36 * x + 6 * j + 3) = σ 19 (36 * x + 6 * j + 3) from rm hmg (by decide) _]
      refine aft_v ?_
      refine mw_iretI i_122_48 (x := σ 19 (36 * x + 6 * j + 3)) rt_122 ?_
      exact q0 j 3 hj (by decide) rfl rfl _ ((eIg1.symm ▸ FrM_up (FrM_rfl) (by decide))) (by rw [eIg1, up2_at, upd_at, c2]) (by rw [eIg1, mv_o (by decide), hm]) _ rfl
    · skip
      refine mw_iload i_122_16 (x := nI 4) rfl ?_
      refine mw_const i_122_17 (v := nI 2) (by decide) ?_
      refine mw_icT i_122_18 (show ¬ nI 4 = nI 2 by decide) ?_
      refine mw_aload i_122_43 (L := MO) rfl ?_
      refine mw_iload i_122_44 (x := nI x) rfl ?_
      refine mw_iload i_122_45 (x := nI j) rfl ?_
      refine mw_iload i_122_46 (x := nI 4) rfl ?_
      have hmg : mv Ig1 = σ := by rw [eIg1, mv_o (by decide), hm]
      refine mw_callV i_122_47 mf_81 (as := [pI (nI x), pI (nI j), pI (nI 4)]) (rest := []) (d' := d9) (b' := b) (ls0 := [some (pR (some MO)), some (pI (nI x)), some (pI (nI j)), some (pI (nI 4))]) rfl rfl rfl (Nat.le_of_ble_eq_true rfl) (MK_o hM) rfl rfl rfl ?_
      refine m_of hM (by omega) (by omega) (by omega) ?_
      rw [show Ig1 (MA 19) (36 * x + 6 * j + 4) = σ 19 (36 * x + 6 * j + 4) from rm hmg (by decide) _]
      refine aft_v ?_
      refine mw_iretI i_122_48 (x := σ 19 (36 * x + 6 * j + 4)) rt_122 ?_
      exact q0 j 4 hj (by decide) rfl rfl _ ((eIg1.symm ▸ FrM_up (FrM_rfl) (by decide))) (by rw [eIg1, up2_at, upd_at, c2]) (by rw [eIg1, mv_o (by decide), hm]) _ rfl
    · skip
      refine mw_iload i_122_16 (x := nI 5) rfl ?_
      refine mw_const i_122_17 (v := nI 2) (by decide) ?_
      refine mw_icT i_122_18 (show ¬ nI 5 = nI 2 by decide) ?_
      refine mw_aload i_122_43 (L := MO) rfl ?_
      refine mw_iload i_122_44 (x := nI x) rfl ?_
      refine mw_iload i_122_45 (x := nI j) rfl ?_
      refine mw_iload i_122_46 (x := nI 5) rfl ?_
      have hmg : mv Ig1 = σ := by rw [eIg1, mv_o (by decide), hm]
      refine mw_callV i_122_47 mf_81 (as := [pI (nI x), pI (nI j), pI (nI 5)]) (rest := []) (d' := d9) (b' := b) (ls0 := [some (pR (some MO)), some (pI (nI x)), some (pI (nI j)), some (pI (nI 5))]) rfl rfl rfl (Nat.le_of_ble_eq_true rfl) (MK_o hM) rfl rfl rfl ?_
      refine m_of hM (by omega) (by omega) (by omega) ?_
      rw [show Ig1 (MA 19) (36 * x + 6 * j + 5) = σ 19 (36 * x + 6 * j + 5) from rm hmg (by decide) _]
      refine aft_v ?_
      refine mw_iretI i_122_48 (x := σ 19 (36 * x + 6 * j + 5)) rt_122 ?_
      exact q0 j 5 hj (by decide) rfl rfl _ ((eIg1.symm ▸ FrM_up (FrM_rfl) (by decide))) (by rw [eIg1, up2_at, upd_at, c2]) (by rw [eIg1, mv_o (by decide), hm]) _ rfl
  · skip
    refine mw_const i_122_14 (v := nI 0) (by decide) ?_
    refine mw_iretI i_122_15 (x := nI 0) rt_122 ?_
    have h28 : Ig1 MO 28 = nI (gn (isN ma (mn σ x)) (isN what 6) True) := by rw [eIg1, up2_at, upd_at]
    have hmv : mv Ig1 = σ := by rw [eIg1, mv_o (by decide), hm]
    have hfr : FrM I Ig1 := (eIg1.symm ▸ FrM_up (FrM_rfl) (by decide))
    by_cases p19 : isN ma (mn σ x)
    rotate_left
    · exact q1 p19 Ig1 hfr (h28.trans (by rw [gn_1 p19])) hmv
    by_cases p29 : isN what 6
    rotate_left
    · exact q2 p19 p29 Ig1 hfr (h28.trans (by rw [gn_2 p19 p29])) hmv
    exact absurd (gn_t p19 p29 trivial) c2
set_option maxRecDepth 20000 in
set_option maxHeartbeats 400000 in
theorem m_wrestler {d b : Nat} {K : KM} {I : IM} {R : RM} {Q : QT} {n0 : Nat} {σ : ST} {sk : Int32} {mi : Int32} {ro : Int32} (hd : 2 ≤ d) (hM : MK K R) (hm : mv I = σ) (hV : IV n0 σ)  (q1 : ¬ (isN sk 100 ∧ isN mi 100 ∧ isN ro 2) → ∀ I', FrM I I' → I' MO 28 = nI 1 → mv I' = σ → Q (.inl (some (pI (nI 0)))) K I' R) (q2 : (isN sk 100 ∧ isN mi 100 ∧ isN ro 2) → ¬ (pn σ < 10) → ∀ I', FrM I I' → I' MO 28 = nI 2 → mv I' = σ → Q (.inl (some (pI (nI 0)))) K I' R) (q0 : (isN sk 100 ∧ isN mi 100 ∧ isN ro 2) → pn σ < 10 → ∀ I', FrM I I' → I' MO 28 = nI 0 → mv I' = wrS σ sk mi ro → ∀ v, v = nI (pn σ) → Q (.inl (some (pI v))) K I' R) : Mw d b N_X6_wrestler 0 [some (pR (some MO)), some (pI sk), some (pI mi), some (pI ro)] [] K I R Q := by
  obtain ⟨d9, rfl⟩ : ∃ d9, d = d9 + 1 := ⟨d - 1, by omega⟩
  have hpp := hV.1.2
  have htt := hV.2.1.2
  have hdd := hV.2.2.1.2
  refine mw_aload i_83_0 (L := MO) rfl ?_
  have J1 : Mw (d9 + 1) b 83 19 [some (pR (some MO)), some (pI sk), some (pI mi), some (pI ro)] [pI (bI (isN sk 100 ∧ isN mi 100 ∧ isN ro 2)), pR (some MO)] K I R Q := by
    have J2 : Mw (d9 + 1) b 83 26 [some (pR (some MO)), some (pI sk), some (pI mi), some (pI ro)] [pI (bI (pn σ < 10)), pI (bI (isN sk 100 ∧ isN mi 100 ∧ isN ro 2)), pR (some MO)] K I R Q := by
      refine mw_const i_83_26 (v := nI 1) (by decide) ?_
      refine mw_callV i_83_27 mf_76 (as := [pI (bI (isN sk 100 ∧ isN mi 100 ∧ isN ro 2)), pI (bI (pn σ < 10)), pI (nI 1)]) (rest := []) (d' := d9) (b' := b) (ls0 := [some (pR (some MO)), some (pI (bI (isN sk 100 ∧ isN mi 100 ∧ isN ro 2))), some (pI (bI (pn σ < 10))), some (pI (nI 1))]) rfl rfl rfl (Nat.le_of_ble_eq_true rfl) (MK_o hM) rfl rfl rfl ?_
      refine m_goes hM ?_
      rw [show gz (bI (isN sk 100 ∧ isN mi 100 ∧ isN ro 2)) (bI (pn σ < 10)) (nI 1) = gn (isN sk 100 ∧ isN mi 100 ∧ isN ro 2) (pn σ < 10) True from by unfold gn; rw [bI_T]]
      obtain ⟨Ig3, eIg3⟩ : ∃ Ig3, Ig3 = up2 I MO 28 (nI (gn (isN sk 100 ∧ isN mi 100 ∧ isN ro 2) (pn σ < 10) True)) := ⟨_, rfl⟩
      rw [← eIg3]
      refine aft_v ?_
      refine mw_neB i_83_28 rfl (fun c4 => ?_) (fun c4 => ?_)
      · skip
        obtain ⟨p1, p2, p3⟩ := gn_0.mp c4
        refine mw_aload i_83_31 (L := MO) rfl ?_
        refine mw_getR i_83_32 (MK_o hM) (q := some (MA 1)) (MK_r hM 1 (by decide)) ?_
        refine mw_aload i_83_33 (L := MO) rfl ?_
        refine mw_get i_83_34 (MK_o hM) (v := nI (pn σ)) (by rw [eIg3, up2_slot (by decide)]; exact ((rs hm (by decide)).trans hV.1.1)) ?_
        refine mw_iload i_83_35 (x := sk) rfl ?_
        obtain ⟨I25, e25⟩ : ∃ I25, I25 = up2 Ig3 (MA 1) (pn σ) sk := ⟨_, rfl⟩
        refine mw_iast i_83_36 (jn := pn σ) (n := 10) (by omega) (by omega) (x := sk) (show K (MA 1) = some (7, 10) from MK_k hM 1 (by decide)) (I' := I25) e25.symm ?_
        refine mw_aload i_83_37 (L := MO) rfl ?_
        refine mw_getR i_83_38 (MK_o hM) (q := some (MA 2)) (MK_r hM 2 (by decide)) ?_
        refine mw_aload i_83_39 (L := MO) rfl ?_
        refine mw_get i_83_40 (MK_o hM) (v := nI (pn σ)) (by rw [e25, up2_ne (by simp), eIg3, up2_slot (by decide)]; exact ((rs hm (by decide)).trans hV.1.1)) ?_
        refine mw_iload i_83_41 (x := mi) rfl ?_
        obtain ⟨I26, e26⟩ : ∃ I26, I26 = up2 I25 (MA 2) (pn σ) mi := ⟨_, rfl⟩
        refine mw_iast i_83_42 (jn := pn σ) (n := 10) (by omega) (by omega) (x := mi) (show K (MA 2) = some (7, 10) from MK_k hM 2 (by decide)) (I' := I26) e26.symm ?_
        refine mw_aload i_83_43 (L := MO) rfl ?_
        refine mw_getR i_83_44 (MK_o hM) (q := some (MA 3)) (MK_r hM 3 (by decide)) ?_
        refine mw_aload i_83_45 (L := MO) rfl ?_
        refine mw_get i_83_46 (MK_o hM) (v := nI (pn σ)) (by rw [e26, up2_ne (by simp), e25, up2_ne (by simp), eIg3, up2_slot (by decide)]; exact ((rs hm (by decide)).trans hV.1.1)) ?_
        refine mw_iload i_83_47 (x := ro) rfl ?_
        obtain ⟨I27, e27⟩ : ∃ I27, I27 = up2 I26 (MA 3) (pn σ) ro := ⟨_, rfl⟩
        refine mw_iast i_83_48 (jn := pn σ) (n := 10) (by omega) (by omega) (x := ro) (show K (MA 3) = some (7, 10) from MK_k hM 3 (by decide)) (I' := I27) e27.symm ?_
        refine mw_aload i_83_49 (L := MO) rfl ?_
        refine mw_dup i_83_50 trivial ?_
        refine mw_get i_83_51 (MK_o hM) (v := nI (pn σ)) (by rw [e27, up2_ne (by simp), e26, up2_ne (by simp), e25, up2_ne (by simp), eIg3, up2_slot (by decide)]; exact ((rs hm (by decide)).trans hV.1.1)) ?_
        refine mw_const i_83_52 (v := nI 1) (by decide) ?_
        refine mw_iadd i_83_53 (w := nI (pn σ + 1)) (nI_add _ _) ?_
        obtain ⟨I28, e28⟩ : ∃ I28, I28 = up2 I27 MO 14 (nI (pn σ + 1)) := ⟨_, rfl⟩
        refine mw_put i_83_54 (x := nI (pn σ + 1)) (MK_o hM) (I' := I28) e28.symm ?_
        refine mw_aload i_83_55 (L := MO) rfl ?_
        refine mw_get i_83_56 (MK_o hM) (v := nI (pn σ + 1)) (by rw [e28, up2_at, upd_at]) ?_
        refine mw_const i_83_57 (v := nI 1) (by decide) ?_
        refine mw_isub i_83_58 (w := ((nI (pn σ + 1)) - (nI 1))) rfl ?_
        refine mw_iretI i_83_59 (x := ((nI (pn σ + 1)) - (nI 1))) rt_83 ?_
        exact q0 p1 p2 _ ((e28.symm ▸ FrM_up ((e27.symm ▸ FrM_up ((e26.symm ▸ FrM_up ((e25.symm ▸ FrM_up ((eIg3.symm ▸ FrM_up (FrM_rfl) (by decide))) (by decide))) (by decide))) (by decide))) (by decide))) (by rw [e28, up2_at, upd_ne (by decide), e27, up2_ne (by simp), e26, up2_ne (by simp), e25, up2_ne (by simp), eIg3, up2_at, upd_at, c4]) (by rw [e28, mv_s (by decide), e27, mv_a (by decide) (by decide) (by decide) (by decide), e26, mv_a (by decide) (by decide) (by decide) (by decide), e25, mv_a (by decide) (by decide) (by decide) (by decide), eIg3, mv_o (by decide), hm]; rfl) _ sub1
      · skip
        refine mw_const i_83_29 (v := nI 0) (by decide) ?_
        refine mw_iretI i_83_30 (x := nI 0) rt_83 ?_
        have h28 : Ig3 MO 28 = nI (gn (isN sk 100 ∧ isN mi 100 ∧ isN ro 2) (pn σ < 10) True) := by rw [eIg3, up2_at, upd_at]
        have hmv : mv Ig3 = σ := by rw [eIg3, mv_o (by decide), hm]
        have hfr : FrM I Ig3 := (eIg3.symm ▸ FrM_up (FrM_rfl) (by decide))
        by_cases p19 : isN sk 100 ∧ isN mi 100 ∧ isN ro 2
        rotate_left
        · exact q1 p19 Ig3 hfr (h28.trans (by rw [gn_1 p19])) hmv
        by_cases p29 : pn σ < 10
        rotate_left
        · exact q2 p19 p29 Ig3 hfr (h28.trans (by rw [gn_2 p19 p29])) hmv
        exact absurd (gn_t p19 p29 trivial) c4
    refine mw_aload i_83_19 (L := MO) rfl ?_
    refine mw_get i_83_20 (MK_o hM) (v := nI (pn σ)) ((rs hm (by decide)).trans hV.1.1) ?_
    refine mw_const i_83_21 (v := nI 10) (by decide) ?_
    refine mw_ic i_83_22 (p := 10 ≤ (pn σ)) (nI_leI (by omega) (by omega)) (fun c9 => ?_) (fun c9 => ?_)
    · skip
      refine mw_const i_83_25 (v := nI 0) (by decide) ?_
      rw [show nI 0 = bI (pn σ < 10) from (bI_f ((by omega))).symm]
      exact J2
    · skip
      refine mw_const i_83_23 (v := nI 1) (by decide) ?_
      refine mw_goto i_83_24 ?_
      rw [show nI 1 = bI (pn σ < 10) from (bI_t ((by omega))).symm]
      exact J2
  refine mw_iload i_83_1 (x := sk) rfl ?_
  refine mw_const i_83_2 (v := nI 0) (by decide) ?_
  refine mw_const i_83_3 (v := nI 99) (by decide) ?_
  refine mw_callS i_83_4 mf_75 (as := [pI sk, pI (nI 0), pI (nI 99)]) (rest := [pR (some MO)]) (d' := d9) (b' := b) (ls0 := [some (pI sk), some (pI (nI 0)), some (pI (nI 99))]) rfl rfl rfl (Nat.le_of_ble_eq_true rfl) rfl rfl rfl ?_
  refine m_in ?_
  rw [bI_congr (inr_isN (x := sk) (n := 99) (by decide))]
  refine aft_v ?_
  refine mw_eqB i_83_5 rfl (fun c10 => ?_) (fun c10 => ?_)
  · skip
    refine mw_const i_83_18 (v := nI 0) (by decide) ?_
    rw [show nI 0 = bI (isN sk 100 ∧ isN mi 100 ∧ isN ro 2) from (bI_f (fun h => c10 h.1)).symm]
    exact J1
  · skip
    refine mw_iload i_83_6 (x := mi) rfl ?_
    refine mw_const i_83_7 (v := nI 0) (by decide) ?_
    refine mw_const i_83_8 (v := nI 99) (by decide) ?_
    refine mw_callS i_83_9 mf_75 (as := [pI mi, pI (nI 0), pI (nI 99)]) (rest := [pR (some MO)]) (d' := d9) (b' := b) (ls0 := [some (pI mi), some (pI (nI 0)), some (pI (nI 99))]) rfl rfl rfl (Nat.le_of_ble_eq_true rfl) rfl rfl rfl ?_
    refine m_in ?_
    rw [bI_congr (inr_isN (x := mi) (n := 99) (by decide))]
    refine aft_v ?_
    refine mw_eqB i_83_10 rfl (fun c11 => ?_) (fun c11 => ?_)
    · skip
      refine mw_const i_83_18 (v := nI 0) (by decide) ?_
      rw [show nI 0 = bI (isN sk 100 ∧ isN mi 100 ∧ isN ro 2) from (bI_f (fun h => c11 h.2.1)).symm]
      exact J1
    · skip
      refine mw_iload i_83_11 (x := ro) rfl ?_
      refine mw_const i_83_12 (v := nI 0) (by decide) ?_
      refine mw_const i_83_13 (v := nI 1) (by decide) ?_
      refine mw_callS i_83_14 mf_75 (as := [pI ro, pI (nI 0), pI (nI 1)]) (rest := [pR (some MO)]) (d' := d9) (b' := b) (ls0 := [some (pI ro), some (pI (nI 0)), some (pI (nI 1))]) rfl rfl rfl (Nat.le_of_ble_eq_true rfl) rfl rfl rfl ?_
      refine m_in ?_
      rw [bI_congr (inr_isN (x := ro) (n := 1) (by decide))]
      refine aft_v ?_
      refine mw_eqB i_83_15 rfl (fun c12 => ?_) (fun c12 => ?_)
      · skip
        refine mw_const i_83_18 (v := nI 0) (by decide) ?_
        rw [show nI 0 = bI (isN sk 100 ∧ isN mi 100 ∧ isN ro 2) from (bI_f (fun h => c12 h.2.2)).symm]
        exact J1
      · skip
        refine mw_const i_83_16 (v := nI 1) (by decide) ?_
        refine mw_goto i_83_17 ?_
        rw [show nI 1 = bI (isN sk 100 ∧ isN mi 100 ∧ isN ro 2) from (bI_t (⟨c10, c11, c12⟩)).symm]
        exact J1
set_option maxRecDepth 20000 in
set_option maxHeartbeats 400000 in
theorem m_title {d b : Nat} {K : KM} {I : IM} {R : RM} {Q : QT} {n0 : Nat} {σ : ST}  (hd : 2 ≤ d) (hM : MK K R) (hm : mv I = σ) (hV : IV n0 σ)  (q1 : ¬ (tn σ < 4) → ∀ I', FrM I I' → I' MO 28 = nI 1 → mv I' = σ → Q (.inl (some (pI (nI 0)))) K I' R) (q0 : tn σ < 4 → ∀ I', FrM I I' → I' MO 28 = nI 0 → mv I' = tiS σ → ∀ v, v = nI (tn σ) → Q (.inl (some (pI v))) K I' R) : Mw d b N_X6_title 0 [some (pR (some MO))] [] K I R Q := by
  obtain ⟨d9, rfl⟩ : ∃ d9, d = d9 + 1 := ⟨d - 1, by omega⟩
  have hpp := hV.1.2
  have htt := hV.2.1.2
  have hdd := hV.2.2.1.2
  refine mw_aload i_84_0 (L := MO) rfl ?_
  have J1 : Mw (d9 + 1) b 84 8 [some (pR (some MO))] [pI (bI (tn σ < 4)), pR (some MO)] K I R Q := by
    refine mw_const i_84_8 (v := nI 1) (by decide) ?_
    refine mw_const i_84_9 (v := nI 1) (by decide) ?_
    refine mw_callV i_84_10 mf_76 (as := [pI (bI (tn σ < 4)), pI (nI 1), pI (nI 1)]) (rest := []) (d' := d9) (b' := b) (ls0 := [some (pR (some MO)), some (pI (bI (tn σ < 4))), some (pI (nI 1)), some (pI (nI 1))]) rfl rfl rfl (Nat.le_of_ble_eq_true rfl) (MK_o hM) rfl rfl rfl ?_
    refine m_goes hM ?_
    rw [show gz (bI (tn σ < 4)) (nI 1) (nI 1) = gn (tn σ < 4) True True from by unfold gn; rw [bI_T]]
    obtain ⟨Ig2, eIg2⟩ : ∃ Ig2, Ig2 = up2 I MO 28 (nI (gn (tn σ < 4) True True)) := ⟨_, rfl⟩
    rw [← eIg2]
    refine aft_v ?_
    refine mw_neB i_84_11 rfl (fun c3 => ?_) (fun c3 => ?_)
    · skip
      obtain ⟨p1, p2, p3⟩ := gn_0.mp c3
      refine mw_aload i_84_14 (L := MO) rfl ?_
      refine mw_dup i_84_15 trivial ?_
      refine mw_get i_84_16 (MK_o hM) (v := nI (tn σ)) (by rw [eIg2, up2_slot (by decide)]; exact ((rs hm (by decide)).trans hV.2.1.1)) ?_
      refine mw_const i_84_17 (v := nI 1) (by decide) ?_
      refine mw_iadd i_84_18 (w := nI (tn σ + 1)) (nI_add _ _) ?_
      obtain ⟨I24, e24⟩ : ∃ I24, I24 = up2 Ig2 MO 18 (nI (tn σ + 1)) := ⟨_, rfl⟩
      refine mw_put i_84_19 (x := nI (tn σ + 1)) (MK_o hM) (I' := I24) e24.symm ?_
      refine mw_aload i_84_20 (L := MO) rfl ?_
      refine mw_get i_84_21 (MK_o hM) (v := nI (tn σ + 1)) (by rw [e24, up2_at, upd_at]) ?_
      refine mw_const i_84_22 (v := nI 1) (by decide) ?_
      refine mw_isub i_84_23 (w := ((nI (tn σ + 1)) - (nI 1))) rfl ?_
      refine mw_iretI i_84_24 (x := ((nI (tn σ + 1)) - (nI 1))) rt_84 ?_
      exact q0 p1 _ ((e24.symm ▸ FrM_up ((eIg2.symm ▸ FrM_up (FrM_rfl) (by decide))) (by decide))) (by rw [e24, up2_at, upd_ne (by decide), eIg2, up2_at, upd_at, c3]) (by rw [e24, mv_s (by decide), eIg2, mv_o (by decide), hm]; rfl) _ sub1
    · skip
      refine mw_const i_84_12 (v := nI 0) (by decide) ?_
      refine mw_iretI i_84_13 (x := nI 0) rt_84 ?_
      have h28 : Ig2 MO 28 = nI (gn (tn σ < 4) True True) := by rw [eIg2, up2_at, upd_at]
      have hmv : mv Ig2 = σ := by rw [eIg2, mv_o (by decide), hm]
      have hfr : FrM I Ig2 := (eIg2.symm ▸ FrM_up (FrM_rfl) (by decide))
      by_cases p19 : tn σ < 4
      rotate_left
      · exact q1 p19 Ig2 hfr (h28.trans (by rw [gn_1 p19])) hmv
      exact absurd (gn_t p19 trivial trivial) c3
  refine mw_aload i_84_1 (L := MO) rfl ?_
  refine mw_get i_84_2 (MK_o hM) (v := nI (tn σ)) ((rs hm (by decide)).trans hV.2.1.1) ?_
  refine mw_const i_84_3 (v := nI 4) (by decide) ?_
  refine mw_ic i_84_4 (p := 4 ≤ (tn σ)) (nI_leI (by omega) (by omega)) (fun c5 => ?_) (fun c5 => ?_)
  · skip
    refine mw_const i_84_7 (v := nI 0) (by decide) ?_
    rw [show nI 0 = bI (tn σ < 4) from (bI_f ((by omega))).symm]
    exact J1
  · skip
    refine mw_const i_84_5 (v := nI 1) (by decide) ?_
    refine mw_goto i_84_6 ?_
    rw [show nI 1 = bI (tn σ < 4) from (bI_t ((by omega))).symm]
    exact J1
set_option maxRecDepth 20000 in
set_option maxHeartbeats 400000 in
theorem m_clause {d b : Nat} {K : KM} {I : IM} {R : RM} {Q : QT} {n0 : Nat} {σ : ST} {w : Int32} {o : Int32} {un : Int32} (hd : 2 ≤ d) (hM : MK K R) (hm : mv I = σ) (hV : IV n0 σ)  (q1 : ¬ (isN w (pn σ) ∧ isN o (pn σ)) → ∀ I', FrM I I' → I' MO 28 = nI 1 → mv I' = σ → Q (.inl (some (pI (nI 0)))) K I' R) (q2 : (isN w (pn σ) ∧ isN o (pn σ)) → ¬ (¬ w = o ∧ inr un (-1) (nI 999)) → ∀ I', FrM I I' → I' MO 28 = nI 2 → mv I' = σ → Q (.inl (some (pI (nI 0)))) K I' R) (q0 : ∀ x y, x < pn σ → y < pn σ → w = nI x → o = nI y → (¬ w = o ∧ inr un (-1) (nI 999)) → ∀ I', FrM I I' → I' MO 28 = nI 0 → mv I' = ups σ 11 (10 * x + y) (un + nI 1) → ∀ v, v = σ 11 (10 * x + y) - nI 1 → Q (.inl (some (pI v))) K I' R) : Mw d b N_X6_clause 0 [some (pR (some MO)), some (pI w), some (pI o), some (pI un), none] [] K I R Q := by
  obtain ⟨d9, rfl⟩ : ∃ d9, d = d9 + 1 := ⟨d - 1, by omega⟩
  have hpp := hV.1.2
  have htt := hV.2.1.2
  have hdd := hV.2.2.1.2
  refine mw_aload i_85_0 (L := MO) rfl ?_
  have J1 : Mw (d9 + 1) b 85 12 [some (pR (some MO)), some (pI w), some (pI o), some (pI un), none] [pI (bI (isN w (pn σ) ∧ isN o (pn σ))), pR (some MO)] K I R Q := by
    have J2 : Mw (d9 + 1) b 85 23 [some (pR (some MO)), some (pI w), some (pI o), some (pI un), none] [pI (bI (¬ w = o ∧ inr un (-1) (nI 999))), pI (bI (isN w (pn σ) ∧ isN o (pn σ))), pR (some MO)] K I R Q := by
      refine mw_const i_85_23 (v := nI 1) (by decide) ?_
      refine mw_callV i_85_24 mf_76 (as := [pI (bI (isN w (pn σ) ∧ isN o (pn σ))), pI (bI (¬ w = o ∧ inr un (-1) (nI 999))), pI (nI 1)]) (rest := []) (d' := d9) (b' := b) (ls0 := [some (pR (some MO)), some (pI (bI (isN w (pn σ) ∧ isN o (pn σ)))), some (pI (bI (¬ w = o ∧ inr un (-1) (nI 999)))), some (pI (nI 1))]) rfl rfl rfl (Nat.le_of_ble_eq_true rfl) (MK_o hM) rfl rfl rfl ?_
      refine m_goes hM ?_
      rw [show gz (bI (isN w (pn σ) ∧ isN o (pn σ))) (bI (¬ w = o ∧ inr un (-1) (nI 999))) (nI 1) = gn (isN w (pn σ) ∧ isN o (pn σ)) (¬ w = o ∧ inr un (-1) (nI 999)) True from by unfold gn; rw [bI_T]]
      obtain ⟨Ig3, eIg3⟩ : ∃ Ig3, Ig3 = up2 I MO 28 (nI (gn (isN w (pn σ) ∧ isN o (pn σ)) (¬ w = o ∧ inr un (-1) (nI 999)) True)) := ⟨_, rfl⟩
      rw [← eIg3]
      refine aft_v ?_
      refine mw_neB i_85_25 rfl (fun c4 => ?_) (fun c4 => ?_)
      · skip
        obtain ⟨p1, p2, p3⟩ := gn_0.mp c4
        obtain ⟨⟨x, hx, rfl⟩, ⟨y, hy, rfl⟩⟩ := p1
        refine mw_aload i_85_28 (L := MO) rfl ?_
        refine mw_getR i_85_29 (MK_o hM) (q := some (MA 11)) (MK_r hM 11 (by decide)) ?_
        refine mw_const i_85_30 (v := nI 10) (by decide) ?_
        refine mw_iload i_85_31 (x := nI x) rfl ?_
        refine mw_imul i_85_32 (w := nI (10 * x)) (pk_mul _ _) ?_
        refine mw_iload i_85_33 (x := nI y) rfl ?_
        refine mw_iadd i_85_34 (w := nI (10 * x + y)) (nI_add _ _) ?_
        refine mw_iald i_85_35 (jn := 10 * x + y) (n := 100) (by omega) (by omega) (show K (MA 11) = some (7, 100) from MK_k hM 11 (by decide)) (by decide) (v := σ 11 (10 * x + y)) (by rw [eIg3, up2_ne (by simp)]; exact (rm hm (by decide) (10 * x + y))) ?_
        refine mw_const i_85_36 (v := nI 1) (by decide) ?_
        refine mw_isub i_85_37 (w := ((σ 11 (10 * x + y)) - (nI 1))) rfl ?_
        refine mw_istore i_85_38 (ls' := [some (pR (some MO)), some (pI (nI x)), some (pI (nI y)), some (pI un), some (pI ((σ 11 (10 * x + y)) - (nI 1)))]) rfl (Nat.le_of_ble_eq_true rfl) ?_
        refine mw_aload i_85_39 (L := MO) rfl ?_
        refine mw_getR i_85_40 (MK_o hM) (q := some (MA 11)) (MK_r hM 11 (by decide)) ?_
        refine mw_const i_85_41 (v := nI 10) (by decide) ?_
        refine mw_iload i_85_42 (x := nI x) rfl ?_
        refine mw_imul i_85_43 (w := nI (10 * x)) (pk_mul _ _) ?_
        refine mw_iload i_85_44 (x := nI y) rfl ?_
        refine mw_iadd i_85_45 (w := nI (10 * x + y)) (nI_add _ _) ?_
        refine mw_iload i_85_46 (x := un) rfl ?_
        refine mw_const i_85_47 (v := nI 1) (by decide) ?_
        refine mw_iadd i_85_48 (w := (un + (nI 1))) rfl ?_
        obtain ⟨I25, e25⟩ : ∃ I25, I25 = up2 Ig3 (MA 11) (10 * x + y) (un + (nI 1)) := ⟨_, rfl⟩
        refine mw_iast i_85_49 (jn := 10 * x + y) (n := 100) (by omega) (by omega) (x := (un + (nI 1))) (show K (MA 11) = some (7, 100) from MK_k hM 11 (by decide)) (I' := I25) e25.symm ?_
        refine mw_iload i_85_50 (x := ((σ 11 (10 * x + y)) - (nI 1))) rfl ?_
        refine mw_iretI i_85_51 (x := ((σ 11 (10 * x + y)) - (nI 1))) rt_85 ?_
        exact q0 x y hx hy rfl rfl p2 _ ((e25.symm ▸ FrM_up ((eIg3.symm ▸ FrM_up (FrM_rfl) (by decide))) (by decide))) (by rw [e25, up2_ne (by simp), eIg3, up2_at, upd_at, c4]) (by rw [e25, mv_a (by decide) (by decide) (by decide) (by decide), eIg3, mv_o (by decide), hm]) _ rfl
      · skip
        refine mw_const i_85_26 (v := nI 0) (by decide) ?_
        refine mw_iretI i_85_27 (x := nI 0) rt_85 ?_
        have h28 : Ig3 MO 28 = nI (gn (isN w (pn σ) ∧ isN o (pn σ)) (¬ w = o ∧ inr un (-1) (nI 999)) True) := by rw [eIg3, up2_at, upd_at]
        have hmv : mv Ig3 = σ := by rw [eIg3, mv_o (by decide), hm]
        have hfr : FrM I Ig3 := (eIg3.symm ▸ FrM_up (FrM_rfl) (by decide))
        by_cases p19 : isN w (pn σ) ∧ isN o (pn σ)
        rotate_left
        · exact q1 p19 Ig3 hfr (h28.trans (by rw [gn_1 p19])) hmv
        by_cases p29 : ¬ w = o ∧ inr un (-1) (nI 999)
        rotate_left
        · exact q2 p19 p29 Ig3 hfr (h28.trans (by rw [gn_2 p19 p29])) hmv
        exact absurd (gn_t p19 p29 trivial) c4
    refine mw_iload i_85_12 (x := w) rfl ?_
    refine mw_iload i_85_13 (x := o) rfl ?_
    refine mw_ic i_85_14 (p := w = o) Iff.rfl (fun c6 => ?_) (fun c6 => ?_)
    · skip
      refine mw_const i_85_22 (v := nI 0) (by decide) ?_
      rw [show nI 0 = bI (¬ w = o ∧ inr un (-1) (nI 999)) from (bI_f ((fun h => h.1 c6))).symm]
      exact J2
    · skip
      refine mw_iload i_85_15 (x := un) rfl ?_
      refine mw_const i_85_16 (v := (-1)) (by decide) ?_
      refine mw_const i_85_17 (v := nI 999) (by decide) ?_
      refine mw_callS i_85_18 mf_75 (as := [pI un, pI (-1), pI (nI 999)]) (rest := [pI (bI (isN w (pn σ) ∧ isN o (pn σ))), pR (some MO)]) (d' := d9) (b' := b) (ls0 := [some (pI un), some (pI (-1)), some (pI (nI 999))]) rfl rfl rfl (Nat.le_of_ble_eq_true rfl) rfl rfl rfl ?_
      refine m_in ?_
      refine aft_v ?_
      refine mw_eqB i_85_19 rfl (fun c7 => ?_) (fun c7 => ?_)
      · skip
        refine mw_const i_85_22 (v := nI 0) (by decide) ?_
        rw [show nI 0 = bI (¬ w = o ∧ inr un (-1) (nI 999)) from (bI_f ((fun h => c7 h.2))).symm]
        exact J2
      · skip
        refine mw_const i_85_20 (v := nI 1) (by decide) ?_
        refine mw_goto i_85_21 ?_
        rw [show nI 1 = bI (¬ w = o ∧ inr un (-1) (nI 999)) from (bI_t (⟨c6, c7⟩)).symm]
        exact J2
  refine mw_aload i_85_1 (L := MO) rfl ?_
  refine mw_iload i_85_2 (x := w) rfl ?_
  refine mw_callV i_85_3 mf_78 (as := [pI w]) (rest := [pR (some MO)]) (d' := d9) (b' := b) (ls0 := [some (pR (some MO)), some (pI w)]) rfl rfl rfl (Nat.le_of_ble_eq_true rfl) (MK_o hM) rfl rfl rfl ?_
  refine m_isOne (by omega) hM ((rs hm (by decide)).trans hV.1.1) hpp ?_
  refine aft_v ?_
  refine mw_eqB i_85_4 rfl (fun c8 => ?_) (fun c8 => ?_)
  · skip
    refine mw_const i_85_11 (v := nI 0) (by decide) ?_
    rw [show nI 0 = bI (isN w (pn σ) ∧ isN o (pn σ)) from (bI_f (fun h => c8 h.1)).symm]
    exact J1
  · skip
    refine mw_aload i_85_5 (L := MO) rfl ?_
    refine mw_iload i_85_6 (x := o) rfl ?_
    refine mw_callV i_85_7 mf_78 (as := [pI o]) (rest := [pR (some MO)]) (d' := d9) (b' := b) (ls0 := [some (pR (some MO)), some (pI o)]) rfl rfl rfl (Nat.le_of_ble_eq_true rfl) (MK_o hM) rfl rfl rfl ?_
    refine m_isOne (by omega) hM ((rs hm (by decide)).trans hV.1.1) hpp ?_
    refine aft_v ?_
    refine mw_eqB i_85_8 rfl (fun c9 => ?_) (fun c9 => ?_)
    · skip
      refine mw_const i_85_11 (v := nI 0) (by decide) ?_
      rw [show nI 0 = bI (isN w (pn σ) ∧ isN o (pn σ)) from (bI_f (fun h => c9 h.2)).symm]
      exact J1
    · skip
      refine mw_const i_85_9 (v := nI 1) (by decide) ?_
      refine mw_goto i_85_10 ?_
      rw [show nI 1 = bI (isN w (pn σ) ∧ isN o (pn σ)) from (bI_t (⟨c8, c9⟩)).symm]
      exact J1
set_option maxRecDepth 20000 in
set_option maxHeartbeats 400000 in
theorem m_protect {d b : Nat} {K : KM} {I : IM} {R : RM} {Q : QT} {n0 : Nat} {σ : ST} {w : Int32} {day : Int32} (hd : 2 ≤ d) (hM : MK K R) (hm : mv I = σ) (hV : IV n0 σ)  (q1 : ¬ (isN w (pn σ)) → ∀ I', FrM I I' → I' MO 28 = nI 1 → mv I' = σ → Q (.inl (some (pI (nI 0)))) K I' R) (q2 : (isN w (pn σ)) → ¬ (isN day 1000) → ∀ I', FrM I I' → I' MO 28 = nI 2 → mv I' = σ → Q (.inl (some (pI (nI 0)))) K I' R) (q0 : ∀ x, x < pn σ → w = nI x → isN day 1000 → ∀ I', FrM I I' → I' MO 28 = nI 0 → mv I' = ups σ 12 x day → ∀ v, v = σ 12 x → Q (.inl (some (pI v))) K I' R) : Mw d b N_X6_protect 0 [some (pR (some MO)), some (pI w), some (pI day), none] [] K I R Q := by
  obtain ⟨d9, rfl⟩ : ∃ d9, d = d9 + 1 := ⟨d - 1, by omega⟩
  have hpp := hV.1.2
  have htt := hV.2.1.2
  have hdd := hV.2.2.1.2
  refine mw_aload i_86_0 (L := MO) rfl ?_
  refine mw_aload i_86_1 (L := MO) rfl ?_
  refine mw_iload i_86_2 (x := w) rfl ?_
  refine mw_callV i_86_3 mf_78 (as := [pI w]) (rest := [pR (some MO)]) (d' := d9) (b' := b) (ls0 := [some (pR (some MO)), some (pI w)]) rfl rfl rfl (Nat.le_of_ble_eq_true rfl) (MK_o hM) rfl rfl rfl ?_
  refine m_isOne (by omega) hM ((rs hm (by decide)).trans hV.1.1) hpp ?_
  refine aft_v ?_
  refine mw_iload i_86_4 (x := day) rfl ?_
  refine mw_const i_86_5 (v := nI 0) (by decide) ?_
  refine mw_const i_86_6 (v := nI 999) (by decide) ?_
  refine mw_callS i_86_7 mf_75 (as := [pI day, pI (nI 0), pI (nI 999)]) (rest := [pI (bI (isN w (pn σ))), pR (some MO)]) (d' := d9) (b' := b) (ls0 := [some (pI day), some (pI (nI 0)), some (pI (nI 999))]) rfl rfl rfl (Nat.le_of_ble_eq_true rfl) rfl rfl rfl ?_
  refine m_in ?_
  rw [bI_congr (inr_isN (x := day) (n := 999) (by decide))]
  refine aft_v ?_
  refine mw_const i_86_8 (v := nI 1) (by decide) ?_
  refine mw_callV i_86_9 mf_76 (as := [pI (bI (isN w (pn σ))), pI (bI (isN day 1000)), pI (nI 1)]) (rest := []) (d' := d9) (b' := b) (ls0 := [some (pR (some MO)), some (pI (bI (isN w (pn σ)))), some (pI (bI (isN day 1000))), some (pI (nI 1))]) rfl rfl rfl (Nat.le_of_ble_eq_true rfl) (MK_o hM) rfl rfl rfl ?_
  refine m_goes hM ?_
  rw [show gz (bI (isN w (pn σ))) (bI (isN day 1000)) (nI 1) = gn (isN w (pn σ)) (isN day 1000) True from by unfold gn; rw [bI_T]]
  obtain ⟨Ig1, eIg1⟩ : ∃ Ig1, Ig1 = up2 I MO 28 (nI (gn (isN w (pn σ)) (isN day 1000) True)) := ⟨_, rfl⟩
  rw [← eIg1]
  refine aft_v ?_
  refine mw_neB i_86_10 rfl (fun c2 => ?_) (fun c2 => ?_)
  · skip
    obtain ⟨p1, p2, p3⟩ := gn_0.mp c2
    obtain ⟨x, hx, rfl⟩ := p1
    refine mw_aload i_86_13 (L := MO) rfl ?_
    refine mw_getR i_86_14 (MK_o hM) (q := some (MA 12)) (MK_r hM 12 (by decide)) ?_
    refine mw_iload i_86_15 (x := nI x) rfl ?_
    refine mw_iald i_86_16 (jn := x) (n := 10) (by omega) (by omega) (show K (MA 12) = some (7, 10) from MK_k hM 12 (by decide)) (by decide) (v := σ 12 x) (by rw [eIg1, up2_ne (by simp)]; exact (rm hm (by decide) x)) ?_
    refine mw_istore i_86_17 (ls' := [some (pR (some MO)), some (pI (nI x)), some (pI day), some (pI (σ 12 x))]) rfl (Nat.le_of_ble_eq_true rfl) ?_
    refine mw_aload i_86_18 (L := MO) rfl ?_
    refine mw_getR i_86_19 (MK_o hM) (q := some (MA 12)) (MK_r hM 12 (by decide)) ?_
    refine mw_iload i_86_20 (x := nI x) rfl ?_
    refine mw_iload i_86_21 (x := day) rfl ?_
    obtain ⟨I23, e23⟩ : ∃ I23, I23 = up2 Ig1 (MA 12) x day := ⟨_, rfl⟩
    refine mw_iast i_86_22 (jn := x) (n := 10) (by omega) (by omega) (x := day) (show K (MA 12) = some (7, 10) from MK_k hM 12 (by decide)) (I' := I23) e23.symm ?_
    refine mw_iload i_86_23 (x := σ 12 x) rfl ?_
    refine mw_iretI i_86_24 (x := σ 12 x) rt_86 ?_
    exact q0 x hx rfl p2 _ ((e23.symm ▸ FrM_up ((eIg1.symm ▸ FrM_up (FrM_rfl) (by decide))) (by decide))) (by rw [e23, up2_ne (by simp), eIg1, up2_at, upd_at, c2]) (by rw [e23, mv_a (by decide) (by decide) (by decide) (by decide), eIg1, mv_o (by decide), hm]) _ rfl
  · skip
    refine mw_const i_86_11 (v := nI 0) (by decide) ?_
    refine mw_iretI i_86_12 (x := nI 0) rt_86 ?_
    have h28 : Ig1 MO 28 = nI (gn (isN w (pn σ)) (isN day 1000) True) := by rw [eIg1, up2_at, upd_at]
    have hmv : mv Ig1 = σ := by rw [eIg1, mv_o (by decide), hm]
    have hfr : FrM I Ig1 := (eIg1.symm ▸ FrM_up (FrM_rfl) (by decide))
    by_cases p19 : isN w (pn σ)
    rotate_left
    · exact q1 p19 Ig1 hfr (h28.trans (by rw [gn_1 p19])) hmv
    by_cases p29 : isN day 1000
    rotate_left
    · exact q2 p19 p29 Ig1 hfr (h28.trans (by rw [gn_2 p19 p29])) hmv
    exact absurd (gn_t p19 p29 trivial) c2
