/-! the reference books -/
set_option maxRecDepth 20000 in
set_option maxHeartbeats 400000 in
theorem m_book_o {d b : Nat} {K : KM} {I : IM} {R : RM} {Q : QT} {n0 : Nat} {σ : ST} {day tw fi se mi ti : Int32} {pb : Prop} (hd : 3 ≤ d) (hM : MK K R) (hm : mv I = σ) (hV : IV n0 σ) (hno : ¬ (isN tw 4 ∧ isN fi (pn σ) ∧ isN se (pn σ) ∧ (ti = (-1) ∨ isN ti (tn σ)))) (q1 : ¬ (isN tw 4 ∧ isN fi (pn σ) ∧ isN se (pn σ) ∧ (ti = (-1) ∨ isN ti (tn σ))) → ∀ I', FrM I I' → I' MO 28 = nI 1 → mv I' = σ → Q (.inl (some (pI (nI 0)))) K I' R) (q2 : (isN tw 4 ∧ isN fi (pn σ) ∧ isN se (pn σ) ∧ (ti = (-1) ∨ isN ti (tn σ))) → ¬ (inr day (nI (dn σ)) (nI 999) ∧ inr mi (nI 1) (nI 60) ∧ ¬ fi = se) → ∀ I', FrM I I' → I' MO 28 = nI 2 → mv I' = σ → Q (.inl (some (pI (nI 0)))) K I' R) (q3 : (isN tw 4 ∧ isN fi (pn σ) ∧ isN se (pn σ) ∧ (ti = (-1) ∨ isN ti (tn σ))) → (inr day (nI (dn σ)) (nI 999) ∧ inr mi (nI 1) (nI 60) ∧ ¬ fi = se) → ¬ (False) → ∀ I', FrM I I' → I' MO 28 = nI 3 → mv I' = σ → Q (.inl (some (pI (nI 0)))) K I' R)  : Mw d b N_X6_book 0 [some (pR (some MO)), some (pI day), some (pI tw), some (pI fi), some (pI se), some (pI (bI pb)), some (pI mi), some (pI ti), none, none, none, none] [] K I R Q := by
  obtain ⟨d9, rfl⟩ : ∃ d9, d = d9 + 1 := ⟨d - 1, by omega⟩
  have hpp := hV.1.2
  have htt := hV.2.1.2
  have hdd := hV.2.2.1.2
  have J1 : Mw (d9 + 1) b 93 21 [some (pR (some MO)), some (pI day), some (pI tw), some (pI fi), some (pI se), some (pI (bI pb)), some (pI mi), some (pI ti), none, none, none, none] [pI (bI (isN tw 4 ∧ isN fi (pn σ) ∧ isN se (pn σ) ∧ (ti = (-1) ∨ isN ti (tn σ))))] K I R Q := by
    refine mw_istore i_93_21 (ls' := [some (pR (some MO)), some (pI day), some (pI tw), some (pI fi), some (pI se), some (pI (bI pb)), some (pI mi), some (pI ti), some (pI (bI (isN tw 4 ∧ isN fi (pn σ) ∧ isN se (pn σ) ∧ (ti = (-1) ∨ isN ti (tn σ))))), none, none, none]) rfl (Nat.le_of_ble_eq_true rfl) ?_
    have J2 : Mw (d9 + 1) b 93 39 [some (pR (some MO)), some (pI day), some (pI tw), some (pI fi), some (pI se), some (pI (bI pb)), some (pI mi), some (pI ti), some (pI (bI (isN tw 4 ∧ isN fi (pn σ) ∧ isN se (pn σ) ∧ (ti = (-1) ∨ isN ti (tn σ))))), none, none, none] [pI (bI (inr day (nI (dn σ)) (nI 999) ∧ inr mi (nI 1) (nI 60) ∧ ¬ fi = se))] K I R Q := by
      refine mw_istore i_93_39 (ls' := [some (pR (some MO)), some (pI day), some (pI tw), some (pI fi), some (pI se), some (pI (bI pb)), some (pI mi), some (pI ti), some (pI (bI (isN tw 4 ∧ isN fi (pn σ) ∧ isN se (pn σ) ∧ (ti = (-1) ∨ isN ti (tn σ))))), some (pI (bI (inr day (nI (dn σ)) (nI 999) ∧ inr mi (nI 1) (nI 60) ∧ ¬ fi = se))), none, none]) rfl (Nat.le_of_ble_eq_true rfl) ?_
      have J3 : Mw (d9 + 1) b 93 70 [some (pR (some MO)), some (pI day), some (pI tw), some (pI fi), some (pI se), some (pI (bI pb)), some (pI mi), some (pI ti), some (pI (bI (isN tw 4 ∧ isN fi (pn σ) ∧ isN se (pn σ) ∧ (ti = (-1) ∨ isN ti (tn σ))))), some (pI (bI (inr day (nI (dn σ)) (nI 999) ∧ inr mi (nI 1) (nI 60) ∧ ¬ fi = se))), none, none] [pI (bI False)] K I R Q := by
        refine mw_istore i_93_70 (ls' := [some (pR (some MO)), some (pI day), some (pI tw), some (pI fi), some (pI se), some (pI (bI pb)), some (pI mi), some (pI ti), some (pI (bI (isN tw 4 ∧ isN fi (pn σ) ∧ isN se (pn σ) ∧ (ti = (-1) ∨ isN ti (tn σ))))), some (pI (bI (inr day (nI (dn σ)) (nI 999) ∧ inr mi (nI 1) (nI 60) ∧ ¬ fi = se))), some (pI (bI False)), none]) rfl (Nat.le_of_ble_eq_true rfl) ?_
        refine mw_aload i_93_71 (L := MO) rfl ?_
        refine mw_iload i_93_72 (x := bI (isN tw 4 ∧ isN fi (pn σ) ∧ isN se (pn σ) ∧ (ti = (-1) ∨ isN ti (tn σ)))) rfl ?_
        refine mw_iload i_93_73 (x := bI (inr day (nI (dn σ)) (nI 999) ∧ inr mi (nI 1) (nI 60) ∧ ¬ fi = se)) rfl ?_
        refine mw_iload i_93_74 (x := bI False) rfl ?_
        refine mw_callV i_93_75 mf_76 (as := [pI (bI (isN tw 4 ∧ isN fi (pn σ) ∧ isN se (pn σ) ∧ (ti = (-1) ∨ isN ti (tn σ)))), pI (bI (inr day (nI (dn σ)) (nI 999) ∧ inr mi (nI 1) (nI 60) ∧ ¬ fi = se)), pI (bI False)]) (rest := []) (d' := d9) (b' := b) (ls0 := [some (pR (some MO)), some (pI (bI (isN tw 4 ∧ isN fi (pn σ) ∧ isN se (pn σ) ∧ (ti = (-1) ∨ isN ti (tn σ))))), some (pI (bI (inr day (nI (dn σ)) (nI 999) ∧ inr mi (nI 1) (nI 60) ∧ ¬ fi = se))), some (pI (bI False))]) rfl rfl rfl (Nat.le_of_ble_eq_true rfl) (MK_o hM) rfl rfl rfl ?_
        refine m_goes hM ?_
        rw [show gz (bI (isN tw 4 ∧ isN fi (pn σ) ∧ isN se (pn σ) ∧ (ti = (-1) ∨ isN ti (tn σ)))) (bI (inr day (nI (dn σ)) (nI 999) ∧ inr mi (nI 1) (nI 60) ∧ ¬ fi = se)) (bI False) = gn (isN tw 4 ∧ isN fi (pn σ) ∧ isN se (pn σ) ∧ (ti = (-1) ∨ isN ti (tn σ))) (inr day (nI (dn σ)) (nI 999) ∧ inr mi (nI 1) (nI 60) ∧ ¬ fi = se) False from rfl]
        obtain ⟨Ig4, eIg4⟩ : ∃ Ig4, Ig4 = up2 I MO 28 (nI (gn (isN tw 4 ∧ isN fi (pn σ) ∧ isN se (pn σ) ∧ (ti = (-1) ∨ isN ti (tn σ))) (inr day (nI (dn σ)) (nI 999) ∧ inr mi (nI 1) (nI 60) ∧ ¬ fi = se) False)) := ⟨_, rfl⟩
        rw [← eIg4]
        refine aft_v ?_
        refine mw_neB i_93_76 rfl (fun c5 => ?_) (fun c5 => ?_)
        · skip
          obtain ⟨p1, p2, p3⟩ := gn_0.mp c5
          exact p3.elim
        · skip
          refine mw_const i_93_77 (v := nI 0) (by decide) ?_
          refine mw_iretI i_93_78 (x := nI 0) rt_93 ?_
          have h28 : Ig4 MO 28 = nI (gn (isN tw 4 ∧ isN fi (pn σ) ∧ isN se (pn σ) ∧ (ti = (-1) ∨ isN ti (tn σ))) (inr day (nI (dn σ)) (nI 999) ∧ inr mi (nI 1) (nI 60) ∧ ¬ fi = se) False) := by rw [eIg4, up2_at, upd_at]
          have hmv : mv Ig4 = σ := by rw [eIg4, mv_o (by decide), hm]
          have hfr : FrM I Ig4 := (eIg4.symm ▸ FrM_up (FrM_rfl) (by decide))
          by_cases p19 : isN tw 4 ∧ isN fi (pn σ) ∧ isN se (pn σ) ∧ (ti = (-1) ∨ isN ti (tn σ))
          rotate_left
          · exact q1 p19 Ig4 hfr (h28.trans (by rw [gn_1 p19])) hmv
          by_cases p29 : inr day (nI (dn σ)) (nI 999) ∧ inr mi (nI 1) (nI 60) ∧ ¬ fi = se
          rotate_left
          · exact q2 p19 p29 Ig4 hfr (h28.trans (by rw [gn_2 p19 p29])) hmv
          by_cases p39 : False
          rotate_left
          · exact q3 p19 p29 p39 Ig4 hfr (h28.trans (by rw [gn_3 p19 p29 p39])) hmv
          exact absurd (gn_t p19 p29 p39) c5
      refine mw_iload i_93_40 (x := bI (isN tw 4 ∧ isN fi (pn σ) ∧ isN se (pn σ) ∧ (ti = (-1) ∨ isN ti (tn σ)))) rfl ?_
      refine mw_eqB i_93_41 rfl (fun c6 => ?_) (fun c6 => ?_)
      · skip
        refine mw_const i_93_69 (v := nI 0) (by decide) ?_
        rw [show nI 0 = bI (False) from (bI_f ((fun h => h))).symm]
        exact J3
      · skip
        exact absurd c6 hno
    refine mw_iload i_93_22 (x := day) rfl ?_
    refine mw_aload i_93_23 (L := MO) rfl ?_
    refine mw_get i_93_24 (MK_o hM) (v := nI (dn σ)) ((rs hm (by decide)).trans hV.2.2.1.1) ?_
    refine mw_const i_93_25 (v := nI 999) (by decide) ?_
    refine mw_callS i_93_26 mf_75 (as := [pI day, pI (nI (dn σ)), pI (nI 999)]) (rest := []) (d' := d9) (b' := b) (ls0 := [some (pI day), some (pI (nI (dn σ))), some (pI (nI 999))]) rfl rfl rfl (Nat.le_of_ble_eq_true rfl) rfl rfl rfl ?_
    refine m_in ?_
    refine aft_v ?_
    refine mw_eqB i_93_27 rfl (fun c7 => ?_) (fun c7 => ?_)
    · skip
      refine mw_const i_93_38 (v := nI 0) (by decide) ?_
      rw [show nI 0 = bI (inr day (nI (dn σ)) (nI 999) ∧ inr mi (nI 1) (nI 60) ∧ ¬ fi = se) from (bI_f ((fun h => c7 h.1))).symm]
      exact J2
    · skip
      refine mw_iload i_93_28 (x := mi) rfl ?_
      refine mw_const i_93_29 (v := nI 1) (by decide) ?_
      refine mw_const i_93_30 (v := nI 60) (by decide) ?_
      refine mw_callS i_93_31 mf_75 (as := [pI mi, pI (nI 1), pI (nI 60)]) (rest := []) (d' := d9) (b' := b) (ls0 := [some (pI mi), some (pI (nI 1)), some (pI (nI 60))]) rfl rfl rfl (Nat.le_of_ble_eq_true rfl) rfl rfl rfl ?_
      refine m_in ?_
      refine aft_v ?_
      refine mw_eqB i_93_32 rfl (fun c8 => ?_) (fun c8 => ?_)
      · skip
        refine mw_const i_93_38 (v := nI 0) (by decide) ?_
        rw [show nI 0 = bI (inr day (nI (dn σ)) (nI 999) ∧ inr mi (nI 1) (nI 60) ∧ ¬ fi = se) from (bI_f ((fun h => c8 h.2.1))).symm]
        exact J2
      · skip
        refine mw_iload i_93_33 (x := fi) rfl ?_
        refine mw_iload i_93_34 (x := se) rfl ?_
        refine mw_ic i_93_35 (p := fi = se) Iff.rfl (fun c9 => ?_) (fun c9 => ?_)
        · skip
          refine mw_const i_93_38 (v := nI 0) (by decide) ?_
          rw [show nI 0 = bI (inr day (nI (dn σ)) (nI 999) ∧ inr mi (nI 1) (nI 60) ∧ ¬ fi = se) from (bI_f ((fun h => h.2.2 c9))).symm]
          exact J2
        · skip
          refine mw_const i_93_36 (v := nI 1) (by decide) ?_
          refine mw_goto i_93_37 ?_
          rw [show nI 1 = bI (inr day (nI (dn σ)) (nI 999) ∧ inr mi (nI 1) (nI 60) ∧ ¬ fi = se) from (bI_t (⟨c7, c8, c9⟩)).symm]
          exact J2
  refine mw_iload i_93_0 (x := tw) rfl ?_
  refine mw_callS i_93_1 mf_77 (as := [pI tw]) (rest := []) (d' := d9) (b' := b) (ls0 := [some (pI tw)]) rfl rfl rfl (Nat.le_of_ble_eq_true rfl) rfl rfl rfl ?_
  refine m_isTown (by omega) ?_
  refine aft_v ?_
  refine mw_eqB i_93_2 rfl (fun c10 => ?_) (fun c10 => ?_)
  · skip
    refine mw_const i_93_20 (v := nI 0) (by decide) ?_
    rw [show nI 0 = bI (isN tw 4 ∧ isN fi (pn σ) ∧ isN se (pn σ) ∧ (ti = (-1) ∨ isN ti (tn σ))) from (bI_f ((fun h => c10 h.1))).symm]
    exact J1
  · skip
    refine mw_aload i_93_3 (L := MO) rfl ?_
    refine mw_iload i_93_4 (x := fi) rfl ?_
    refine mw_callV i_93_5 mf_78 (as := [pI fi]) (rest := []) (d' := d9) (b' := b) (ls0 := [some (pR (some MO)), some (pI fi)]) rfl rfl rfl (Nat.le_of_ble_eq_true rfl) (MK_o hM) rfl rfl rfl ?_
    refine m_isOne (by omega) hM ((rs hm (by decide)).trans hV.1.1) hpp ?_
    refine aft_v ?_
    refine mw_eqB i_93_6 rfl (fun c11 => ?_) (fun c11 => ?_)
    · skip
      refine mw_const i_93_20 (v := nI 0) (by decide) ?_
      rw [show nI 0 = bI (isN tw 4 ∧ isN fi (pn σ) ∧ isN se (pn σ) ∧ (ti = (-1) ∨ isN ti (tn σ))) from (bI_f ((fun h => c11 h.2.1))).symm]
      exact J1
    · skip
      refine mw_aload i_93_7 (L := MO) rfl ?_
      refine mw_iload i_93_8 (x := se) rfl ?_
      refine mw_callV i_93_9 mf_78 (as := [pI se]) (rest := []) (d' := d9) (b' := b) (ls0 := [some (pR (some MO)), some (pI se)]) rfl rfl rfl (Nat.le_of_ble_eq_true rfl) (MK_o hM) rfl rfl rfl ?_
      refine m_isOne (by omega) hM ((rs hm (by decide)).trans hV.1.1) hpp ?_
      refine aft_v ?_
      refine mw_eqB i_93_10 rfl (fun c12 => ?_) (fun c12 => ?_)
      · skip
        refine mw_const i_93_20 (v := nI 0) (by decide) ?_
        rw [show nI 0 = bI (isN tw 4 ∧ isN fi (pn σ) ∧ isN se (pn σ) ∧ (ti = (-1) ∨ isN ti (tn σ))) from (bI_f ((fun h => c12 h.2.2.1))).symm]
        exact J1
      · skip
        refine mw_iload i_93_11 (x := ti) rfl ?_
        refine mw_const i_93_12 (v := (-1)) (by decide) ?_
        refine mw_ic i_93_13 (p := ti = (-1)) Iff.rfl (fun c13 => ?_) (fun c13 => ?_)
        · skip
          refine mw_const i_93_18 (v := nI 1) (by decide) ?_
          refine mw_goto i_93_19 ?_
          rw [show nI 1 = bI (isN tw 4 ∧ isN fi (pn σ) ∧ isN se (pn σ) ∧ (ti = (-1) ∨ isN ti (tn σ))) from (bI_t (⟨c10, c11, c12, Or.inl c13⟩)).symm]
          exact J1
        · skip
          refine mw_aload i_93_14 (L := MO) rfl ?_
          refine mw_iload i_93_15 (x := ti) rfl ?_
          refine mw_callV i_93_16 mf_79 (as := [pI ti]) (rest := []) (d' := d9) (b' := b) (ls0 := [some (pR (some MO)), some (pI ti)]) rfl rfl rfl (Nat.le_of_ble_eq_true rfl) (MK_o hM) rfl rfl rfl ?_
          refine m_isTitle (by omega) hM ((rs hm (by decide)).trans hV.2.1.1) htt ?_
          refine aft_v ?_
          refine mw_eqB i_93_17 rfl (fun c14 => ?_) (fun c14 => ?_)
          · skip
            refine mw_const i_93_20 (v := nI 0) (by decide) ?_
            rw [show nI 0 = bI (isN tw 4 ∧ isN fi (pn σ) ∧ isN se (pn σ) ∧ (ti = (-1) ∨ isN ti (tn σ))) from (bI_f ((fun h => h.2.2.2.elim c13 c14))).symm]
            exact J1
          · skip
            refine mw_const i_93_18 (v := nI 1) (by decide) ?_
            refine mw_goto i_93_19 ?_
            rw [show nI 1 = bI (isN tw 4 ∧ isN fi (pn σ) ∧ isN se (pn σ) ∧ (ti = (-1) ∨ isN ti (tn σ))) from (bI_t (⟨c10, c11, c12, Or.inr c14⟩)).symm]
            exact J1
set_option maxRecDepth 20000 in
set_option maxHeartbeats 400000 in
theorem m_book_m {d b : Nat} {K : KM} {I : IM} {R : RM} {Q : QT} {n0 : Nat} {σ : ST} {t f s : Nat} {day mi ti : Int32} {pb : Prop} (hd : 3 ≤ d) (hM : MK K R) (hm : mv I = σ) (hV : IV n0 σ) (ht : t < 4) (hf : f < pn σ) (hs : s < pn σ) (hti : ti = (-1) ∨ isN ti (tn σ)) (hno : ¬ (inr day (nI (dn σ)) (nI 999) ∧ inr mi (nI 1) (nI 60) ∧ ¬ f = s)) (q1 : ¬ (t < 4) → ∀ I', FrM I I' → I' MO 28 = nI 1 → mv I' = σ → Q (.inl (some (pI (nI 0)))) K I' R) (q2 : (t < 4) → ¬ (inr day (nI (dn σ)) (nI 999) ∧ inr mi (nI 1) (nI 60) ∧ ¬ f = s) → ∀ I', FrM I I' → I' MO 28 = nI 2 → mv I' = σ → Q (.inl (some (pI (nI 0)))) K I' R) (q3 : (t < 4) → (inr day (nI (dn σ)) (nI 999) ∧ inr mi (nI 1) (nI 60) ∧ ¬ f = s) → ¬ (False) → ∀ I', FrM I I' → I' MO 28 = nI 3 → mv I' = σ → Q (.inl (some (pI (nI 0)))) K I' R)  : Mw d b N_X6_book 0 [some (pR (some MO)), some (pI day), some (pI (nI t)), some (pI (nI f)), some (pI (nI s)), some (pI (bI pb)), some (pI mi), some (pI ti), none, none, none, none] [] K I R Q := by
  obtain ⟨d9, rfl⟩ : ∃ d9, d = d9 + 1 := ⟨d - 1, by omega⟩
  have hpp := hV.1.2
  have htt := hV.2.1.2
  have hdd := hV.2.2.1.2
  have J1 : Mw (d9 + 1) b 93 21 [some (pR (some MO)), some (pI day), some (pI (nI t)), some (pI (nI f)), some (pI (nI s)), some (pI (bI pb)), some (pI mi), some (pI ti), none, none, none, none] [pI (bI (t < 4))] K I R Q := by
    refine mw_istore i_93_21 (ls' := [some (pR (some MO)), some (pI day), some (pI (nI t)), some (pI (nI f)), some (pI (nI s)), some (pI (bI pb)), some (pI mi), some (pI ti), some (pI (bI (t < 4))), none, none, none]) rfl (Nat.le_of_ble_eq_true rfl) ?_
    have J2 : Mw (d9 + 1) b 93 39 [some (pR (some MO)), some (pI day), some (pI (nI t)), some (pI (nI f)), some (pI (nI s)), some (pI (bI pb)), some (pI mi), some (pI ti), some (pI (bI (t < 4))), none, none, none] [pI (bI (inr day (nI (dn σ)) (nI 999) ∧ inr mi (nI 1) (nI 60) ∧ ¬ f = s))] K I R Q := by
      refine mw_istore i_93_39 (ls' := [some (pR (some MO)), some (pI day), some (pI (nI t)), some (pI (nI f)), some (pI (nI s)), some (pI (bI pb)), some (pI mi), some (pI ti), some (pI (bI (t < 4))), some (pI (bI (inr day (nI (dn σ)) (nI 999) ∧ inr mi (nI 1) (nI 60) ∧ ¬ f = s))), none, none]) rfl (Nat.le_of_ble_eq_true rfl) ?_
      have J3 : Mw (d9 + 1) b 93 70 [some (pR (some MO)), some (pI day), some (pI (nI t)), some (pI (nI f)), some (pI (nI s)), some (pI (bI pb)), some (pI mi), some (pI ti), some (pI (bI (t < 4))), some (pI (bI (inr day (nI (dn σ)) (nI 999) ∧ inr mi (nI 1) (nI 60) ∧ ¬ f = s))), none, none] [pI (bI False)] K I R Q := by
        refine mw_istore i_93_70 (ls' := [some (pR (some MO)), some (pI day), some (pI (nI t)), some (pI (nI f)), some (pI (nI s)), some (pI (bI pb)), some (pI mi), some (pI ti), some (pI (bI (t < 4))), some (pI (bI (inr day (nI (dn σ)) (nI 999) ∧ inr mi (nI 1) (nI 60) ∧ ¬ f = s))), some (pI (bI False)), none]) rfl (Nat.le_of_ble_eq_true rfl) ?_
        refine mw_aload i_93_71 (L := MO) rfl ?_
        refine mw_iload i_93_72 (x := bI (t < 4)) rfl ?_
        refine mw_iload i_93_73 (x := bI (inr day (nI (dn σ)) (nI 999) ∧ inr mi (nI 1) (nI 60) ∧ ¬ f = s)) rfl ?_
        refine mw_iload i_93_74 (x := bI False) rfl ?_
        refine mw_callV i_93_75 mf_76 (as := [pI (bI (t < 4)), pI (bI (inr day (nI (dn σ)) (nI 999) ∧ inr mi (nI 1) (nI 60) ∧ ¬ f = s)), pI (bI False)]) (rest := []) (d' := d9) (b' := b) (ls0 := [some (pR (some MO)), some (pI (bI (t < 4))), some (pI (bI (inr day (nI (dn σ)) (nI 999) ∧ inr mi (nI 1) (nI 60) ∧ ¬ f = s))), some (pI (bI False))]) rfl rfl rfl (Nat.le_of_ble_eq_true rfl) (MK_o hM) rfl rfl rfl ?_
        refine m_goes hM ?_
        rw [show gz (bI (t < 4)) (bI (inr day (nI (dn σ)) (nI 999) ∧ inr mi (nI 1) (nI 60) ∧ ¬ f = s)) (bI False) = gn (t < 4) (inr day (nI (dn σ)) (nI 999) ∧ inr mi (nI 1) (nI 60) ∧ ¬ f = s) False from rfl]
        obtain ⟨Ig4, eIg4⟩ : ∃ Ig4, Ig4 = up2 I MO 28 (nI (gn (t < 4) (inr day (nI (dn σ)) (nI 999) ∧ inr mi (nI 1) (nI 60) ∧ ¬ f = s) False)) := ⟨_, rfl⟩
        rw [← eIg4]
        refine aft_v ?_
        refine mw_neB i_93_76 rfl (fun c5 => ?_) (fun c5 => ?_)
        · skip
          obtain ⟨p1, p2, p3⟩ := gn_0.mp c5
          exact p3.elim
        · skip
          refine mw_const i_93_77 (v := nI 0) (by decide) ?_
          refine mw_iretI i_93_78 (x := nI 0) rt_93 ?_
          have h28 : Ig4 MO 28 = nI (gn (t < 4) (inr day (nI (dn σ)) (nI 999) ∧ inr mi (nI 1) (nI 60) ∧ ¬ f = s) False) := by rw [eIg4, up2_at, upd_at]
          have hmv : mv Ig4 = σ := by rw [eIg4, mv_o (by decide), hm]
          have hfr : FrM I Ig4 := (eIg4.symm ▸ FrM_up (FrM_rfl) (by decide))
          by_cases p19 : t < 4
          rotate_left
          · exact q1 p19 Ig4 hfr (h28.trans (by rw [gn_1 p19])) hmv
          by_cases p29 : inr day (nI (dn σ)) (nI 999) ∧ inr mi (nI 1) (nI 60) ∧ ¬ f = s
          rotate_left
          · exact q2 p19 p29 Ig4 hfr (h28.trans (by rw [gn_2 p19 p29])) hmv
          by_cases p39 : False
          rotate_left
          · exact q3 p19 p29 p39 Ig4 hfr (h28.trans (by rw [gn_3 p19 p29 p39])) hmv
          exact absurd (gn_t p19 p29 p39) c5
      refine mw_iload i_93_40 (x := bI (t < 4)) rfl ?_
      refine mw_eqB i_93_41 rfl (fun c6 => ?_) (fun c6 => ?_)
      · skip
        exact absurd ht c6
      · skip
        refine mw_iload i_93_42 (x := bI (inr day (nI (dn σ)) (nI 999) ∧ inr mi (nI 1) (nI 60) ∧ ¬ f = s)) rfl ?_
        refine mw_eqB i_93_43 rfl (fun c7 => ?_) (fun c7 => ?_)
        · skip
          refine mw_const i_93_69 (v := nI 0) (by decide) ?_
          rw [show nI 0 = bI (False) from (bI_f ((fun h => h))).symm]
          exact J3
        · skip
          exact absurd c7 hno
    refine mw_iload i_93_22 (x := day) rfl ?_
    refine mw_aload i_93_23 (L := MO) rfl ?_
    refine mw_get i_93_24 (MK_o hM) (v := nI (dn σ)) ((rs hm (by decide)).trans hV.2.2.1.1) ?_
    refine mw_const i_93_25 (v := nI 999) (by decide) ?_
    refine mw_callS i_93_26 mf_75 (as := [pI day, pI (nI (dn σ)), pI (nI 999)]) (rest := []) (d' := d9) (b' := b) (ls0 := [some (pI day), some (pI (nI (dn σ))), some (pI (nI 999))]) rfl rfl rfl (Nat.le_of_ble_eq_true rfl) rfl rfl rfl ?_
    refine m_in ?_
    refine aft_v ?_
    refine mw_eqB i_93_27 rfl (fun c8 => ?_) (fun c8 => ?_)
    · skip
      refine mw_const i_93_38 (v := nI 0) (by decide) ?_
      rw [show nI 0 = bI (inr day (nI (dn σ)) (nI 999) ∧ inr mi (nI 1) (nI 60) ∧ ¬ f = s) from (bI_f ((fun h => c8 h.1))).symm]
      exact J2
    · skip
      refine mw_iload i_93_28 (x := mi) rfl ?_
      refine mw_const i_93_29 (v := nI 1) (by decide) ?_
      refine mw_const i_93_30 (v := nI 60) (by decide) ?_
      refine mw_callS i_93_31 mf_75 (as := [pI mi, pI (nI 1), pI (nI 60)]) (rest := []) (d' := d9) (b' := b) (ls0 := [some (pI mi), some (pI (nI 1)), some (pI (nI 60))]) rfl rfl rfl (Nat.le_of_ble_eq_true rfl) rfl rfl rfl ?_
      refine m_in ?_
      refine aft_v ?_
      refine mw_eqB i_93_32 rfl (fun c9 => ?_) (fun c9 => ?_)
      · skip
        refine mw_const i_93_38 (v := nI 0) (by decide) ?_
        rw [show nI 0 = bI (inr day (nI (dn σ)) (nI 999) ∧ inr mi (nI 1) (nI 60) ∧ ¬ f = s) from (bI_f ((fun h => c9 h.2.1))).symm]
        exact J2
      · skip
        refine mw_iload i_93_33 (x := nI f) rfl ?_
        refine mw_iload i_93_34 (x := nI s) rfl ?_
        refine mw_ic i_93_35 (p := f = s) (nI_eq (by omega) (by omega)) (fun c10 => ?_) (fun c10 => ?_)
        · skip
          refine mw_const i_93_38 (v := nI 0) (by decide) ?_
          rw [show nI 0 = bI (inr day (nI (dn σ)) (nI 999) ∧ inr mi (nI 1) (nI 60) ∧ ¬ f = s) from (bI_f ((fun h => h.2.2 c10))).symm]
          exact J2
        · skip
          refine mw_const i_93_36 (v := nI 1) (by decide) ?_
          refine mw_goto i_93_37 ?_
          rw [show nI 1 = bI (inr day (nI (dn σ)) (nI 999) ∧ inr mi (nI 1) (nI 60) ∧ ¬ f = s) from (bI_t (⟨c8, c9, c10⟩)).symm]
          exact J2
  refine mw_iload i_93_0 (x := nI t) rfl ?_
  refine mw_callS i_93_1 mf_77 (as := [pI (nI t)]) (rest := []) (d' := d9) (b' := b) (ls0 := [some (pI (nI t))]) rfl rfl rfl (Nat.le_of_ble_eq_true rfl) rfl rfl rfl ?_
  refine m_isTown (by omega) ?_
  refine aft_v ?_
  refine mw_eqB i_93_2 rfl (fun c11 => ?_) (fun c11 => ?_)
  · skip
    exact absurd ⟨t, ht, rfl⟩ c11
  · skip
    refine mw_aload i_93_3 (L := MO) rfl ?_
    refine mw_iload i_93_4 (x := nI f) rfl ?_
    refine mw_callV i_93_5 mf_78 (as := [pI (nI f)]) (rest := []) (d' := d9) (b' := b) (ls0 := [some (pR (some MO)), some (pI (nI f))]) rfl rfl rfl (Nat.le_of_ble_eq_true rfl) (MK_o hM) rfl rfl rfl ?_
    refine m_isOne (by omega) hM ((rs hm (by decide)).trans hV.1.1) hpp ?_
    refine aft_v ?_
    refine mw_eqB i_93_6 rfl (fun c12 => ?_) (fun c12 => ?_)
    · skip
      exact absurd ⟨f, hf, rfl⟩ c12
    · skip
      refine mw_aload i_93_7 (L := MO) rfl ?_
      refine mw_iload i_93_8 (x := nI s) rfl ?_
      refine mw_callV i_93_9 mf_78 (as := [pI (nI s)]) (rest := []) (d' := d9) (b' := b) (ls0 := [some (pR (some MO)), some (pI (nI s))]) rfl rfl rfl (Nat.le_of_ble_eq_true rfl) (MK_o hM) rfl rfl rfl ?_
      refine m_isOne (by omega) hM ((rs hm (by decide)).trans hV.1.1) hpp ?_
      refine aft_v ?_
      refine mw_eqB i_93_10 rfl (fun c13 => ?_) (fun c13 => ?_)
      · skip
        exact absurd ⟨s, hs, rfl⟩ c13
      · skip
        refine mw_iload i_93_11 (x := ti) rfl ?_
        refine mw_const i_93_12 (v := (-1)) (by decide) ?_
        refine mw_ic i_93_13 (p := ti = (-1)) Iff.rfl (fun c14 => ?_) (fun c14 => ?_)
        · skip
          refine mw_const i_93_18 (v := nI 1) (by decide) ?_
          refine mw_goto i_93_19 ?_
          rw [show nI 1 = bI (t < 4) from (bI_t (ht)).symm]
          exact J1
        · skip
          refine mw_aload i_93_14 (L := MO) rfl ?_
          refine mw_iload i_93_15 (x := ti) rfl ?_
          refine mw_callV i_93_16 mf_79 (as := [pI ti]) (rest := []) (d' := d9) (b' := b) (ls0 := [some (pR (some MO)), some (pI ti)]) rfl rfl rfl (Nat.le_of_ble_eq_true rfl) (MK_o hM) rfl rfl rfl ?_
          refine m_isTitle (by omega) hM ((rs hm (by decide)).trans hV.2.1.1) htt ?_
          refine aft_v ?_
          refine mw_eqB i_93_17 rfl (fun c15 => ?_) (fun c15 => ?_)
          · skip
            exact absurd (hti.resolve_left c14) c15
          · skip
            refine mw_const i_93_18 (v := nI 1) (by decide) ?_
            refine mw_goto i_93_19 ?_
            rw [show nI 1 = bI (t < 4) from (bI_t (ht)).symm]
            exact J1
set_option maxRecDepth 20000 in
set_option maxHeartbeats 400000 in
theorem m_book_i {d b : Nat} {K : KM} {I : IM} {R : RM} {Q : QT} {n0 : Nat} {σ : ST} {x t f s : Nat} {mi ti : Int32} {pb : Prop} (hd : 3 ≤ d) (hM : MK K R) (hm : mv I = σ) (hV : IV n0 σ) (ht : t < 4) (hf : f < pn σ) (hs : s < pn σ) (hti : ti = (-1) ∨ isN ti (tn σ)) (hx : x < 1000) (hday : inr (nI x) (nI (dn σ)) (nI 999)) (hmi : inr mi (nI 1) (nI 60)) (hfs : ¬ f = s) (hn9 : n0 ≤ 512) (q1 : ¬ (t < 4) → ∀ I', FrM I I' → I' MO 28 = nI 1 → mv I' = σ → Q (.inl (some (pI (nI 0)))) K I' R) (q2 : (t < 4) → ¬ (t < 4) → ∀ I', FrM I I' → I' MO 28 = nI 2 → mv I' = σ → Q (.inl (some (pI (nI 0)))) K I' R) (q3 : (t < 4) → (t < 4) → ¬ (bkA σ x t f s mi ti ∧ bkB σ x f s pb ti) → ∀ I', FrM I I' → I' MO 28 = nI 3 → mv I' = σ → Q (.inl (some (pI (nI 0)))) K I' R) (q0 : bkA σ x t f s mi ti → bkB σ x f s pb ti → ∀ I', FrM I I' → I' MO 28 = nI 0 → mv I' = bkS σ x t f s pb mi ti → ∀ v, v = nI (mn σ x) → Q (.inl (some (pI v))) K I' R) : Mw d b N_X6_book 0 [some (pR (some MO)), some (pI (nI x)), some (pI (nI t)), some (pI (nI f)), some (pI (nI s)), some (pI (bI pb)), some (pI mi), some (pI ti), none, none, none, none] [] K I R Q := by
  obtain ⟨d9, rfl⟩ : ∃ d9, d = d9 + 1 := ⟨d - 1, by omega⟩
  have hpp := hV.1.2
  have htt := hV.2.1.2
  have hdd := hV.2.2.1.2
  have h6 := (hV.2.2.2.2.2.1 x hx).2.1
  have J1 : Mw (d9 + 1) b 93 21 [some (pR (some MO)), some (pI (nI x)), some (pI (nI t)), some (pI (nI f)), some (pI (nI s)), some (pI (bI pb)), some (pI mi), some (pI ti), none, none, none, none] [pI (bI (t < 4))] K I R Q := by
    refine mw_istore i_93_21 (ls' := [some (pR (some MO)), some (pI (nI x)), some (pI (nI t)), some (pI (nI f)), some (pI (nI s)), some (pI (bI pb)), some (pI mi), some (pI ti), some (pI (bI (t < 4))), none, none, none]) rfl (Nat.le_of_ble_eq_true rfl) ?_
    have J2 : Mw (d9 + 1) b 93 39 [some (pR (some MO)), some (pI (nI x)), some (pI (nI t)), some (pI (nI f)), some (pI (nI s)), some (pI (bI pb)), some (pI mi), some (pI ti), some (pI (bI (t < 4))), none, none, none] [pI (bI (t < 4))] K I R Q := by
      refine mw_istore i_93_39 (ls' := [some (pR (some MO)), some (pI (nI x)), some (pI (nI t)), some (pI (nI f)), some (pI (nI s)), some (pI (bI pb)), some (pI mi), some (pI ti), some (pI (bI (t < 4))), some (pI (bI (t < 4))), none, none]) rfl (Nat.le_of_ble_eq_true rfl) ?_
      have J3 : Mw (d9 + 1) b 93 70 [some (pR (some MO)), some (pI (nI x)), some (pI (nI t)), some (pI (nI f)), some (pI (nI s)), some (pI (bI pb)), some (pI mi), some (pI ti), some (pI (bI (t < 4))), some (pI (bI (t < 4))), none, none] [pI (bI (bkA σ x t f s mi ti ∧ bkB σ x f s pb ti))] K I R Q := by
        refine mw_istore i_93_70 (ls' := [some (pR (some MO)), some (pI (nI x)), some (pI (nI t)), some (pI (nI f)), some (pI (nI s)), some (pI (bI pb)), some (pI mi), some (pI ti), some (pI (bI (t < 4))), some (pI (bI (t < 4))), some (pI (bI (bkA σ x t f s mi ti ∧ bkB σ x f s pb ti))), none]) rfl (Nat.le_of_ble_eq_true rfl) ?_
        refine mw_aload i_93_71 (L := MO) rfl ?_
        refine mw_iload i_93_72 (x := bI (t < 4)) rfl ?_
        refine mw_iload i_93_73 (x := bI (t < 4)) rfl ?_
        refine mw_iload i_93_74 (x := bI (bkA σ x t f s mi ti ∧ bkB σ x f s pb ti)) rfl ?_
        refine mw_callV i_93_75 mf_76 (as := [pI (bI (t < 4)), pI (bI (t < 4)), pI (bI (bkA σ x t f s mi ti ∧ bkB σ x f s pb ti))]) (rest := []) (d' := d9) (b' := b) (ls0 := [some (pR (some MO)), some (pI (bI (t < 4))), some (pI (bI (t < 4))), some (pI (bI (bkA σ x t f s mi ti ∧ bkB σ x f s pb ti)))]) rfl rfl rfl (Nat.le_of_ble_eq_true rfl) (MK_o hM) rfl rfl rfl ?_
        refine m_goes hM ?_
        rw [show gz (bI (t < 4)) (bI (t < 4)) (bI (bkA σ x t f s mi ti ∧ bkB σ x f s pb ti)) = gn (t < 4) (t < 4) (bkA σ x t f s mi ti ∧ bkB σ x f s pb ti) from rfl]
        obtain ⟨Ig4, eIg4⟩ : ∃ Ig4, Ig4 = up2 I MO 28 (nI (gn (t < 4) (t < 4) (bkA σ x t f s mi ti ∧ bkB σ x f s pb ti))) := ⟨_, rfl⟩
        rw [← eIg4]
        refine aft_v ?_
        refine mw_neB i_93_76 rfl (fun c5 => ?_) (fun c5 => ?_)
        · skip
          obtain ⟨p1, p2, p3⟩ := gn_0.mp c5
          have hm6 : mn σ x < 6 := p3.1.1.2.1
          refine mw_const i_93_79 (v := nI 36) (by decide) ?_
          refine mw_iload i_93_80 (x := nI x) rfl ?_
          refine mw_imul i_93_81 (w := nI (36 * x)) (pk_mul _ _) ?_
          refine mw_const i_93_82 (v := nI 6) (by decide) ?_
          refine mw_aload i_93_83 (L := MO) rfl ?_
          refine mw_getR i_93_84 (MK_o hM) (q := some (MA 20)) (MK_r hM 20 (by decide)) ?_
          refine mw_iload i_93_85 (x := nI x) rfl ?_
          refine mw_iald i_93_86 (jn := x) (n := 1000) (by omega) (by omega) (show K (MA 20) = some (7, 1000) from MK_k hM 20 (by decide)) (by decide) (v := nI (mn σ x)) (by rw [eIg4, up2_ne (by simp)]; exact ((rm hm (by decide) x).trans (hV.2.2.2.2.2.1 x (by omega)).1)) ?_
          refine mw_imul i_93_87 (w := nI (6 * (mn σ x))) (pk_mul _ _) ?_
          refine mw_iadd i_93_88 (w := nI (36 * x + (6 * (mn σ x)))) (nI_add _ _) ?_
          refine mw_istore i_93_89 (ls' := [some (pR (some MO)), some (pI (nI x)), some (pI (nI t)), some (pI (nI f)), some (pI (nI s)), some (pI (bI pb)), some (pI mi), some (pI ti), some (pI (bI (t < 4))), some (pI (bI (t < 4))), some (pI (bI (bkA σ x t f s mi ti ∧ bkB σ x f s pb ti))), some (pI (nI (36 * x + (6 * (mn σ x)))))]) rfl (Nat.le_of_ble_eq_true rfl) ?_
          refine mw_aload i_93_90 (L := MO) rfl ?_
          refine mw_getR i_93_91 (MK_o hM) (q := some (MA 19)) (MK_r hM 19 (by decide)) ?_
          refine mw_iload i_93_92 (x := nI (36 * x + (6 * (mn σ x)))) rfl ?_
          refine mw_const i_93_93 (v := nI 0) (by decide) ?_
          refine mw_iadd i_93_94 (w := nI (36 * x + (6 * (mn σ x)) + 0)) (nI_add _ _) ?_
          refine mw_iload i_93_95 (x := nI f) rfl ?_
          obtain ⟨I26, e26⟩ : ∃ I26, I26 = up2 Ig4 (MA 19) (36 * x + (6 * (mn σ x)) + 0) (nI f) := ⟨_, rfl⟩
          refine mw_iast i_93_96 (jn := 36 * x + (6 * (mn σ x)) + 0) (n := 36000) (by omega) (by omega) (x := nI f) (show K (MA 19) = some (7, 36000) from MK_k hM 19 (by decide)) (I' := I26) e26.symm ?_
          refine mw_aload i_93_97 (L := MO) rfl ?_
          refine mw_getR i_93_98 (MK_o hM) (q := some (MA 19)) (MK_r hM 19 (by decide)) ?_
          refine mw_iload i_93_99 (x := nI (36 * x + (6 * (mn σ x)))) rfl ?_
          refine mw_const i_93_100 (v := nI 1) (by decide) ?_
          refine mw_iadd i_93_101 (w := nI (36 * x + (6 * (mn σ x)) + 1)) (nI_add _ _) ?_
          refine mw_iload i_93_102 (x := nI s) rfl ?_
          obtain ⟨I27, e27⟩ : ∃ I27, I27 = up2 I26 (MA 19) (36 * x + (6 * (mn σ x)) + 1) (nI s) := ⟨_, rfl⟩
          refine mw_iast i_93_103 (jn := 36 * x + (6 * (mn σ x)) + 1) (n := 36000) (by omega) (by omega) (x := nI s) (show K (MA 19) = some (7, 36000) from MK_k hM 19 (by decide)) (I' := I27) e27.symm ?_
          refine mw_aload i_93_104 (L := MO) rfl ?_
          refine mw_getR i_93_105 (MK_o hM) (q := some (MA 19)) (MK_r hM 19 (by decide)) ?_
          refine mw_iload i_93_106 (x := nI (36 * x + (6 * (mn σ x)))) rfl ?_
          refine mw_const i_93_107 (v := nI 2) (by decide) ?_
          refine mw_iadd i_93_108 (w := nI (36 * x + (6 * (mn σ x)) + 2)) (nI_add _ _) ?_
          refine mw_iload i_93_109 (x := bI pb) rfl ?_
          refine mw_eqB i_93_110 rfl (fun c8 => ?_) (fun c8 => ?_)
          · skip
            refine mw_const i_93_113 (v := nI 1) (by decide) ?_
            obtain ⟨I29, e29⟩ : ∃ I29, I29 = up2 I27 (MA 19) (36 * x + (6 * (mn σ x)) + 2) (nI 1) := ⟨_, rfl⟩
            refine mw_iast i_93_114 (jn := 36 * x + (6 * (mn σ x)) + 2) (n := 36000) (by omega) (by omega) (x := nI 1) (show K (MA 19) = some (7, 36000) from MK_k hM 19 (by decide)) (I' := I29) e29.symm ?_
            refine mw_aload i_93_115 (L := MO) rfl ?_
            refine mw_getR i_93_116 (MK_o hM) (q := some (MA 19)) (MK_r hM 19 (by decide)) ?_
            refine mw_iload i_93_117 (x := nI (36 * x + (6 * (mn σ x)))) rfl ?_
            refine mw_const i_93_118 (v := nI 3) (by decide) ?_
            refine mw_iadd i_93_119 (w := nI (36 * x + (6 * (mn σ x)) + 3)) (nI_add _ _) ?_
            refine mw_iload i_93_120 (x := mi) rfl ?_
            obtain ⟨I30, e30⟩ : ∃ I30, I30 = up2 I29 (MA 19) (36 * x + (6 * (mn σ x)) + 3) mi := ⟨_, rfl⟩
            refine mw_iast i_93_121 (jn := 36 * x + (6 * (mn σ x)) + 3) (n := 36000) (by omega) (by omega) (x := mi) (show K (MA 19) = some (7, 36000) from MK_k hM 19 (by decide)) (I' := I30) e30.symm ?_
            refine mw_aload i_93_122 (L := MO) rfl ?_
            refine mw_getR i_93_123 (MK_o hM) (q := some (MA 19)) (MK_r hM 19 (by decide)) ?_
            refine mw_iload i_93_124 (x := nI (36 * x + (6 * (mn σ x)))) rfl ?_
            refine mw_const i_93_125 (v := nI 4) (by decide) ?_
            refine mw_iadd i_93_126 (w := nI (36 * x + (6 * (mn σ x)) + 4)) (nI_add _ _) ?_
            refine mw_iload i_93_127 (x := ti) rfl ?_
            obtain ⟨I31, e31⟩ : ∃ I31, I31 = up2 I30 (MA 19) (36 * x + (6 * (mn σ x)) + 4) ti := ⟨_, rfl⟩
            refine mw_iast i_93_128 (jn := 36 * x + (6 * (mn σ x)) + 4) (n := 36000) (by omega) (by omega) (x := ti) (show K (MA 19) = some (7, 36000) from MK_k hM 19 (by decide)) (I' := I31) e31.symm ?_
            refine mw_aload i_93_129 (L := MO) rfl ?_
            refine mw_getR i_93_130 (MK_o hM) (q := some (MA 19)) (MK_r hM 19 (by decide)) ?_
            refine mw_iload i_93_131 (x := nI (36 * x + (6 * (mn σ x)))) rfl ?_
            refine mw_const i_93_132 (v := nI 5) (by decide) ?_
            refine mw_iadd i_93_133 (w := nI (36 * x + (6 * (mn σ x)) + 5)) (nI_add _ _) ?_
            refine mw_const i_93_134 (v := nI 0) (by decide) ?_
            obtain ⟨I32, e32⟩ : ∃ I32, I32 = up2 I31 (MA 19) (36 * x + (6 * (mn σ x)) + 5) (nI 0) := ⟨_, rfl⟩
            refine mw_iast i_93_135 (jn := 36 * x + (6 * (mn σ x)) + 5) (n := 36000) (by omega) (by omega) (x := nI 0) (show K (MA 19) = some (7, 36000) from MK_k hM 19 (by decide)) (I' := I32) e32.symm ?_
            refine mw_aload i_93_136 (L := MO) rfl ?_
            refine mw_getR i_93_137 (MK_o hM) (q := some (MA 21)) (MK_r hM 21 (by decide)) ?_
            refine mw_iload i_93_138 (x := nI x) rfl ?_
            refine mw_iload i_93_139 (x := nI t) rfl ?_
            obtain ⟨I33, e33⟩ : ∃ I33, I33 = up2 I32 (MA 21) x (nI t) := ⟨_, rfl⟩
            refine mw_iast i_93_140 (jn := x) (n := 1000) (by omega) (by omega) (x := nI t) (show K (MA 21) = some (7, 1000) from MK_k hM 21 (by decide)) (I' := I33) e33.symm ?_
            refine mw_aload i_93_141 (L := MO) rfl ?_
            refine mw_getR i_93_142 (MK_o hM) (q := some (MA 20)) (MK_r hM 20 (by decide)) ?_
            refine mw_iload i_93_143 (x := nI x) rfl ?_
            refine mw_dup2 i_93_144 trivial trivial ?_
            refine mw_iald i_93_145 (jn := x) (n := 1000) (by omega) (by omega) (show K (MA 20) = some (7, 1000) from MK_k hM 20 (by decide)) (by decide) (v := nI (mn σ x)) (by rw [e33, up2_ne (by simp), e32, up2_ne (by simp), e31, up2_ne (by simp), e30, up2_ne (by simp), e29, up2_ne (by simp), e27, up2_ne (by simp), e26, up2_ne (by simp), eIg4, up2_ne (by simp)]; exact ((rm hm (by decide) x).trans (hV.2.2.2.2.2.1 x (by omega)).1)) ?_
            refine mw_const i_93_146 (v := nI 1) (by decide) ?_
            refine mw_iadd i_93_147 (w := nI (mn σ x + 1)) (nI_add _ _) ?_
            obtain ⟨I34, e34⟩ : ∃ I34, I34 = up2 I33 (MA 20) x (nI (mn σ x + 1)) := ⟨_, rfl⟩
            refine mw_iast i_93_148 (jn := x) (n := 1000) (by omega) (by omega) (x := nI (mn σ x + 1)) (show K (MA 20) = some (7, 1000) from MK_k hM 20 (by decide)) (I' := I34) e34.symm ?_
            refine mw_aload i_93_149 (L := MO) rfl ?_
            refine mw_getR i_93_150 (MK_o hM) (q := some (MA 20)) (MK_r hM 20 (by decide)) ?_
            refine mw_iload i_93_151 (x := nI x) rfl ?_
            refine mw_iald i_93_152 (jn := x) (n := 1000) (by omega) (by omega) (show K (MA 20) = some (7, 1000) from MK_k hM 20 (by decide)) (by decide) (v := nI (mn σ x + 1)) (by rw [e34, up2_at, upd_at]) ?_
            refine mw_const i_93_153 (v := nI 1) (by decide) ?_
            refine mw_isub i_93_154 (w := ((nI (mn σ x + 1)) - (nI 1))) rfl ?_
            refine mw_iretI i_93_155 (x := ((nI (mn σ x + 1)) - (nI 1))) rt_93 ?_
            have ez : bI (¬ pb) = nI 1 := bI_t c8
            exact q0 p3.1 p3.2 _ ((e34.symm ▸ FrM_up ((e33.symm ▸ FrM_up ((e32.symm ▸ FrM_up ((e31.symm ▸ FrM_up ((e30.symm ▸ FrM_up ((e29.symm ▸ FrM_up ((e27.symm ▸ FrM_up ((e26.symm ▸ FrM_up ((eIg4.symm ▸ FrM_up (FrM_rfl) (by decide))) (by decide))) (by decide))) (by decide))) (by decide))) (by decide))) (by decide))) (by decide))) (by decide))) (by rw [e34, up2_ne (by simp), e33, up2_ne (by simp), e32, up2_ne (by simp), e31, up2_ne (by simp), e30, up2_ne (by simp), e29, up2_ne (by simp), e27, up2_ne (by simp), e26, up2_ne (by simp), eIg4, up2_at, upd_at, c5]) (by rw [e34, mv_a (by decide) (by decide) (by decide) (by decide), e33, mv_a (by decide) (by decide) (by decide) (by decide), e32, mv_a (by decide) (by decide) (by decide) (by decide), e31, mv_a (by decide) (by decide) (by decide) (by decide), e30, mv_a (by decide) (by decide) (by decide) (by decide), e29, mv_a (by decide) (by decide) (by decide) (by decide), e27, mv_a (by decide) (by decide) (by decide) (by decide), e26, mv_a (by decide) (by decide) (by decide) (by decide), eIg4, mv_o (by decide), hm]; unfold bkS; rw [ez]; rfl) _ sub1
          · skip
            refine mw_const i_93_111 (v := nI 0) (by decide) ?_
            refine mw_goto i_93_112 ?_
            obtain ⟨I35, e35⟩ : ∃ I35, I35 = up2 I27 (MA 19) (36 * x + (6 * (mn σ x)) + 2) (nI 0) := ⟨_, rfl⟩
            refine mw_iast i_93_114 (jn := 36 * x + (6 * (mn σ x)) + 2) (n := 36000) (by omega) (by omega) (x := nI 0) (show K (MA 19) = some (7, 36000) from MK_k hM 19 (by decide)) (I' := I35) e35.symm ?_
            refine mw_aload i_93_115 (L := MO) rfl ?_
            refine mw_getR i_93_116 (MK_o hM) (q := some (MA 19)) (MK_r hM 19 (by decide)) ?_
            refine mw_iload i_93_117 (x := nI (36 * x + (6 * (mn σ x)))) rfl ?_
            refine mw_const i_93_118 (v := nI 3) (by decide) ?_
            refine mw_iadd i_93_119 (w := nI (36 * x + (6 * (mn σ x)) + 3)) (nI_add _ _) ?_
            refine mw_iload i_93_120 (x := mi) rfl ?_
            obtain ⟨I36, e36⟩ : ∃ I36, I36 = up2 I35 (MA 19) (36 * x + (6 * (mn σ x)) + 3) mi := ⟨_, rfl⟩
            refine mw_iast i_93_121 (jn := 36 * x + (6 * (mn σ x)) + 3) (n := 36000) (by omega) (by omega) (x := mi) (show K (MA 19) = some (7, 36000) from MK_k hM 19 (by decide)) (I' := I36) e36.symm ?_
            refine mw_aload i_93_122 (L := MO) rfl ?_
            refine mw_getR i_93_123 (MK_o hM) (q := some (MA 19)) (MK_r hM 19 (by decide)) ?_
            refine mw_iload i_93_124 (x := nI (36 * x + (6 * (mn σ x)))) rfl ?_
            refine mw_const i_93_125 (v := nI 4) (by decide) ?_
            refine mw_iadd i_93_126 (w := nI (36 * x + (6 * (mn σ x)) + 4)) (nI_add _ _) ?_
            refine mw_iload i_93_127 (x := ti) rfl ?_
            obtain ⟨I37, e37⟩ : ∃ I37, I37 = up2 I36 (MA 19) (36 * x + (6 * (mn σ x)) + 4) ti := ⟨_, rfl⟩
            refine mw_iast i_93_128 (jn := 36 * x + (6 * (mn σ x)) + 4) (n := 36000) (by omega) (by omega) (x := ti) (show K (MA 19) = some (7, 36000) from MK_k hM 19 (by decide)) (I' := I37) e37.symm ?_
            refine mw_aload i_93_129 (L := MO) rfl ?_
            refine mw_getR i_93_130 (MK_o hM) (q := some (MA 19)) (MK_r hM 19 (by decide)) ?_
            refine mw_iload i_93_131 (x := nI (36 * x + (6 * (mn σ x)))) rfl ?_
            refine mw_const i_93_132 (v := nI 5) (by decide) ?_
            refine mw_iadd i_93_133 (w := nI (36 * x + (6 * (mn σ x)) + 5)) (nI_add _ _) ?_
            refine mw_const i_93_134 (v := nI 0) (by decide) ?_
            obtain ⟨I38, e38⟩ : ∃ I38, I38 = up2 I37 (MA 19) (36 * x + (6 * (mn σ x)) + 5) (nI 0) := ⟨_, rfl⟩
            refine mw_iast i_93_135 (jn := 36 * x + (6 * (mn σ x)) + 5) (n := 36000) (by omega) (by omega) (x := nI 0) (show K (MA 19) = some (7, 36000) from MK_k hM 19 (by decide)) (I' := I38) e38.symm ?_
            refine mw_aload i_93_136 (L := MO) rfl ?_
            refine mw_getR i_93_137 (MK_o hM) (q := some (MA 21)) (MK_r hM 21 (by decide)) ?_
            refine mw_iload i_93_138 (x := nI x) rfl ?_
            refine mw_iload i_93_139 (x := nI t) rfl ?_
            obtain ⟨I39, e39⟩ : ∃ I39, I39 = up2 I38 (MA 21) x (nI t) := ⟨_, rfl⟩
            refine mw_iast i_93_140 (jn := x) (n := 1000) (by omega) (by omega) (x := nI t) (show K (MA 21) = some (7, 1000) from MK_k hM 21 (by decide)) (I' := I39) e39.symm ?_
            refine mw_aload i_93_141 (L := MO) rfl ?_
            refine mw_getR i_93_142 (MK_o hM) (q := some (MA 20)) (MK_r hM 20 (by decide)) ?_
            refine mw_iload i_93_143 (x := nI x) rfl ?_
            refine mw_dup2 i_93_144 trivial trivial ?_
            refine mw_iald i_93_145 (jn := x) (n := 1000) (by omega) (by omega) (show K (MA 20) = some (7, 1000) from MK_k hM 20 (by decide)) (by decide) (v := nI (mn σ x)) (by rw [e39, up2_ne (by simp), e38, up2_ne (by simp), e37, up2_ne (by simp), e36, up2_ne (by simp), e35, up2_ne (by simp), e27, up2_ne (by simp), e26, up2_ne (by simp), eIg4, up2_ne (by simp)]; exact ((rm hm (by decide) x).trans (hV.2.2.2.2.2.1 x (by omega)).1)) ?_
            refine mw_const i_93_146 (v := nI 1) (by decide) ?_
            refine mw_iadd i_93_147 (w := nI (mn σ x + 1)) (nI_add _ _) ?_
            obtain ⟨I40, e40⟩ : ∃ I40, I40 = up2 I39 (MA 20) x (nI (mn σ x + 1)) := ⟨_, rfl⟩
            refine mw_iast i_93_148 (jn := x) (n := 1000) (by omega) (by omega) (x := nI (mn σ x + 1)) (show K (MA 20) = some (7, 1000) from MK_k hM 20 (by decide)) (I' := I40) e40.symm ?_
            refine mw_aload i_93_149 (L := MO) rfl ?_
            refine mw_getR i_93_150 (MK_o hM) (q := some (MA 20)) (MK_r hM 20 (by decide)) ?_
            refine mw_iload i_93_151 (x := nI x) rfl ?_
            refine mw_iald i_93_152 (jn := x) (n := 1000) (by omega) (by omega) (show K (MA 20) = some (7, 1000) from MK_k hM 20 (by decide)) (by decide) (v := nI (mn σ x + 1)) (by rw [e40, up2_at, upd_at]) ?_
            refine mw_const i_93_153 (v := nI 1) (by decide) ?_
            refine mw_isub i_93_154 (w := ((nI (mn σ x + 1)) - (nI 1))) rfl ?_
            refine mw_iretI i_93_155 (x := ((nI (mn σ x + 1)) - (nI 1))) rt_93 ?_
            have ez : bI (¬ pb) = nI 0 := bI_f (fun h => h c8)
            exact q0 p3.1 p3.2 _ ((e40.symm ▸ FrM_up ((e39.symm ▸ FrM_up ((e38.symm ▸ FrM_up ((e37.symm ▸ FrM_up ((e36.symm ▸ FrM_up ((e35.symm ▸ FrM_up ((e27.symm ▸ FrM_up ((e26.symm ▸ FrM_up ((eIg4.symm ▸ FrM_up (FrM_rfl) (by decide))) (by decide))) (by decide))) (by decide))) (by decide))) (by decide))) (by decide))) (by decide))) (by decide))) (by rw [e40, up2_ne (by simp), e39, up2_ne (by simp), e38, up2_ne (by simp), e37, up2_ne (by simp), e36, up2_ne (by simp), e35, up2_ne (by simp), e27, up2_ne (by simp), e26, up2_ne (by simp), eIg4, up2_at, upd_at, c5]) (by rw [e40, mv_a (by decide) (by decide) (by decide) (by decide), e39, mv_a (by decide) (by decide) (by decide) (by decide), e38, mv_a (by decide) (by decide) (by decide) (by decide), e37, mv_a (by decide) (by decide) (by decide) (by decide), e36, mv_a (by decide) (by decide) (by decide) (by decide), e35, mv_a (by decide) (by decide) (by decide) (by decide), e27, mv_a (by decide) (by decide) (by decide) (by decide), e26, mv_a (by decide) (by decide) (by decide) (by decide), eIg4, mv_o (by decide), hm]; unfold bkS; rw [ez]; rfl) _ sub1
        · skip
          refine mw_const i_93_77 (v := nI 0) (by decide) ?_
          refine mw_iretI i_93_78 (x := nI 0) rt_93 ?_
          have h28 : Ig4 MO 28 = nI (gn (t < 4) (t < 4) (bkA σ x t f s mi ti ∧ bkB σ x f s pb ti)) := by rw [eIg4, up2_at, upd_at]
          have hmv : mv Ig4 = σ := by rw [eIg4, mv_o (by decide), hm]
          have hfr : FrM I Ig4 := (eIg4.symm ▸ FrM_up (FrM_rfl) (by decide))
          by_cases p19 : t < 4
          rotate_left
          · exact q1 p19 Ig4 hfr (h28.trans (by rw [gn_1 p19])) hmv
          by_cases p29 : t < 4
          rotate_left
          · exact q2 p19 p29 Ig4 hfr (h28.trans (by rw [gn_2 p19 p29])) hmv
          by_cases p39 : bkA σ x t f s mi ti ∧ bkB σ x f s pb ti
          rotate_left
          · exact q3 p19 p29 p39 Ig4 hfr (h28.trans (by rw [gn_3 p19 p29 p39])) hmv
          exact absurd (gn_t p19 p29 p39) c5
      refine mw_iload i_93_40 (x := bI (t < 4)) rfl ?_
      refine mw_eqB i_93_41 rfl (fun c21 => ?_) (fun c21 => ?_)
      · skip
        exact absurd ht c21
      · skip
        refine mw_iload i_93_42 (x := bI (t < 4)) rfl ?_
        refine mw_eqB i_93_43 rfl (fun c22 => ?_) (fun c22 => ?_)
        · skip
          exact absurd ht c22
        · skip
          refine mw_aload i_93_44 (L := MO) rfl ?_
          refine mw_iload i_93_45 (x := nI x) rfl ?_
          refine mw_iload i_93_46 (x := nI t) rfl ?_
          refine mw_iload i_93_47 (x := nI f) rfl ?_
          refine mw_iload i_93_48 (x := nI s) rfl ?_
          refine mw_iload i_93_49 (x := mi) rfl ?_
          refine mw_iload i_93_50 (x := ti) rfl ?_
          refine mw_callV i_93_51 mf_92 (as := [pI (nI x), pI (nI t), pI (nI f), pI (nI s), pI mi, pI ti]) (rest := []) (d' := d9) (b' := b) (ls0 := [some (pR (some MO)), some (pI (nI x)), some (pI (nI t)), some (pI (nI f)), some (pI (nI s)), some (pI mi), some (pI ti), none, none]) rfl rfl rfl (Nat.le_of_ble_eq_true rfl) (MK_o hM) rfl rfl rfl ?_
          refine m_fits (t := t) (by omega) hM hm hV hx (by omega) (by omega) hti hn9 ?_
          refine aft_v ?_
          refine mw_eqB i_93_52 rfl (fun c23 => ?_) (fun c23 => ?_)
          · skip
            refine mw_const i_93_69 (v := nI 0) (by decide) ?_
            rw [show nI 0 = bI (bkA σ x t f s mi ti ∧ bkB σ x f s pb ti) from (bI_f ((fun h => c23 ⟨⟨h.1.1, h.1.2.2.2⟩, h.1.2.1, h.1.2.2.1, h.2.1, h.2.2.1, h.2.2.2.1⟩))).symm]
            exact J3
          · skip
            refine mw_aload i_93_53 (L := MO) rfl ?_
            refine mw_iload i_93_54 (x := bI pb) rfl ?_
            refine mw_eqB i_93_55 rfl (fun c24 => ?_) (fun c24 => ?_)
            · skip
              refine mw_iload i_93_58 (x := nI f) rfl ?_
              refine mw_iload i_93_59 (x := bI pb) rfl ?_
              refine mw_eqB i_93_60 rfl (fun c25 => ?_) (fun c25 => ?_)
              · skip
                refine mw_iload i_93_63 (x := nI s) rfl ?_
                refine mw_iload i_93_64 (x := nI x) rfl ?_
                refine mw_callV i_93_65 mf_87 (as := [pI (nI f), pI (nI s), pI (nI x)]) (rest := []) (d' := d9) (b' := b) (ls0 := [some (pR (some MO)), some (pI (nI f)), some (pI (nI s)), some (pI (nI x))]) rfl rfl rfl (Nat.le_of_ble_eq_true rfl) (MK_o hM) rfl rfl rfl ?_
                refine m_isBarred hM (by omega) (by omega) ?_
                rw [show bI (nI x < I (MA 11) (10 * f + s) ∨ nI x < I (MA 12) f) = bI (brd σ f s (nI x)) from by rw [rm hm (by decide) (10 * f + s), rm hm (by decide) f]; rfl]
                refine aft_v ?_
                refine mw_neB i_93_66 rfl (fun c26 => ?_) (fun c26 => ?_)
                · skip
                  refine mw_const i_93_69 (v := nI 0) (by decide) ?_
                  rw [show nI 0 = bI (bkA σ x t f s mi ti ∧ bkB σ x f s pb ti) from (bI_f ((fun h => h.2.2.2.2.2 c24 c26))).symm]
                  exact J3
                · skip
                  refine mw_const i_93_67 (v := nI 1) (by decide) ?_
                  refine mw_goto i_93_68 ?_
                  rw [show nI 1 = bI (bkA σ x t f s mi ti ∧ bkB σ x f s pb ti) from (bI_t (⟨⟨c23.1.1, c23.2.1, c23.2.2.1, c23.1.2⟩, c23.2.2.2.1, c23.2.2.2.2.1, c23.2.2.2.2.2, (fun h => absurd h c24), (fun _ => c26)⟩)).symm]
                  exact J3
              · skip
                exact absurd c25 c24
            · skip
              refine mw_iload i_93_56 (x := nI s) rfl ?_
              refine mw_goto i_93_57 ?_
              refine mw_iload i_93_59 (x := bI pb) rfl ?_
              refine mw_eqB i_93_60 rfl (fun c27 => ?_) (fun c27 => ?_)
              · skip
                exact absurd c24 c27
              · skip
                refine mw_iload i_93_61 (x := nI f) rfl ?_
                refine mw_goto i_93_62 ?_
                refine mw_iload i_93_64 (x := nI x) rfl ?_
                refine mw_callV i_93_65 mf_87 (as := [pI (nI s), pI (nI f), pI (nI x)]) (rest := []) (d' := d9) (b' := b) (ls0 := [some (pR (some MO)), some (pI (nI s)), some (pI (nI f)), some (pI (nI x))]) rfl rfl rfl (Nat.le_of_ble_eq_true rfl) (MK_o hM) rfl rfl rfl ?_
                refine m_isBarred hM (by omega) (by omega) ?_
                rw [show bI (nI x < I (MA 11) (10 * s + f) ∨ nI x < I (MA 12) s) = bI (brd σ s f (nI x)) from by rw [rm hm (by decide) (10 * s + f), rm hm (by decide) s]; rfl]
                refine aft_v ?_
                refine mw_neB i_93_66 rfl (fun c28 => ?_) (fun c28 => ?_)
                · skip
                  refine mw_const i_93_69 (v := nI 0) (by decide) ?_
                  rw [show nI 0 = bI (bkA σ x t f s mi ti ∧ bkB σ x f s pb ti) from (bI_f ((fun h => h.2.2.2.2.1 c24 c28))).symm]
                  exact J3
                · skip
                  refine mw_const i_93_67 (v := nI 1) (by decide) ?_
                  refine mw_goto i_93_68 ?_
                  rw [show nI 1 = bI (bkA σ x t f s mi ti ∧ bkB σ x f s pb ti) from (bI_t (⟨⟨c23.1.1, c23.2.1, c23.2.2.1, c23.1.2⟩, c23.2.2.2.1, c23.2.2.2.2.1, c23.2.2.2.2.2, (fun _ => c28), (fun h => absurd c24 h)⟩)).symm]
                  exact J3
    refine mw_iload i_93_22 (x := nI x) rfl ?_
    refine mw_aload i_93_23 (L := MO) rfl ?_
    refine mw_get i_93_24 (MK_o hM) (v := nI (dn σ)) ((rs hm (by decide)).trans hV.2.2.1.1) ?_
    refine mw_const i_93_25 (v := nI 999) (by decide) ?_
    refine mw_callS i_93_26 mf_75 (as := [pI (nI x), pI (nI (dn σ)), pI (nI 999)]) (rest := []) (d' := d9) (b' := b) (ls0 := [some (pI (nI x)), some (pI (nI (dn σ))), some (pI (nI 999))]) rfl rfl rfl (Nat.le_of_ble_eq_true rfl) rfl rfl rfl ?_
    refine m_in ?_
    refine aft_v ?_
    refine mw_eqB i_93_27 rfl (fun c29 => ?_) (fun c29 => ?_)
    · skip
      exact absurd hday c29
    · skip
      refine mw_iload i_93_28 (x := mi) rfl ?_
      refine mw_const i_93_29 (v := nI 1) (by decide) ?_
      refine mw_const i_93_30 (v := nI 60) (by decide) ?_
      refine mw_callS i_93_31 mf_75 (as := [pI mi, pI (nI 1), pI (nI 60)]) (rest := []) (d' := d9) (b' := b) (ls0 := [some (pI mi), some (pI (nI 1)), some (pI (nI 60))]) rfl rfl rfl (Nat.le_of_ble_eq_true rfl) rfl rfl rfl ?_
      refine m_in ?_
      refine aft_v ?_
      refine mw_eqB i_93_32 rfl (fun c30 => ?_) (fun c30 => ?_)
      · skip
        exact absurd hmi c30
      · skip
        refine mw_iload i_93_33 (x := nI f) rfl ?_
        refine mw_iload i_93_34 (x := nI s) rfl ?_
        refine mw_ic i_93_35 (p := f = s) (nI_eq (by omega) (by omega)) (fun c31 => ?_) (fun c31 => ?_)
        · skip
          exact absurd c31 hfs
        · skip
          refine mw_const i_93_36 (v := nI 1) (by decide) ?_
          refine mw_goto i_93_37 ?_
          rw [show nI 1 = bI (t < 4) from (bI_t (ht)).symm]
          exact J2
  refine mw_iload i_93_0 (x := nI t) rfl ?_
  refine mw_callS i_93_1 mf_77 (as := [pI (nI t)]) (rest := []) (d' := d9) (b' := b) (ls0 := [some (pI (nI t))]) rfl rfl rfl (Nat.le_of_ble_eq_true rfl) rfl rfl rfl ?_
  refine m_isTown (by omega) ?_
  refine aft_v ?_
  refine mw_eqB i_93_2 rfl (fun c32 => ?_) (fun c32 => ?_)
  · skip
    exact absurd ⟨t, ht, rfl⟩ c32
  · skip
    refine mw_aload i_93_3 (L := MO) rfl ?_
    refine mw_iload i_93_4 (x := nI f) rfl ?_
    refine mw_callV i_93_5 mf_78 (as := [pI (nI f)]) (rest := []) (d' := d9) (b' := b) (ls0 := [some (pR (some MO)), some (pI (nI f))]) rfl rfl rfl (Nat.le_of_ble_eq_true rfl) (MK_o hM) rfl rfl rfl ?_
    refine m_isOne (by omega) hM ((rs hm (by decide)).trans hV.1.1) hpp ?_
    refine aft_v ?_
    refine mw_eqB i_93_6 rfl (fun c33 => ?_) (fun c33 => ?_)
    · skip
      exact absurd ⟨f, hf, rfl⟩ c33
    · skip
      refine mw_aload i_93_7 (L := MO) rfl ?_
      refine mw_iload i_93_8 (x := nI s) rfl ?_
      refine mw_callV i_93_9 mf_78 (as := [pI (nI s)]) (rest := []) (d' := d9) (b' := b) (ls0 := [some (pR (some MO)), some (pI (nI s))]) rfl rfl rfl (Nat.le_of_ble_eq_true rfl) (MK_o hM) rfl rfl rfl ?_
      refine m_isOne (by omega) hM ((rs hm (by decide)).trans hV.1.1) hpp ?_
      refine aft_v ?_
      refine mw_eqB i_93_10 rfl (fun c34 => ?_) (fun c34 => ?_)
      · skip
        exact absurd ⟨s, hs, rfl⟩ c34
      · skip
        refine mw_iload i_93_11 (x := ti) rfl ?_
        refine mw_const i_93_12 (v := (-1)) (by decide) ?_
        refine mw_ic i_93_13 (p := ti = (-1)) Iff.rfl (fun c35 => ?_) (fun c35 => ?_)
        · skip
          refine mw_const i_93_18 (v := nI 1) (by decide) ?_
          refine mw_goto i_93_19 ?_
          rw [show nI 1 = bI (t < 4) from (bI_t (ht)).symm]
          exact J1
        · skip
          refine mw_aload i_93_14 (L := MO) rfl ?_
          refine mw_iload i_93_15 (x := ti) rfl ?_
          refine mw_callV i_93_16 mf_79 (as := [pI ti]) (rest := []) (d' := d9) (b' := b) (ls0 := [some (pR (some MO)), some (pI ti)]) rfl rfl rfl (Nat.le_of_ble_eq_true rfl) (MK_o hM) rfl rfl rfl ?_
          refine m_isTitle (by omega) hM ((rs hm (by decide)).trans hV.2.1.1) htt ?_
          refine aft_v ?_
          refine mw_eqB i_93_17 rfl (fun c36 => ?_) (fun c36 => ?_)
          · skip
            exact absurd (hti.resolve_left c35) c36
          · skip
            refine mw_const i_93_18 (v := nI 1) (by decide) ?_
            refine mw_goto i_93_19 ?_
            rw [show nI 1 = bI (t < 4) from (bI_t (ht)).symm]
            exact J1
