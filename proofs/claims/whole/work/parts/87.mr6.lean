/-! the reference: injuries, promos, days -/
set_option maxRecDepth 20000 in
set_option maxHeartbeats 400000 in
theorem m_champG {d b : Nat} {K : KM} {I : IM} {R : RM} {Q : QT} {σ : ST} {t : Nat} (hM : MK K R) (hm : mv I = σ) (ht : t < 4) (hl : σ 17 t = nI (lnO σ t)) (hl9 : lnO σ t ≤ 1000) (q : Q (.inl (some (pI (chO σ t)))) K I R) : Mw d b N_X6_championOf 0 [some (pR (some MO)), some (pI (nI t))] [] K I R Q := by
  refine mw_aload i_88_0 (L := MO) rfl ?_
  refine mw_getR i_88_1 (MK_o hM) (q := some (MA 17)) (MK_r hM 17 (by decide)) ?_
  refine mw_iload i_88_2 (x := nI t) rfl ?_
  refine mw_iald i_88_3 (jn := t) (n := 4) (by omega) (by omega) (show K (MA 17) = some (7, 4) from MK_k hM 17 (by decide)) (by decide) (v := nI (lnO σ t)) ((rm hm (by decide) t).trans hl) ?_
  refine mw_if i_88_4 (p := ¬ (nI (lnO σ t)) = nI 0) Iff.rfl (fun c1 => ?_) (fun c1 => ?_)
  · skip
    have hl0 : lnO σ t ≠ 0 := fun h => c1 (by rw [h])
    refine mw_aload i_88_7 (L := MO) rfl ?_
    refine mw_getR i_88_8 (MK_o hM) (q := some (MA 15)) (MK_r hM 15 (by decide)) ?_
    refine mw_const i_88_9 (v := nI 2000) (by decide) ?_
    refine mw_iload i_88_10 (x := nI t) rfl ?_
    refine mw_imul i_88_11 (w := nI (2000 * t)) (pk_mul _ _) ?_
    refine mw_aload i_88_12 (L := MO) rfl ?_
    refine mw_getR i_88_13 (MK_o hM) (q := some (MA 17)) (MK_r hM 17 (by decide)) ?_
    refine mw_iload i_88_14 (x := nI t) rfl ?_
    refine mw_iald i_88_15 (jn := t) (n := 4) (by omega) (by omega) (show K (MA 17) = some (7, 4) from MK_k hM 17 (by decide)) (by decide) (v := nI (lnO σ t)) ((rm hm (by decide) t).trans hl) ?_
    refine mw_iadd i_88_16 (w := nI (2000 * t + (lnO σ t))) (nI_add _ _) ?_
    refine mw_const i_88_17 (v := nI 1) (by decide) ?_
    refine mw_isub i_88_18 (w := nI ((2000 * t + (lnO σ t)) - 1)) (pk_sub (by omega)) ?_
    refine mw_iald i_88_19 (jn := (2000 * t + (lnO σ t)) - 1) (n := 8000) (by omega) (by omega) (show K (MA 15) = some (7, 8000) from MK_k hM 15 (by decide)) (by decide) (v := σ 15 ((2000 * t + (lnO σ t)) - 1)) (rm hm (by decide) _) ?_
    refine mw_iretI i_88_20 (x := σ 15 ((2000 * t + (lnO σ t)) - 1)) rt_88 ?_
    rw [show σ 15 (2000 * t + lnO σ t - 1) = chO σ t from by
      unfold chO
      rw [if_neg (by rw [hl]; exact c1), show (σ 17 t).toNatClampNeg = lnO σ t from rfl, show 2000 * t + (lnO σ t - 1) = 2000 * t + lnO σ t - 1 by omega]]
    exact q
  · skip
    refine mw_const i_88_5 (v := (-1)) (by decide) ?_
    refine mw_goto i_88_6 ?_
    refine mw_iretI i_88_20 (x := (-1)) rt_88 ?_
    rw [show (-1 : Int32) = chO σ t from (if_pos (by rw [hl]; exact Classical.not_not.mp c1)).symm]
    exact q
def hrC (σ : ST) (w : Nat) (bf : Int32) : Prop := nI 60 < mxo σ w bf - σ 0 0
noncomputable def hrK (σ : ST) (w : Nat) (bf : Int32) (k : Nat) : ST := @ite _ (hrC σ w bf) (Classical.propDecidable _) (vaS (ups σ 6 w (mxo σ w bf)) w k) (ups σ 6 w (mxo σ w bf))
theorem hrK_all {σ : ST} {w : Nat} {bf : Int32} : hrK σ w bf (tn σ) = hrS σ w bf := by
  unfold hrK hrS
  by_cases h : hrC σ w bf
  · rw [if_pos h]
    unfold hrC at h
    rw [if_pos h]
  · rw [if_neg h]
    unfold hrC at h
    rw [if_neg h]
theorem hrK_0 {σ : ST} {w : Nat} {bf : Int32} : hrK σ w bf 0 = ups σ 6 w (mxo σ w bf) := by
  unfold hrK
  split <;> rfl
theorem hrK_o {σ : ST} {w k q : Nat} {bf : Int32} (h : q ≠ 6 ∧ q ≠ 15 ∧ q ≠ 16 ∧ q ≠ 17) : hrK σ w bf k q = σ q := by
  unfold hrK
  split
  · rw [va_o (by omega) (by omega) (by omega), ups_ne (by omega)]
  · rw [ups_ne (by omega)]
theorem hrK_6 {σ : ST} {w k : Nat} {bf : Int32} : hrK σ w bf k 6 w = mxo σ w bf := by
  unfold hrK
  split
  · rw [va_o (by omega) (by omega) (by omega), ups_at, upd_at]
  · rw [ups_at, upd_at]
theorem hrK_ln {σ : ST} {n w k : Nat} {bf : Int32} (hn : n < 512) (h : ∀ t, t < 4 → σ 17 t = nI (lnO σ t) ∧ lnO σ t ≤ n) : ∀ t, t < 4 → hrK σ w bf k 17 t = nI (lnO (hrK σ w bf k) t) ∧ lnO (hrK σ w bf k) t ≤ n + 1 := by
  have h9 : ∀ t, t < 4 → ups σ 6 w (mxo σ w bf) 17 t = nI (lnO (ups σ 6 w (mxo σ w bf)) t) ∧ lnO (ups σ 6 w (mxo σ w bf)) t ≤ n := ln_eq h (Nat.le_refl _) (ups_ne (by decide))
  unfold hrK
  split
  · exact va_ln hn h9 k
  · intro t ht
    exact ⟨(h9 t ht).1, by have := (h9 t ht).2; omega⟩
theorem hrK_f {σ : ST} {w k : Nat} {bf : Int32} (h : ¬ (hrC σ w bf ∧ chO (hrK σ w bf k) k = nI w)) : hrK σ w bf (k + 1) = hrK σ w bf k := by
  unfold hrK at *
  by_cases c : hrC σ w bf
  · rw [if_pos c] at h
    rw [if_pos c, if_pos c]
    exact va_f (fun q => h ⟨c, q⟩)
  · rw [if_neg c, if_neg c]
theorem hrK_t {σ : ST} {w k : Nat} {bf : Int32} (c : hrC σ w bf) (h : chO (hrK σ w bf k) k = nI w) : hrK σ w bf (k + 1) = crn (hrK σ w bf k) k (lnO (hrK σ w bf k) k) (-1) (hrK σ w bf k 0 0) := by
  rw [hrK_o (by omega)]
  unfold hrK at *
  rw [if_pos c] at h ⊢
  rw [if_pos c, va_t h, ups_ne (by decide)]
set_option maxRecDepth 20000 in
set_option maxHeartbeats 400000 in
theorem m_hurts_lp {d : Nat} {b : Nat} {K : KM} {R : RM} {Q : QT} {σ : ST} {w n1 : Nat} {bf : Int32} {I0 : IM} (hd : 1 ≤ d) (hM : MK K R) (hw : w < 10) (h18 : σ 18 0 = nI (tn σ)) (htt : tn σ ≤ 4) (hn9 : n1 < 512) (hLN : ∀ t, t < 4 → σ 17 t = nI (lnO σ t) ∧ lnO σ t ≤ n1)  (q : ∀ I', FrA I0 I' → mv I' = hrS σ w bf → ∀ v, v = hrS σ w bf 6 w → Q (.inl (some (pI v))) K I' R) : ∀ (n k : Nat) (I : IM), tn σ - k < n → k ≤ tn σ → (FrA I0 I) → (mv I = hrK σ w bf k) → Mw d b N_X6_hurts 18 [some (pR (some MO)), some (pI (nI w)), some (pI bf), some (pI (nI k))] [] K I R Q := by
  obtain ⟨d9, rfl⟩ : ∃ d9, d = d9 + 1 := ⟨d - 1, by omega⟩
  intro n
  induction n with
  | zero => intro k I  hn; exact absurd hn (Nat.not_lt_zero _)
  | succ n ih =>
    intro k I  hn hi hF hmk
    have hLk := hrK_ln (w := w) (k := k) (bf := bf) hn9 hLN
    refine mw_iload i_97_18 (x := nI k) rfl ?_
    refine mw_aload i_97_19 (L := MO) rfl ?_
    refine mw_get i_97_20 (MK_o hM) (v := nI (tn σ)) ((rs hmk (by decide)).trans (by rw [hrK_o (by omega)]; exact h18)) ?_
    refine mw_ic i_97_21 (p := (tn σ) ≤ k) (nI_leI (by omega) (by omega)) (fun c1 => ?_) (fun c1 => ?_)
    · skip
      refine mw_aload i_97_42 (L := MO) rfl ?_
      refine mw_getR i_97_43 (MK_o hM) (q := some (MA 6)) (MK_r hM 6 (by decide)) ?_
      refine mw_iload i_97_44 (x := nI w) rfl ?_
      refine mw_iald i_97_45 (jn := w) (n := 10) (by omega) (by omega) (show K (MA 6) = some (7, 10) from MK_k hM 6 (by decide)) (by decide) (v := mxo σ w bf) ((rm hmk (by decide) w).trans hrK_6) ?_
      refine mw_iretI i_97_46 (x := mxo σ w bf) rt_97 ?_
      obtain rfl : k = tn σ := by omega
      rw [hrK_all] at hmk
      exact q I hF hmk _ (by rw [← hrK_all, hrK_6])
    · skip
      refine mw_aload i_97_22 (L := MO) rfl ?_
      refine mw_iload i_97_23 (x := nI k) rfl ?_
      refine mw_callV i_97_24 mf_88 (as := [pI (nI k)]) (rest := []) (d' := d9) (b' := b) (ls0 := [some (pR (some MO)), some (pI (nI k))]) rfl rfl rfl (Nat.le_of_ble_eq_true rfl) (MK_o hM) rfl rfl rfl ?_
      refine m_champG hM hmk (by omega) (hLk k (by omega)).1 (by have := (hLk k (by omega)).2; omega) ?_
      refine aft_v ?_
      refine mw_iload i_97_25 (x := nI w) rfl ?_
      refine mw_ic i_97_26 (p := ¬ (chO (hrK σ w bf k) k) = (nI w)) Iff.rfl (fun c2 => ?_) (fun c2 => ?_)
      · skip
        refine mw_iinc i_97_40 (x := nI k) (v := nI (k + 1)) (ls' := [some (pR (some MO)), some (pI (nI w)), some (pI bf), some (pI (nI (k + 1)))]) rfl (nI_add _ _) rfl ?_
        refine mw_goto i_97_41 ?_
        exact ih (k + 1) I (by omega) (by omega) hF (by rw [hmk]; exact (hrK_f (fun h => c2 h.2)).symm)
      · skip
        refine mw_aload i_97_27 (L := MO) rfl ?_
        refine mw_getR i_97_28 (MK_o hM) (q := some (MA 6)) (MK_r hM 6 (by decide)) ?_
        refine mw_iload i_97_29 (x := nI w) rfl ?_
        refine mw_iald i_97_30 (jn := w) (n := 10) (by omega) (by omega) (show K (MA 6) = some (7, 10) from MK_k hM 6 (by decide)) (by decide) (v := mxo σ w bf) ((rm hmk (by decide) w).trans hrK_6) ?_
        refine mw_aload i_97_31 (L := MO) rfl ?_
        refine mw_get i_97_32 (MK_o hM) (v := σ 0 0) ((rs hmk (by decide)).trans (by rw [hrK_o (by omega)])) ?_
        refine mw_isub i_97_33 (w := ((mxo σ w bf) - (σ 0 0))) rfl ?_
        refine mw_const i_97_34 (v := nI 60) (by decide) ?_
        refine mw_ic i_97_35 (p := ((mxo σ w bf) - (σ 0 0)) ≤ (nI 60)) Iff.rfl (fun c3 => ?_) (fun c3 => ?_)
        · skip
          refine mw_iinc i_97_40 (x := nI k) (v := nI (k + 1)) (ls' := [some (pR (some MO)), some (pI (nI w)), some (pI bf), some (pI (nI (k + 1)))]) rfl (nI_add _ _) rfl ?_
          refine mw_goto i_97_41 ?_
          exact ih (k + 1) I (by omega) (by omega) hF (by rw [hmk]; exact (hrK_f (fun h => absurd c3 (Int32.not_le.mpr h.1))).symm)
        · skip
          refine mw_aload i_97_36 (L := MO) rfl ?_
          refine mw_iload i_97_37 (x := nI k) rfl ?_
          refine mw_const i_97_38 (v := (-1)) (by decide) ?_
          refine mw_callV i_97_39 mf_89 (as := [pI (nI k), pI (-1)]) (rest := []) (d' := d9) (b' := b) (ls0 := [some (pR (some MO)), some (pI (nI k)), some (pI (-1))]) rfl rfl rfl (Nat.le_of_ble_eq_true rfl) (MK_o hM) rfl rfl rfl ?_
          refine m_crowns hM hmk (by omega) (hLk k (by omega)).1 (by have := (hLk k (by omega)).2; omega) (fun I1 hF1 hm1 => ?_)
          refine aft_n ?_
          refine mw_iinc i_97_40 (x := nI k) (v := nI (k + 1)) (ls' := [some (pR (some MO)), some (pI (nI w)), some (pI bf), some (pI (nI (k + 1)))]) rfl (nI_add _ _) rfl ?_
          refine mw_goto i_97_41 ?_
          exact ih (k + 1) I1 (by omega) (by omega) (FrA_tr hF hF1) (by rw [hm1]; exact (hrK_t (Int32.not_le.mp c3) (Classical.not_not.mp c2)).symm)
set_option maxRecDepth 20000 in
set_option maxHeartbeats 400000 in
theorem m_hurts {d b : Nat} {K : KM} {I : IM} {R : RM} {Q : QT} {σ : ST} {w n1 : Nat} {bf : Int32} (hd : 1 ≤ d) (hM : MK K R) (hm : mv I = σ) (hw : w < 10) (h18 : σ 18 0 = nI (tn σ)) (htt : tn σ ≤ 4) (hn9 : n1 < 512) (hLN : ∀ t, t < 4 → σ 17 t = nI (lnO σ t) ∧ lnO σ t ≤ n1)  (q : ∀ I', FrA I I' → mv I' = hrS σ w bf → ∀ v, v = hrS σ w bf 6 w → Q (.inl (some (pI v))) K I' R) : Mw d b N_X6_hurts 0 [some (pR (some MO)), some (pI (nI w)), some (pI bf), none] [] K I R Q := by
  obtain ⟨d9, rfl⟩ : ∃ d9, d = d9 + 1 := ⟨d - 1, by omega⟩
  refine mw_aload i_97_0 (L := MO) rfl ?_
  refine mw_getR i_97_1 (MK_o hM) (q := some (MA 6)) (MK_r hM 6 (by decide)) ?_
  refine mw_iload i_97_2 (x := nI w) rfl ?_
  refine mw_iload i_97_3 (x := bf) rfl ?_
  refine mw_aload i_97_4 (L := MO) rfl ?_
  refine mw_getR i_97_5 (MK_o hM) (q := some (MA 6)) (MK_r hM 6 (by decide)) ?_
  refine mw_iload i_97_6 (x := nI w) rfl ?_
  refine mw_iald i_97_7 (jn := w) (n := 10) (by omega) (by omega) (show K (MA 6) = some (7, 10) from MK_k hM 6 (by decide)) (by decide) (v := σ 6 w) (rm hm (by decide) w) ?_
  refine mw_ic i_97_8 (p := bf ≤ (σ 6 w)) Iff.rfl (fun c1 => ?_) (fun c1 => ?_)
  · skip
    refine mw_aload i_97_11 (L := MO) rfl ?_
    refine mw_getR i_97_12 (MK_o hM) (q := some (MA 6)) (MK_r hM 6 (by decide)) ?_
    refine mw_iload i_97_13 (x := nI w) rfl ?_
    refine mw_iald i_97_14 (jn := w) (n := 10) (by omega) (by omega) (show K (MA 6) = some (7, 10) from MK_k hM 6 (by decide)) (by decide) (v := σ 6 w) (rm hm (by decide) w) ?_
    obtain ⟨I22, e22⟩ : ∃ I22, I22 = up2 I (MA 6) w (σ 6 w) := ⟨_, rfl⟩
    refine mw_iast i_97_15 (jn := w) (n := 10) (by omega) (by omega) (x := σ 6 w) (show K (MA 6) = some (7, 10) from MK_k hM 6 (by decide)) (I' := I22) e22.symm ?_
    refine mw_const i_97_16 (v := nI 0) (by decide) ?_
    refine mw_istore i_97_17 (ls' := [some (pR (some MO)), some (pI (nI w)), some (pI bf), some (pI (nI 0))]) rfl (Nat.le_of_ble_eq_true rfl) ?_
    exact m_hurts_lp (I0 := I) (by omega) hM hw h18 htt hn9 hLN q (tn σ + 1) 0 I22 (by omega) (by omega) ((e22.symm ▸ FrA_up (FrA_rfl) rfl)) (by rw [e22, mv_a (by decide) (by decide) (by decide) (by decide), hm, hrK_0, show mxo σ w bf = σ 6 w from if_neg (Int32.not_lt.mpr c1)])
  · skip
    refine mw_iload i_97_9 (x := bf) rfl ?_
    refine mw_goto i_97_10 ?_
    obtain ⟨I23, e23⟩ : ∃ I23, I23 = up2 I (MA 6) w bf := ⟨_, rfl⟩
    refine mw_iast i_97_15 (jn := w) (n := 10) (by omega) (by omega) (x := bf) (show K (MA 6) = some (7, 10) from MK_k hM 6 (by decide)) (I' := I23) e23.symm ?_
    refine mw_const i_97_16 (v := nI 0) (by decide) ?_
    refine mw_istore i_97_17 (ls' := [some (pR (some MO)), some (pI (nI w)), some (pI bf), some (pI (nI 0))]) rfl (Nat.le_of_ble_eq_true rfl) ?_
    exact m_hurts_lp (I0 := I) (by omega) hM hw h18 htt hn9 hLN q (tn σ + 1) 0 I23 (by omega) (by omega) ((e23.symm ▸ FrA_up (FrA_rfl) rfl)) (by rw [e23, mv_a (by decide) (by decide) (by decide) (by decide), hm, hrK_0, show mxo σ w bf = bf from if_pos (Int32.not_le.mp c1)])
set_option maxRecDepth 20000 in
set_option maxHeartbeats 400000 in
theorem m_hurt {d b : Nat} {K : KM} {I : IM} {R : RM} {Q : QT} {n0 : Nat} {σ : ST} {w : Int32} {days : Int32} (hd : 2 ≤ d) (hM : MK K R) (hm : mv I = σ) (hV : IV n0 σ) (hn9 : n0 < 512) (q1 : ¬ (isN w (pn σ)) → ∀ I', FrM I I' → I' MO 28 = nI 1 → mv I' = σ → Q (.inl (some (pI (nI 0)))) K I' R) (q2 : (isN w (pn σ)) → ¬ (inr days (nI 1) (nI 200)) → ∀ I', FrM I I' → I' MO 28 = nI 2 → mv I' = σ → Q (.inl (some (pI (nI 0)))) K I' R) (q0 : ∀ x, x < pn σ → w = nI x → inr days (nI 1) (nI 200) → ∀ I', FrM I I' → I' MO 28 = nI 0 → mv I' = hrS σ x (nI (dn σ) + days) → ∀ v, v = hrS σ x (nI (dn σ) + days) 6 x → Q (.inl (some (pI v))) K I' R) : Mw d b N_X6_hurt 0 [some (pR (some MO)), some (pI w), some (pI days)] [] K I R Q := by
  obtain ⟨d9, rfl⟩ : ∃ d9, d = d9 + 1 := ⟨d - 1, by omega⟩
  have hpp := hV.1.2
  have htt := hV.2.1.2
  have hdd := hV.2.2.1.2
  refine mw_aload i_98_0 (L := MO) rfl ?_
  refine mw_aload i_98_1 (L := MO) rfl ?_
  refine mw_iload i_98_2 (x := w) rfl ?_
  refine mw_callV i_98_3 mf_78 (as := [pI w]) (rest := [pR (some MO)]) (d' := d9) (b' := b) (ls0 := [some (pR (some MO)), some (pI w)]) rfl rfl rfl (Nat.le_of_ble_eq_true rfl) (MK_o hM) rfl rfl rfl ?_
  refine m_isOne (by omega) hM ((rs hm (by decide)).trans hV.1.1) hpp ?_
  refine aft_v ?_
  refine mw_iload i_98_4 (x := days) rfl ?_
  refine mw_const i_98_5 (v := nI 1) (by decide) ?_
  refine mw_const i_98_6 (v := nI 200) (by decide) ?_
  refine mw_callS i_98_7 mf_75 (as := [pI days, pI (nI 1), pI (nI 200)]) (rest := [pI (bI (isN w (pn σ))), pR (some MO)]) (d' := d9) (b' := b) (ls0 := [some (pI days), some (pI (nI 1)), some (pI (nI 200))]) rfl rfl rfl (Nat.le_of_ble_eq_true rfl) rfl rfl rfl ?_
  refine m_in ?_
  refine aft_v ?_
  refine mw_const i_98_8 (v := nI 1) (by decide) ?_
  refine mw_callV i_98_9 mf_76 (as := [pI (bI (isN w (pn σ))), pI (bI (inr days (nI 1) (nI 200))), pI (nI 1)]) (rest := []) (d' := d9) (b' := b) (ls0 := [some (pR (some MO)), some (pI (bI (isN w (pn σ)))), some (pI (bI (inr days (nI 1) (nI 200)))), some (pI (nI 1))]) rfl rfl rfl (Nat.le_of_ble_eq_true rfl) (MK_o hM) rfl rfl rfl ?_
  refine m_goes hM ?_
  rw [show gz (bI (isN w (pn σ))) (bI (inr days (nI 1) (nI 200))) (nI 1) = gn (isN w (pn σ)) (inr days (nI 1) (nI 200)) True from by unfold gn; rw [bI_T]]
  obtain ⟨Ig1, eIg1⟩ : ∃ Ig1, Ig1 = up2 I MO 28 (nI (gn (isN w (pn σ)) (inr days (nI 1) (nI 200)) True)) := ⟨_, rfl⟩
  rw [← eIg1]
  refine aft_v ?_
  refine mw_eqB i_98_10 rfl (fun c2 => ?_) (fun c2 => ?_)
  · skip
    refine mw_const i_98_19 (v := nI 0) (by decide) ?_
    refine mw_iretI i_98_20 (x := nI 0) rt_98 ?_
    have h28 : Ig1 MO 28 = nI (gn (isN w (pn σ)) (inr days (nI 1) (nI 200)) True) := by rw [eIg1, up2_at, upd_at]
    have hmv : mv Ig1 = σ := by rw [eIg1, mv_o (by decide), hm]
    have hfr : FrM I Ig1 := (eIg1.symm ▸ FrM_up (FrM_rfl) (by decide))
    by_cases p19 : isN w (pn σ)
    rotate_left
    · exact q1 p19 Ig1 hfr (h28.trans (by rw [gn_1 p19])) hmv
    by_cases p29 : inr days (nI 1) (nI 200)
    rotate_left
    · exact q2 p19 p29 Ig1 hfr (h28.trans (by rw [gn_2 p19 p29])) hmv
    exact absurd (gn_t p19 p29 trivial) c2
  · skip
    obtain ⟨p1, p2, p3⟩ := gn_0.mp c2
    obtain ⟨x, hx, rfl⟩ := p1
    refine mw_aload i_98_11 (L := MO) rfl ?_
    refine mw_iload i_98_12 (x := nI x) rfl ?_
    refine mw_aload i_98_13 (L := MO) rfl ?_
    refine mw_get i_98_14 (MK_o hM) (v := nI (dn σ)) (by rw [eIg1, up2_slot (by decide)]; exact ((rs hm (by decide)).trans hV.2.2.1.1)) ?_
    refine mw_iload i_98_15 (x := days) rfl ?_
    refine mw_iadd i_98_16 (w := ((nI (dn σ)) + days)) rfl ?_
    have hmg : mv Ig1 = σ := by rw [eIg1, mv_o (by decide), hm]
    refine mw_callV i_98_17 mf_97 (as := [pI (nI x), pI ((nI (dn σ)) + days)]) (rest := []) (d' := d9) (b' := b) (ls0 := [some (pR (some MO)), some (pI (nI x)), some (pI ((nI (dn σ)) + days)), none]) rfl rfl rfl (Nat.le_of_ble_eq_true rfl) (MK_o hM) rfl rfl rfl ?_
    refine m_hurts (bf := nI (dn σ) + days) (by omega) hM hmg (by omega) hV.2.1.1 htt hn9 hV.2.2.2.2.1 (fun I9 hF9 hm9 v9 hv9 => ?_)
    refine aft_v ?_
    refine mw_goto i_98_18 ?_
    refine mw_iretI i_98_20 (x := v9) rt_98 ?_
    exact q0 x hx rfl p2 _ (FrM_tr ((eIg1.symm ▸ FrM_up (FrM_rfl) (by decide))) (FrM_A hF9)) (by rw [hF9 MO (by decide), eIg1, up2_at, upd_at, c2]) hm9 _ hv9
theorem hdv_n {σ : ST} {x h : Nat} (e : σ 7 x = nI h) (h9 : h < 1000) : hdv σ x = if h + 1 ≤ 2 then nI (dn σ + 30 * (h + 1)) else nI 10000 := by
  unfold hdv
  rw [e, nI_add]
  by_cases h0 : h = 0
  · subst h0; rw [if_pos rfl, if_pos (by omega)]
  · rw [if_neg (fun q => h0 (by have := nI_inj q (by omega) (by omega); omega))]
    by_cases h1 : h = 1
    · subst h1; rw [if_pos rfl, if_pos (by omega)]
    · rw [if_neg (fun q => h1 (by have := nI_inj q (by omega) (by omega); omega)), if_neg (by omega)]
set_option maxRecDepth 20000 in
set_option maxHeartbeats 400000 in
theorem m_head {d b : Nat} {K : KM} {I : IM} {R : RM} {Q : QT} {n0 : Nat} {σ : ST} {w : Int32} (hd : 2 ≤ d) (hM : MK K R) (hm : mv I = σ) (hV : IV n0 σ) (hn9 : n0 < 512) (q1 : ¬ (isN w (pn σ)) → ∀ I', FrM I I' → I' MO 28 = nI 1 → mv I' = σ → Q (.inl (some (pI (nI 0)))) K I' R) (q0 : ∀ x, x < pn σ → w = nI x → ∀ I', FrM I I' → I' MO 28 = nI 0 → mv I' = hdS σ x → ∀ v, v = hdS σ x 6 x → Q (.inl (some (pI v))) K I' R) : Mw d b N_X6_head 0 [some (pR (some MO)), some (pI w)] [] K I R Q := by
  obtain ⟨d9, rfl⟩ : ∃ d9, d = d9 + 1 := ⟨d - 1, by omega⟩
  have hpp := hV.1.2
  have htt := hV.2.1.2
  have hdd := hV.2.2.1.2
  refine mw_aload i_99_0 (L := MO) rfl ?_
  refine mw_aload i_99_1 (L := MO) rfl ?_
  refine mw_iload i_99_2 (x := w) rfl ?_
  refine mw_callV i_99_3 mf_78 (as := [pI w]) (rest := [pR (some MO)]) (d' := d9) (b' := b) (ls0 := [some (pR (some MO)), some (pI w)]) rfl rfl rfl (Nat.le_of_ble_eq_true rfl) (MK_o hM) rfl rfl rfl ?_
  refine m_isOne (by omega) hM ((rs hm (by decide)).trans hV.1.1) hpp ?_
  refine aft_v ?_
  refine mw_const i_99_4 (v := nI 1) (by decide) ?_
  refine mw_const i_99_5 (v := nI 1) (by decide) ?_
  refine mw_callV i_99_6 mf_76 (as := [pI (bI (isN w (pn σ))), pI (nI 1), pI (nI 1)]) (rest := []) (d' := d9) (b' := b) (ls0 := [some (pR (some MO)), some (pI (bI (isN w (pn σ)))), some (pI (nI 1)), some (pI (nI 1))]) rfl rfl rfl (Nat.le_of_ble_eq_true rfl) (MK_o hM) rfl rfl rfl ?_
  refine m_goes hM ?_
  rw [show gz (bI (isN w (pn σ))) (nI 1) (nI 1) = gn (isN w (pn σ)) True True from by unfold gn; rw [bI_T]]
  obtain ⟨Ig1, eIg1⟩ : ∃ Ig1, Ig1 = up2 I MO 28 (nI (gn (isN w (pn σ)) True True)) := ⟨_, rfl⟩
  rw [← eIg1]
  refine aft_v ?_
  refine mw_neB i_99_7 rfl (fun c2 => ?_) (fun c2 => ?_)
  · skip
    obtain ⟨p1, p2, p3⟩ := gn_0.mp c2
    obtain ⟨x, hx, rfl⟩ := p1
    obtain ⟨hd9, hhd, ehd⟩ := (hV.2.2.2.1 x (by omega)).2.2.2.2.1
    refine mw_aload i_99_10 (L := MO) rfl ?_
    refine mw_getR i_99_11 (MK_o hM) (q := some (MA 7)) (MK_r hM 7 (by decide)) ?_
    refine mw_iload i_99_12 (x := nI x) rfl ?_
    refine mw_dup2 i_99_13 trivial trivial ?_
    refine mw_iald i_99_14 (jn := x) (n := 10) (by omega) (by omega) (show K (MA 7) = some (7, 10) from MK_k hM 7 (by decide)) (by decide) (v := nI hd9) (by rw [eIg1, up2_ne (by simp)]; exact ((rm hm (by decide) x).trans ehd)) ?_
    refine mw_const i_99_15 (v := nI 1) (by decide) ?_
    refine mw_iadd i_99_16 (w := nI (hd9 + 1)) (nI_add _ _) ?_
    obtain ⟨I23, e23⟩ : ∃ I23, I23 = up2 Ig1 (MA 7) x (nI (hd9 + 1)) := ⟨_, rfl⟩
    refine mw_iast i_99_17 (jn := x) (n := 10) (by omega) (by omega) (x := nI (hd9 + 1)) (show K (MA 7) = some (7, 10) from MK_k hM 7 (by decide)) (I' := I23) e23.symm ?_
    refine mw_aload i_99_18 (L := MO) rfl ?_
    refine mw_iload i_99_19 (x := nI x) rfl ?_
    refine mw_aload i_99_20 (L := MO) rfl ?_
    refine mw_getR i_99_21 (MK_o hM) (q := some (MA 7)) (MK_r hM 7 (by decide)) ?_
    refine mw_iload i_99_22 (x := nI x) rfl ?_
    refine mw_iald i_99_23 (jn := x) (n := 10) (by omega) (by omega) (show K (MA 7) = some (7, 10) from MK_k hM 7 (by decide)) (by decide) (v := nI (hd9 + 1)) (by rw [e23, up2_at, upd_at]) ?_
    refine mw_const i_99_24 (v := nI 2) (by decide) ?_
    refine mw_ic i_99_25 (p := (hd9 + 1) ≤ 2) (nI_leI (by omega) (by omega)) (fun c4 => ?_) (fun c4 => ?_)
    · skip
      refine mw_aload i_99_28 (L := MO) rfl ?_
      refine mw_get i_99_29 (MK_o hM) (v := nI (dn σ)) (by rw [e23, up2_ne (by simp), eIg1, up2_slot (by decide)]; exact ((rs hm (by decide)).trans hV.2.2.1.1)) ?_
      refine mw_const i_99_30 (v := nI 30) (by decide) ?_
      refine mw_aload i_99_31 (L := MO) rfl ?_
      refine mw_getR i_99_32 (MK_o hM) (q := some (MA 7)) (MK_r hM 7 (by decide)) ?_
      refine mw_iload i_99_33 (x := nI x) rfl ?_
      refine mw_iald i_99_34 (jn := x) (n := 10) (by omega) (by omega) (show K (MA 7) = some (7, 10) from MK_k hM 7 (by decide)) (by decide) (v := nI (hd9 + 1)) (by rw [e23, up2_at, upd_at]) ?_
      refine mw_imul i_99_35 (w := nI (30 * (hd9 + 1))) (pk_mul _ _) ?_
      refine mw_iadd i_99_36 (w := nI (dn σ + (30 * (hd9 + 1)))) (nI_add _ _) ?_
      have hmg : mv I23 = ups σ 7 x (σ 7 x + nI 1) := by rw [e23, mv_a (by decide) (by decide) (by decide) (by decide), eIg1, mv_o (by decide), hm, ehd, nI_add]
      have ebf : hdv σ x = nI (dn σ + (30 * (hd9 + 1))) := by rw [hdv_n ehd (by omega)]; first | exact if_pos (by omega) | exact if_neg (by omega)
      refine mw_callV i_99_37 mf_97 (as := [pI (nI x), pI (nI (dn σ + (30 * (hd9 + 1))))]) (rest := []) (d' := d9) (b' := b) (ls0 := [some (pR (some MO)), some (pI (nI x)), some (pI (nI (dn σ + (30 * (hd9 + 1))))), none]) rfl rfl rfl (Nat.le_of_ble_eq_true rfl) (MK_o hM) rfl rfl rfl ?_
      refine m_hurts (n1 := n0) (bf := nI (dn σ + (30 * (hd9 + 1)))) (by omega) hM hmg (by omega) (by rw [ups_ne (by decide)]; exact hV.2.1.1) htt hn9 (ln_eq hV.2.2.2.2.1 (Nat.le_refl _) (ups_ne (by decide))) (fun I9 hF9 hm9 v9 hv9 => ?_)
      refine aft_v ?_
      refine mw_iretI i_99_38 (x := v9) rt_99 ?_
      rw [← ebf] at hm9 hv9
      exact q0 x hx rfl _ (FrM_tr ((e23.symm ▸ FrM_up ((eIg1.symm ▸ FrM_up (FrM_rfl) (by decide))) (by decide))) (FrM_A hF9)) (by rw [hF9 MO (by decide), e23, up2_ne (by simp), eIg1, up2_at, upd_at, c2]) hm9 _ hv9
    · skip
      refine mw_const i_99_26 (v := nI 10000) (by decide) ?_
      refine mw_goto i_99_27 ?_
      have hmg : mv I23 = ups σ 7 x (σ 7 x + nI 1) := by rw [e23, mv_a (by decide) (by decide) (by decide) (by decide), eIg1, mv_o (by decide), hm, ehd, nI_add]
      have ebf : hdv σ x = nI 10000 := by rw [hdv_n ehd (by omega)]; first | exact if_pos (by omega) | exact if_neg (by omega)
      refine mw_callV i_99_37 mf_97 (as := [pI (nI x), pI (nI 10000)]) (rest := []) (d' := d9) (b' := b) (ls0 := [some (pR (some MO)), some (pI (nI x)), some (pI (nI 10000)), none]) rfl rfl rfl (Nat.le_of_ble_eq_true rfl) (MK_o hM) rfl rfl rfl ?_
      refine m_hurts (n1 := n0) (bf := nI 10000) (by omega) hM hmg (by omega) (by rw [ups_ne (by decide)]; exact hV.2.1.1) htt hn9 (ln_eq hV.2.2.2.2.1 (Nat.le_refl _) (ups_ne (by decide))) (fun I9 hF9 hm9 v9 hv9 => ?_)
      refine aft_v ?_
      refine mw_iretI i_99_38 (x := v9) rt_99 ?_
      rw [← ebf] at hm9 hv9
      exact q0 x hx rfl _ (FrM_tr ((e23.symm ▸ FrM_up ((eIg1.symm ▸ FrM_up (FrM_rfl) (by decide))) (by decide))) (FrM_A hF9)) (by rw [hF9 MO (by decide), e23, up2_ne (by simp), eIg1, up2_at, upd_at, c2]) hm9 _ hv9
  · skip
    refine mw_const i_99_8 (v := nI 0) (by decide) ?_
    refine mw_iretI i_99_9 (x := nI 0) rt_99 ?_
    have h28 : Ig1 MO 28 = nI (gn (isN w (pn σ)) True True) := by rw [eIg1, up2_at, upd_at]
    have hmv : mv Ig1 = σ := by rw [eIg1, mv_o (by decide), hm]
    have hfr : FrM I Ig1 := (eIg1.symm ▸ FrM_up (FrM_rfl) (by decide))
    by_cases p19 : isN w (pn σ)
    rotate_left
    · exact q1 p19 Ig1 hfr (h28.trans (by rw [gn_1 p19])) hmv
    exact absurd (gn_t p19 trivial trivial) c2
set_option maxRecDepth 20000 in
set_option maxHeartbeats 400000 in
theorem m_promo_o {d b : Nat} {K : KM} {I : IM} {R : RM} {Q : QT} {n0 : Nat} {σ : ST} {tw : Int32} {w : Int32} {sl : Int32} (hd : 2 ≤ d) (hM : MK K R) (hm : mv I = σ) (hV : IV n0 σ) (hno : ¬ (isN tw 4 ∧ isN w (pn σ))) (q1 : ¬ (isN tw 4 ∧ isN w (pn σ)) → ∀ I', FrM I I' → I' MO 28 = nI 1 → mv I' = σ → Q (.inl (some (pI (nI 0)))) K I' R) (q2 : (isN tw 4 ∧ isN w (pn σ)) → ¬ (isN sl 10) → ∀ I', FrM I I' → I' MO 28 = nI 2 → mv I' = σ → Q (.inl (some (pI (nI 0)))) K I' R) (q3 : (isN tw 4 ∧ isN w (pn σ)) → (isN sl 10) → ¬ (False) → ∀ I', FrM I I' → I' MO 28 = nI 3 → mv I' = σ → Q (.inl (some (pI (nI 0)))) K I' R)  : Mw d b N_X6_promo 0 [some (pR (some MO)), some (pI tw), some (pI w), some (pI sl), none, none] [] K I R Q := by
  obtain ⟨d9, rfl⟩ : ∃ d9, d = d9 + 1 := ⟨d - 1, by omega⟩
  have hpp := hV.1.2
  have htt := hV.2.1.2
  have hdd := hV.2.2.1.2
  have J1 : Mw (d9 + 1) b 114 10 [some (pR (some MO)), some (pI tw), some (pI w), some (pI sl), none, none] [pI (bI (isN tw 4 ∧ isN w (pn σ)))] K I R Q := by
    refine mw_istore i_114_10 (ls' := [some (pR (some MO)), some (pI tw), some (pI w), some (pI sl), some (pI (bI (isN tw 4 ∧ isN w (pn σ)))), none]) rfl (Nat.le_of_ble_eq_true rfl) ?_
    refine mw_aload i_114_11 (L := MO) rfl ?_
    refine mw_iload i_114_12 (x := bI (isN tw 4 ∧ isN w (pn σ))) rfl ?_
    refine mw_iload i_114_13 (x := sl) rfl ?_
    refine mw_const i_114_14 (v := nI 0) (by decide) ?_
    refine mw_const i_114_15 (v := nI 9) (by decide) ?_
    refine mw_callS i_114_16 mf_75 (as := [pI sl, pI (nI 0), pI (nI 9)]) (rest := [pI (bI (isN tw 4 ∧ isN w (pn σ))), pR (some MO)]) (d' := d9) (b' := b) (ls0 := [some (pI sl), some (pI (nI 0)), some (pI (nI 9))]) rfl rfl rfl (Nat.le_of_ble_eq_true rfl) rfl rfl rfl ?_
    refine m_in ?_
    rw [bI_congr (inr_isN (x := sl) (n := 9) (by decide))]
    refine aft_v ?_
    have J2 : Mw (d9 + 1) b 114 33 [some (pR (some MO)), some (pI tw), some (pI w), some (pI sl), some (pI (bI (isN tw 4 ∧ isN w (pn σ)))), none] [pI (bI False), pI (bI (isN sl 10)), pI (bI (isN tw 4 ∧ isN w (pn σ))), pR (some MO)] K I R Q := by
      refine mw_callV i_114_33 mf_76 (as := [pI (bI (isN tw 4 ∧ isN w (pn σ))), pI (bI (isN sl 10)), pI (bI False)]) (rest := []) (d' := d9) (b' := b) (ls0 := [some (pR (some MO)), some (pI (bI (isN tw 4 ∧ isN w (pn σ)))), some (pI (bI (isN sl 10))), some (pI (bI False))]) rfl rfl rfl (Nat.le_of_ble_eq_true rfl) (MK_o hM) rfl rfl rfl ?_
      refine m_goes hM ?_
      rw [show gz (bI (isN tw 4 ∧ isN w (pn σ))) (bI (isN sl 10)) (bI False) = gn (isN tw 4 ∧ isN w (pn σ)) (isN sl 10) False from rfl]
      obtain ⟨Ig3, eIg3⟩ : ∃ Ig3, Ig3 = up2 I MO 28 (nI (gn (isN tw 4 ∧ isN w (pn σ)) (isN sl 10) False)) := ⟨_, rfl⟩
      rw [← eIg3]
      refine aft_v ?_
      refine mw_neB i_114_34 rfl (fun c4 => ?_) (fun c4 => ?_)
      · skip
        obtain ⟨p1, p2, p3⟩ := gn_0.mp c4
        exact p3.elim
      · skip
        refine mw_const i_114_35 (v := nI 0) (by decide) ?_
        refine mw_iretI i_114_36 (x := nI 0) rt_114 ?_
        have h28 : Ig3 MO 28 = nI (gn (isN tw 4 ∧ isN w (pn σ)) (isN sl 10) False) := by rw [eIg3, up2_at, upd_at]
        have hmv : mv Ig3 = σ := by rw [eIg3, mv_o (by decide), hm]
        have hfr : FrM I Ig3 := (eIg3.symm ▸ FrM_up (FrM_rfl) (by decide))
        by_cases p19 : isN tw 4 ∧ isN w (pn σ)
        rotate_left
        · exact q1 p19 Ig3 hfr (h28.trans (by rw [gn_1 p19])) hmv
        by_cases p29 : isN sl 10
        rotate_left
        · exact q2 p19 p29 Ig3 hfr (h28.trans (by rw [gn_2 p19 p29])) hmv
        by_cases p39 : False
        rotate_left
        · exact q3 p19 p29 p39 Ig3 hfr (h28.trans (by rw [gn_3 p19 p29 p39])) hmv
        exact absurd (gn_t p19 p29 p39) c4
    refine mw_iload i_114_17 (x := bI (isN tw 4 ∧ isN w (pn σ))) rfl ?_
    refine mw_eqB i_114_18 rfl (fun c5 => ?_) (fun c5 => ?_)
    · skip
      refine mw_const i_114_32 (v := nI 0) (by decide) ?_
      rw [show nI 0 = bI (False) from (bI_f ((fun h => h))).symm]
      exact J2
    · skip
      exact absurd c5 hno
  refine mw_iload i_114_0 (x := tw) rfl ?_
  refine mw_callS i_114_1 mf_77 (as := [pI tw]) (rest := []) (d' := d9) (b' := b) (ls0 := [some (pI tw)]) rfl rfl rfl (Nat.le_of_ble_eq_true rfl) rfl rfl rfl ?_
  refine m_isTown (by omega) ?_
  refine aft_v ?_
  refine mw_eqB i_114_2 rfl (fun c6 => ?_) (fun c6 => ?_)
  · skip
    refine mw_const i_114_9 (v := nI 0) (by decide) ?_
    rw [show nI 0 = bI (isN tw 4 ∧ isN w (pn σ)) from (bI_f (fun h => c6 h.1)).symm]
    exact J1
  · skip
    refine mw_aload i_114_3 (L := MO) rfl ?_
    refine mw_iload i_114_4 (x := w) rfl ?_
    refine mw_callV i_114_5 mf_78 (as := [pI w]) (rest := []) (d' := d9) (b' := b) (ls0 := [some (pR (some MO)), some (pI w)]) rfl rfl rfl (Nat.le_of_ble_eq_true rfl) (MK_o hM) rfl rfl rfl ?_
    refine m_isOne (by omega) hM ((rs hm (by decide)).trans hV.1.1) hpp ?_
    refine aft_v ?_
    refine mw_eqB i_114_6 rfl (fun c7 => ?_) (fun c7 => ?_)
    · skip
      refine mw_const i_114_9 (v := nI 0) (by decide) ?_
      rw [show nI 0 = bI (isN tw 4 ∧ isN w (pn σ)) from (bI_f (fun h => c7 h.2)).symm]
      exact J1
    · skip
      refine mw_const i_114_7 (v := nI 1) (by decide) ?_
      refine mw_goto i_114_8 ?_
      rw [show nI 1 = bI (isN tw 4 ∧ isN w (pn σ)) from (bI_t (⟨c6, c7⟩)).symm]
      exact J1
theorem pch_a {σ : ST} {x : Nat} {sl : Int32} (h : nI 0 ≤ σ 2 x / nI 10 - sl) : pch σ x sl = σ 2 x / nI 10 - sl := by
  unfold pch
  by_cases e : nI 0 < σ 2 x / nI 10 - sl
  · rw [if_pos e]
  · rw [if_neg e]
    exact Int32.le_antisymm h (Int32.not_lt.mp e)
theorem pch_b {σ : ST} {x : Nat} {sl : Int32} (h : ¬ nI 0 ≤ σ 2 x / nI 10 - sl) : pch σ x sl = nI 0 := by
  unfold pch
  rw [if_neg (fun e => h (Int32.le_of_lt e))]
set_option maxRecDepth 20000 in
set_option maxHeartbeats 400000 in
theorem m_promo_i {d b : Nat} {K : KM} {I : IM} {R : RM} {Q : QT} {n0 : Nat} {σ : ST} {t x : Nat} {sl : Int32} (hd : 2 ≤ d) (hM : MK K R) (hm : mv I = σ) (hV : IV n0 σ) (ht : t < 4) (hx : x < pn σ) (q1 : ¬ (x < pn σ) → ∀ I', FrM I I' → I' MO 28 = nI 1 → mv I' = σ → Q (.inl (some (pI (nI 0)))) K I' R) (q2 : (x < pn σ) → ¬ (isN sl 10) → ∀ I', FrM I I' → I' MO 28 = nI 2 → mv I' = σ → Q (.inl (some (pI (nI 0)))) K I' R) (q3 : (x < pn σ) → (isN sl 10) → ¬ (¬ nI (dn σ) < σ 6 x ∧ σ 10 x = nI 0) → ∀ I', FrM I I' → I' MO 28 = nI 3 → mv I' = σ → Q (.inl (some (pI (nI 0)))) K I' R) (q0 : isN sl 10 → ¬ nI (dn σ) < σ 6 x ∧ σ 10 x = nI 0 → ∀ I', FrM I I' → I' MO 28 = nI 0 → mv I' = prS σ t x sl → ∀ v, v = prS σ t x sl 4 (10 * t + x) → Q (.inl (some (pI v))) K I' R) : Mw d b N_X6_promo 0 [some (pR (some MO)), some (pI (nI t)), some (pI (nI x)), some (pI sl), none, none] [] K I R Q := by
  obtain ⟨d9, rfl⟩ : ∃ d9, d = d9 + 1 := ⟨d - 1, by omega⟩
  have hpp := hV.1.2
  have htt := hV.2.1.2
  have hdd := hV.2.2.1.2
  have J1 : Mw (d9 + 1) b 114 10 [some (pR (some MO)), some (pI (nI t)), some (pI (nI x)), some (pI sl), none, none] [pI (bI (x < pn σ))] K I R Q := by
    refine mw_istore i_114_10 (ls' := [some (pR (some MO)), some (pI (nI t)), some (pI (nI x)), some (pI sl), some (pI (bI (x < pn σ))), none]) rfl (Nat.le_of_ble_eq_true rfl) ?_
    refine mw_aload i_114_11 (L := MO) rfl ?_
    refine mw_iload i_114_12 (x := bI (x < pn σ)) rfl ?_
    refine mw_iload i_114_13 (x := sl) rfl ?_
    refine mw_const i_114_14 (v := nI 0) (by decide) ?_
    refine mw_const i_114_15 (v := nI 9) (by decide) ?_
    refine mw_callS i_114_16 mf_75 (as := [pI sl, pI (nI 0), pI (nI 9)]) (rest := [pI (bI (x < pn σ)), pR (some MO)]) (d' := d9) (b' := b) (ls0 := [some (pI sl), some (pI (nI 0)), some (pI (nI 9))]) rfl rfl rfl (Nat.le_of_ble_eq_true rfl) rfl rfl rfl ?_
    refine m_in ?_
    rw [bI_congr (inr_isN (x := sl) (n := 9) (by decide))]
    refine aft_v ?_
    have J2 : Mw (d9 + 1) b 114 33 [some (pR (some MO)), some (pI (nI t)), some (pI (nI x)), some (pI sl), some (pI (bI (x < pn σ))), none] [pI (bI (¬ nI (dn σ) < σ 6 x ∧ σ 10 x = nI 0)), pI (bI (isN sl 10)), pI (bI (x < pn σ)), pR (some MO)] K I R Q := by
      refine mw_callV i_114_33 mf_76 (as := [pI (bI (x < pn σ)), pI (bI (isN sl 10)), pI (bI (¬ nI (dn σ) < σ 6 x ∧ σ 10 x = nI 0))]) (rest := []) (d' := d9) (b' := b) (ls0 := [some (pR (some MO)), some (pI (bI (x < pn σ))), some (pI (bI (isN sl 10))), some (pI (bI (¬ nI (dn σ) < σ 6 x ∧ σ 10 x = nI 0)))]) rfl rfl rfl (Nat.le_of_ble_eq_true rfl) (MK_o hM) rfl rfl rfl ?_
      refine m_goes hM ?_
      rw [show gz (bI (x < pn σ)) (bI (isN sl 10)) (bI (¬ nI (dn σ) < σ 6 x ∧ σ 10 x = nI 0)) = gn (x < pn σ) (isN sl 10) (¬ nI (dn σ) < σ 6 x ∧ σ 10 x = nI 0) from rfl]
      obtain ⟨Ig3, eIg3⟩ : ∃ Ig3, Ig3 = up2 I MO 28 (nI (gn (x < pn σ) (isN sl 10) (¬ nI (dn σ) < σ 6 x ∧ σ 10 x = nI 0))) := ⟨_, rfl⟩
      rw [← eIg3]
      refine aft_v ?_
      refine mw_neB i_114_34 rfl (fun c4 => ?_) (fun c4 => ?_)
      · skip
        obtain ⟨p1, p2, p3⟩ := gn_0.mp c4
        refine mw_aload i_114_37 (L := MO) rfl ?_
        refine mw_getR i_114_38 (MK_o hM) (q := some (MA 2)) (MK_r hM 2 (by decide)) ?_
        refine mw_iload i_114_39 (x := nI x) rfl ?_
        refine mw_iald i_114_40 (jn := x) (n := 10) (by omega) (by omega) (show K (MA 2) = some (7, 10) from MK_k hM 2 (by decide)) (by decide) (v := σ 2 x) (by rw [eIg3, up2_ne (by simp)]; exact (rm hm (by decide) x)) ?_
        refine mw_const i_114_41 (v := nI 10) (by decide) ?_
        refine mw_idiv i_114_42 (by decide) (w := ((σ 2 x) / (nI 10))) rfl ?_
        refine mw_iload i_114_43 (x := sl) rfl ?_
        refine mw_isub i_114_44 (w := (((σ 2 x) / (nI 10)) - sl)) rfl ?_
        refine mw_istore i_114_45 (ls' := [some (pR (some MO)), some (pI (nI t)), some (pI (nI x)), some (pI sl), some (pI (bI (x < pn σ))), some (pI (((σ 2 x) / (nI 10)) - sl))]) rfl (Nat.le_of_ble_eq_true rfl) ?_
        refine mw_iload i_114_46 (x := (((σ 2 x) / (nI 10)) - sl)) rfl ?_
        refine mw_if i_114_47 (p := nI 0 ≤ (((σ 2 x) / (nI 10)) - sl)) Iff.rfl (fun c5 => ?_) (fun c5 => ?_)
        · skip
          refine mw_iload i_114_50 (x := (((σ 2 x) / (nI 10)) - sl)) rfl ?_
          refine mw_istore i_114_51 (ls' := [some (pR (some MO)), some (pI (nI t)), some (pI (nI x)), some (pI sl), some (pI (bI (x < pn σ))), some (pI (((σ 2 x) / (nI 10)) - sl))]) rfl (Nat.le_of_ble_eq_true rfl) ?_
          refine mw_aload i_114_52 (L := MO) rfl ?_
          refine mw_getR i_114_53 (MK_o hM) (q := some (MA 10)) (MK_r hM 10 (by decide)) ?_
          refine mw_iload i_114_54 (x := nI x) rfl ?_
          refine mw_const i_114_55 (v := nI 1) (by decide) ?_
          obtain ⟨I26, e26⟩ : ∃ I26, I26 = up2 Ig3 (MA 10) x (nI 1) := ⟨_, rfl⟩
          refine mw_bast i_114_56 (jn := x) (n := 10) (by omega) (by omega) (x := nI 1) (show K (MA 10) = some (8, 10) from MK_k hM 10 (by decide)) (by decide) (I' := I26) e26.symm ?_
          refine mw_aload i_114_57 (L := MO) rfl ?_
          refine mw_iload i_114_58 (x := nI t) rfl ?_
          refine mw_iload i_114_59 (x := nI x) rfl ?_
          refine mw_aload i_114_60 (L := MO) rfl ?_
          refine mw_getR i_114_61 (MK_o hM) (q := some (MA 3)) (MK_r hM 3 (by decide)) ?_
          refine mw_iload i_114_62 (x := nI x) rfl ?_
          refine mw_iald i_114_63 (jn := x) (n := 10) (by omega) (by omega) (show K (MA 3) = some (7, 10) from MK_k hM 3 (by decide)) (by decide) (v := σ 3 x) (by rw [e26, up2_ne (by simp), eIg3, up2_ne (by simp)]; exact (rm hm (by decide) x)) ?_
          refine mw_if i_114_64 (p := ¬ (σ 3 x) = nI 0) Iff.rfl (fun c7 => ?_) (fun c7 => ?_)
          · skip
            refine mw_iload i_114_67 (x := (((σ 2 x) / (nI 10)) - sl)) rfl ?_
            refine mw_ineg i_114_68 (w := -(((σ 2 x) / (nI 10)) - sl)) rfl ?_
            have hmg : mv I26 = ups σ 10 x (nI 1) := by rw [e26, mv_a (by decide) (by decide) (by decide) (by decide), eIg3, mv_o (by decide), hm]
            have epc : pch σ x sl = (((σ 2 x) / (nI 10)) - sl) := pch_a c5
            have epg : pcg σ x sl = -(((σ 2 x) / (nI 10)) - sl) := by unfold pcg; rw [epc]; first | exact if_neg c7 | exact if_pos (Classical.not_not.mp c7) | exact if_pos c7
            refine mw_callV i_114_69 mf_108 (as := [pI (nI t), pI (nI x), pI (-(((σ 2 x) / (nI 10)) - sl))]) (rest := []) (d' := d9) (b' := b) (ls0 := [some (pR (some MO)), some (pI (nI t)), some (pI (nI x)), some (pI (-(((σ 2 x) / (nI 10)) - sl))), none]) rfl rfl rfl (Nat.le_of_ble_eq_true rfl) (MK_o hM) rfl rfl rfl ?_
            refine m_loves hM hmg (by omega) (by omega) (fun I8 hF8 hm8 => ?_)
            refine aft_n ?_
            refine mw_aload i_114_70 (L := MO) rfl ?_
            refine mw_iload i_114_71 (x := nI x) rfl ?_
            rw [← epg] at hm8
            refine mw_callV i_114_72 mf_109 (as := [pI (nI x)]) (rest := []) (d' := d9) (b' := b) (ls0 := [some (pR (some MO)), some (pI (nI x)), none, none, none]) rfl rfl rfl (Nat.le_of_ble_eq_true rfl) (MK_o hM) rfl rfl rfl ?_
            refine m_turns hM hm8 (by omega) (by rw [lov_o (by decide), ups_ne (by decide)]; exact (hV.2.2.2.1 x (by omega)).2.2.1) (fun I9 hF9 hm9 => ?_)
            refine aft_n ?_
            refine mw_aload i_114_73 (L := MO) rfl ?_
            refine mw_getR i_114_74 (MK_o hM) (q := some (MA 4)) (MK_r hM 4 (by decide)) ?_
            refine mw_const i_114_75 (v := nI 10) (by decide) ?_
            refine mw_iload i_114_76 (x := nI t) rfl ?_
            refine mw_imul i_114_77 (w := nI (10 * t)) (pk_mul _ _) ?_
            refine mw_iload i_114_78 (x := nI x) rfl ?_
            refine mw_iadd i_114_79 (w := nI (10 * t + x)) (nI_add _ _) ?_
            refine mw_iald i_114_80 (jn := 10 * t + x) (n := 40) (by omega) (by omega) (show K (MA 4) = some (7, 40) from MK_k hM 4 (by decide)) (by decide) (v := prS σ t x sl 4 (10 * t + x)) (rm hm9 (by decide) _) ?_
            refine mw_iretI i_114_81 (x := prS σ t x sl 4 (10 * t + x)) rt_114 ?_
            exact q0 p2 p3 _ (FrM_tr (FrM_tr ((e26.symm ▸ FrM_up ((eIg3.symm ▸ FrM_up (FrM_rfl) (by decide))) (by decide))) (FrM_A hF8)) (FrM_A hF9)) (by rw [hF9 MO (by decide), hF8 MO (by decide), e26, up2_ne (by simp), eIg3, up2_at, upd_at, c4]) hm9 _ rfl
          · skip
            refine mw_iload i_114_65 (x := (((σ 2 x) / (nI 10)) - sl)) rfl ?_
            refine mw_goto i_114_66 ?_
            have hmg : mv I26 = ups σ 10 x (nI 1) := by rw [e26, mv_a (by decide) (by decide) (by decide) (by decide), eIg3, mv_o (by decide), hm]
            have epc : pch σ x sl = (((σ 2 x) / (nI 10)) - sl) := pch_a c5
            have epg : pcg σ x sl = (((σ 2 x) / (nI 10)) - sl) := by unfold pcg; rw [epc]; first | exact if_neg c7 | exact if_pos (Classical.not_not.mp c7) | exact if_pos c7
            refine mw_callV i_114_69 mf_108 (as := [pI (nI t), pI (nI x), pI (((σ 2 x) / (nI 10)) - sl)]) (rest := []) (d' := d9) (b' := b) (ls0 := [some (pR (some MO)), some (pI (nI t)), some (pI (nI x)), some (pI (((σ 2 x) / (nI 10)) - sl)), none]) rfl rfl rfl (Nat.le_of_ble_eq_true rfl) (MK_o hM) rfl rfl rfl ?_
            refine m_loves hM hmg (by omega) (by omega) (fun I8 hF8 hm8 => ?_)
            refine aft_n ?_
            refine mw_aload i_114_70 (L := MO) rfl ?_
            refine mw_iload i_114_71 (x := nI x) rfl ?_
            rw [← epg] at hm8
            refine mw_callV i_114_72 mf_109 (as := [pI (nI x)]) (rest := []) (d' := d9) (b' := b) (ls0 := [some (pR (some MO)), some (pI (nI x)), none, none, none]) rfl rfl rfl (Nat.le_of_ble_eq_true rfl) (MK_o hM) rfl rfl rfl ?_
            refine m_turns hM hm8 (by omega) (by rw [lov_o (by decide), ups_ne (by decide)]; exact (hV.2.2.2.1 x (by omega)).2.2.1) (fun I9 hF9 hm9 => ?_)
            refine aft_n ?_
            refine mw_aload i_114_73 (L := MO) rfl ?_
            refine mw_getR i_114_74 (MK_o hM) (q := some (MA 4)) (MK_r hM 4 (by decide)) ?_
            refine mw_const i_114_75 (v := nI 10) (by decide) ?_
            refine mw_iload i_114_76 (x := nI t) rfl ?_
            refine mw_imul i_114_77 (w := nI (10 * t)) (pk_mul _ _) ?_
            refine mw_iload i_114_78 (x := nI x) rfl ?_
            refine mw_iadd i_114_79 (w := nI (10 * t + x)) (nI_add _ _) ?_
            refine mw_iald i_114_80 (jn := 10 * t + x) (n := 40) (by omega) (by omega) (show K (MA 4) = some (7, 40) from MK_k hM 4 (by decide)) (by decide) (v := prS σ t x sl 4 (10 * t + x)) (rm hm9 (by decide) _) ?_
            refine mw_iretI i_114_81 (x := prS σ t x sl 4 (10 * t + x)) rt_114 ?_
            exact q0 p2 p3 _ (FrM_tr (FrM_tr ((e26.symm ▸ FrM_up ((eIg3.symm ▸ FrM_up (FrM_rfl) (by decide))) (by decide))) (FrM_A hF8)) (FrM_A hF9)) (by rw [hF9 MO (by decide), hF8 MO (by decide), e26, up2_ne (by simp), eIg3, up2_at, upd_at, c4]) hm9 _ rfl
        · skip
          refine mw_const i_114_48 (v := nI 0) (by decide) ?_
          refine mw_goto i_114_49 ?_
          refine mw_istore i_114_51 (ls' := [some (pR (some MO)), some (pI (nI t)), some (pI (nI x)), some (pI sl), some (pI (bI (x < pn σ))), some (pI (nI 0))]) rfl (Nat.le_of_ble_eq_true rfl) ?_
          refine mw_aload i_114_52 (L := MO) rfl ?_
          refine mw_getR i_114_53 (MK_o hM) (q := some (MA 10)) (MK_r hM 10 (by decide)) ?_
          refine mw_iload i_114_54 (x := nI x) rfl ?_
          refine mw_const i_114_55 (v := nI 1) (by decide) ?_
          obtain ⟨I28, e28⟩ : ∃ I28, I28 = up2 Ig3 (MA 10) x (nI 1) := ⟨_, rfl⟩
          refine mw_bast i_114_56 (jn := x) (n := 10) (by omega) (by omega) (x := nI 1) (show K (MA 10) = some (8, 10) from MK_k hM 10 (by decide)) (by decide) (I' := I28) e28.symm ?_
          refine mw_aload i_114_57 (L := MO) rfl ?_
          refine mw_iload i_114_58 (x := nI t) rfl ?_
          refine mw_iload i_114_59 (x := nI x) rfl ?_
          refine mw_aload i_114_60 (L := MO) rfl ?_
          refine mw_getR i_114_61 (MK_o hM) (q := some (MA 3)) (MK_r hM 3 (by decide)) ?_
          refine mw_iload i_114_62 (x := nI x) rfl ?_
          refine mw_iald i_114_63 (jn := x) (n := 10) (by omega) (by omega) (show K (MA 3) = some (7, 10) from MK_k hM 3 (by decide)) (by decide) (v := σ 3 x) (by rw [e28, up2_ne (by simp), eIg3, up2_ne (by simp)]; exact (rm hm (by decide) x)) ?_
          refine mw_if i_114_64 (p := ¬ (σ 3 x) = nI 0) Iff.rfl (fun c9 => ?_) (fun c9 => ?_)
          · skip
            refine mw_iload i_114_67 (x := nI 0) rfl ?_
            refine mw_ineg i_114_68 (w := -(nI 0)) rfl ?_
            have hmg : mv I28 = ups σ 10 x (nI 1) := by rw [e28, mv_a (by decide) (by decide) (by decide) (by decide), eIg3, mv_o (by decide), hm]
            have epc : pch σ x sl = nI 0 := pch_b c5
            have epg : pcg σ x sl = -(nI 0) := by unfold pcg; rw [epc]; first | exact if_neg c9 | exact if_pos (Classical.not_not.mp c9) | exact if_pos c9
            refine mw_callV i_114_69 mf_108 (as := [pI (nI t), pI (nI x), pI (-(nI 0))]) (rest := []) (d' := d9) (b' := b) (ls0 := [some (pR (some MO)), some (pI (nI t)), some (pI (nI x)), some (pI (-(nI 0))), none]) rfl rfl rfl (Nat.le_of_ble_eq_true rfl) (MK_o hM) rfl rfl rfl ?_
            refine m_loves hM hmg (by omega) (by omega) (fun I8 hF8 hm8 => ?_)
            refine aft_n ?_
            refine mw_aload i_114_70 (L := MO) rfl ?_
            refine mw_iload i_114_71 (x := nI x) rfl ?_
            rw [← epg] at hm8
            refine mw_callV i_114_72 mf_109 (as := [pI (nI x)]) (rest := []) (d' := d9) (b' := b) (ls0 := [some (pR (some MO)), some (pI (nI x)), none, none, none]) rfl rfl rfl (Nat.le_of_ble_eq_true rfl) (MK_o hM) rfl rfl rfl ?_
            refine m_turns hM hm8 (by omega) (by rw [lov_o (by decide), ups_ne (by decide)]; exact (hV.2.2.2.1 x (by omega)).2.2.1) (fun I9 hF9 hm9 => ?_)
            refine aft_n ?_
            refine mw_aload i_114_73 (L := MO) rfl ?_
            refine mw_getR i_114_74 (MK_o hM) (q := some (MA 4)) (MK_r hM 4 (by decide)) ?_
            refine mw_const i_114_75 (v := nI 10) (by decide) ?_
            refine mw_iload i_114_76 (x := nI t) rfl ?_
            refine mw_imul i_114_77 (w := nI (10 * t)) (pk_mul _ _) ?_
            refine mw_iload i_114_78 (x := nI x) rfl ?_
            refine mw_iadd i_114_79 (w := nI (10 * t + x)) (nI_add _ _) ?_
            refine mw_iald i_114_80 (jn := 10 * t + x) (n := 40) (by omega) (by omega) (show K (MA 4) = some (7, 40) from MK_k hM 4 (by decide)) (by decide) (v := prS σ t x sl 4 (10 * t + x)) (rm hm9 (by decide) _) ?_
            refine mw_iretI i_114_81 (x := prS σ t x sl 4 (10 * t + x)) rt_114 ?_
            exact q0 p2 p3 _ (FrM_tr (FrM_tr ((e28.symm ▸ FrM_up ((eIg3.symm ▸ FrM_up (FrM_rfl) (by decide))) (by decide))) (FrM_A hF8)) (FrM_A hF9)) (by rw [hF9 MO (by decide), hF8 MO (by decide), e28, up2_ne (by simp), eIg3, up2_at, upd_at, c4]) hm9 _ rfl
          · skip
            refine mw_iload i_114_65 (x := nI 0) rfl ?_
            refine mw_goto i_114_66 ?_
            have hmg : mv I28 = ups σ 10 x (nI 1) := by rw [e28, mv_a (by decide) (by decide) (by decide) (by decide), eIg3, mv_o (by decide), hm]
            have epc : pch σ x sl = nI 0 := pch_b c5
            have epg : pcg σ x sl = nI 0 := by unfold pcg; rw [epc]; first | exact if_neg c9 | exact if_pos (Classical.not_not.mp c9) | exact if_pos c9
            refine mw_callV i_114_69 mf_108 (as := [pI (nI t), pI (nI x), pI (nI 0)]) (rest := []) (d' := d9) (b' := b) (ls0 := [some (pR (some MO)), some (pI (nI t)), some (pI (nI x)), some (pI (nI 0)), none]) rfl rfl rfl (Nat.le_of_ble_eq_true rfl) (MK_o hM) rfl rfl rfl ?_
            refine m_loves hM hmg (by omega) (by omega) (fun I8 hF8 hm8 => ?_)
            refine aft_n ?_
            refine mw_aload i_114_70 (L := MO) rfl ?_
            refine mw_iload i_114_71 (x := nI x) rfl ?_
            rw [← epg] at hm8
            refine mw_callV i_114_72 mf_109 (as := [pI (nI x)]) (rest := []) (d' := d9) (b' := b) (ls0 := [some (pR (some MO)), some (pI (nI x)), none, none, none]) rfl rfl rfl (Nat.le_of_ble_eq_true rfl) (MK_o hM) rfl rfl rfl ?_
            refine m_turns hM hm8 (by omega) (by rw [lov_o (by decide), ups_ne (by decide)]; exact (hV.2.2.2.1 x (by omega)).2.2.1) (fun I9 hF9 hm9 => ?_)
            refine aft_n ?_
            refine mw_aload i_114_73 (L := MO) rfl ?_
            refine mw_getR i_114_74 (MK_o hM) (q := some (MA 4)) (MK_r hM 4 (by decide)) ?_
            refine mw_const i_114_75 (v := nI 10) (by decide) ?_
            refine mw_iload i_114_76 (x := nI t) rfl ?_
            refine mw_imul i_114_77 (w := nI (10 * t)) (pk_mul _ _) ?_
            refine mw_iload i_114_78 (x := nI x) rfl ?_
            refine mw_iadd i_114_79 (w := nI (10 * t + x)) (nI_add _ _) ?_
            refine mw_iald i_114_80 (jn := 10 * t + x) (n := 40) (by omega) (by omega) (show K (MA 4) = some (7, 40) from MK_k hM 4 (by decide)) (by decide) (v := prS σ t x sl 4 (10 * t + x)) (rm hm9 (by decide) _) ?_
            refine mw_iretI i_114_81 (x := prS σ t x sl 4 (10 * t + x)) rt_114 ?_
            exact q0 p2 p3 _ (FrM_tr (FrM_tr ((e28.symm ▸ FrM_up ((eIg3.symm ▸ FrM_up (FrM_rfl) (by decide))) (by decide))) (FrM_A hF8)) (FrM_A hF9)) (by rw [hF9 MO (by decide), hF8 MO (by decide), e28, up2_ne (by simp), eIg3, up2_at, upd_at, c4]) hm9 _ rfl
      · skip
        refine mw_const i_114_35 (v := nI 0) (by decide) ?_
        refine mw_iretI i_114_36 (x := nI 0) rt_114 ?_
        have h28 : Ig3 MO 28 = nI (gn (x < pn σ) (isN sl 10) (¬ nI (dn σ) < σ 6 x ∧ σ 10 x = nI 0)) := by rw [eIg3, up2_at, upd_at]
        have hmv : mv Ig3 = σ := by rw [eIg3, mv_o (by decide), hm]
        have hfr : FrM I Ig3 := (eIg3.symm ▸ FrM_up (FrM_rfl) (by decide))
        by_cases p19 : x < pn σ
        rotate_left
        · exact q1 p19 Ig3 hfr (h28.trans (by rw [gn_1 p19])) hmv
        by_cases p29 : isN sl 10
        rotate_left
        · exact q2 p19 p29 Ig3 hfr (h28.trans (by rw [gn_2 p19 p29])) hmv
        by_cases p39 : ¬ nI (dn σ) < σ 6 x ∧ σ 10 x = nI 0
        rotate_left
        · exact q3 p19 p29 p39 Ig3 hfr (h28.trans (by rw [gn_3 p19 p29 p39])) hmv
        exact absurd (gn_t p19 p29 p39) c4
    refine mw_iload i_114_17 (x := bI (x < pn σ)) rfl ?_
    refine mw_eqB i_114_18 rfl (fun c10 => ?_) (fun c10 => ?_)
    · skip
      exact absurd hx c10
    · skip
      refine mw_aload i_114_19 (L := MO) rfl ?_
      refine mw_iload i_114_20 (x := nI x) rfl ?_
      refine mw_aload i_114_21 (L := MO) rfl ?_
      refine mw_get i_114_22 (MK_o hM) (v := nI (dn σ)) ((rs hm (by decide)).trans hV.2.2.1.1) ?_
      refine mw_callV i_114_23 mf_82 (as := [pI (nI x), pI (nI (dn σ))]) (rest := [pI (bI (isN sl 10)), pI (bI (x < pn σ)), pR (some MO)]) (d' := d9) (b' := b) (ls0 := [some (pR (some MO)), some (pI (nI x)), some (pI (nI (dn σ)))]) rfl rfl rfl (Nat.le_of_ble_eq_true rfl) (MK_o hM) rfl rfl rfl ?_
      refine m_isHurt hM (by omega) ?_
      rw [rm hm (by decide) x]
      refine aft_v ?_
      refine mw_neB i_114_24 rfl (fun c11 => ?_) (fun c11 => ?_)
      · skip
        refine mw_const i_114_32 (v := nI 0) (by decide) ?_
        rw [show nI 0 = bI (¬ nI (dn σ) < σ 6 x ∧ σ 10 x = nI 0) from (bI_f ((fun h => h.1 c11))).symm]
        exact J2
      · skip
        refine mw_aload i_114_25 (L := MO) rfl ?_
        refine mw_getR i_114_26 (MK_o hM) (q := some (MA 10)) (MK_r hM 10 (by decide)) ?_
        refine mw_iload i_114_27 (x := nI x) rfl ?_
        refine mw_bald i_114_28 (jn := x) (n := 10) (by omega) (by omega) (show K (MA 10) = some (8, 10) from MK_k hM 10 (by decide)) (v := σ 10 x) (rm hm (by decide) x) ?_
        refine mw_if i_114_29 (p := ¬ (σ 10 x) = nI 0) Iff.rfl (fun c12 => ?_) (fun c12 => ?_)
        · skip
          refine mw_const i_114_32 (v := nI 0) (by decide) ?_
          rw [show nI 0 = bI (¬ nI (dn σ) < σ 6 x ∧ σ 10 x = nI 0) from (bI_f ((fun h => c12 h.2))).symm]
          exact J2
        · skip
          refine mw_const i_114_30 (v := nI 1) (by decide) ?_
          refine mw_goto i_114_31 ?_
          rw [show nI 1 = bI (¬ nI (dn σ) < σ 6 x ∧ σ 10 x = nI 0) from (bI_t (⟨c11, Classical.not_not.mp c12⟩)).symm]
          exact J2
  refine mw_iload i_114_0 (x := nI t) rfl ?_
  refine mw_callS i_114_1 mf_77 (as := [pI (nI t)]) (rest := []) (d' := d9) (b' := b) (ls0 := [some (pI (nI t))]) rfl rfl rfl (Nat.le_of_ble_eq_true rfl) rfl rfl rfl ?_
  refine m_isTown (by omega) ?_
  refine aft_v ?_
  refine mw_eqB i_114_2 rfl (fun c13 => ?_) (fun c13 => ?_)
  · skip
    exact absurd ⟨t, ht, rfl⟩ c13
  · skip
    refine mw_aload i_114_3 (L := MO) rfl ?_
    refine mw_iload i_114_4 (x := nI x) rfl ?_
    refine mw_callV i_114_5 mf_78 (as := [pI (nI x)]) (rest := []) (d' := d9) (b' := b) (ls0 := [some (pR (some MO)), some (pI (nI x))]) rfl rfl rfl (Nat.le_of_ble_eq_true rfl) (MK_o hM) rfl rfl rfl ?_
    refine m_isOne (by omega) hM ((rs hm (by decide)).trans hV.1.1) hpp ?_
    refine aft_v ?_
    refine mw_eqB i_114_6 rfl (fun c14 => ?_) (fun c14 => ?_)
    · skip
      exact absurd ⟨x, hx, rfl⟩ c14
    · skip
      refine mw_const i_114_7 (v := nI 1) (by decide) ?_
      refine mw_goto i_114_8 ?_
      rw [show nI 1 = bI (x < pn σ) from (bI_t (hx)).symm]
      exact J1
