/-! the class injures -/
/-- the titles below i of w are vacant -/
def vaS (σ : ST) (w : Nat) : Nat → ST
  | 0 => σ
  | i + 1 => if chO (vaS σ w i) i = nI w then crn (vaS σ w i) i (lnO (vaS σ w i) i) (-1) (σ 0 0) else vaS σ w i
theorem va_t {σ : ST} {w i : Nat} (h : chO (vaS σ w i) i = nI w) : vaS σ w (i + 1) = crn (vaS σ w i) i (lnO (vaS σ w i) i) (-1) (σ 0 0) := if_pos h
theorem va_f {σ : ST} {w i : Nat} (h : ¬ chO (vaS σ w i) i = nI w) : vaS σ w (i + 1) = vaS σ w i := if_neg h
theorem crn_o {σ : ST} {t l : Nat} {x y : Int32} {k : Nat} (h : k ≠ 15) (h2 : k ≠ 16) (h3 : k ≠ 17) : crn σ t l x y k = σ k := by
  unfold crn
  rw [ups_ne h3, ups_ne h2, ups_ne h]
theorem crn_17 {σ : ST} {t l : Nat} {x y : Int32} : crn σ t l x y 17 = upd (σ 17) t (nI (l + 1)) := by
  unfold crn
  rw [ups_at, ups_ne (by decide), ups_ne (by decide)]
theorem va_o {σ : ST} {w k : Nat} (h : k ≠ 15) (h2 : k ≠ 16) (h3 : k ≠ 17) : ∀ i, vaS σ w i k = σ k
  | 0 => rfl
  | i + 1 => by
    unfold vaS
    split
    · rw [crn_o h h2 h3]; exact va_o h h2 h3 i
    · exact va_o h h2 h3 i
theorem va_17 {σ : ST} {w : Nat} : ∀ i t, i ≤ t → vaS σ w i 17 t = σ 17 t
  | 0, _, _ => rfl
  | i + 1, t, h => by
    unfold vaS
    split
    · rw [crn_17, upd_ne (by omega)]; exact va_17 i t (by omega)
    · exact va_17 i t (by omega)
theorem va_ln {σ : ST} {w n : Nat} (hn : n < 512) (h : ∀ t, t < 4 → σ 17 t = nI (lnO σ t) ∧ lnO σ t ≤ n) : ∀ i t, t < 4 → vaS σ w i 17 t = nI (lnO (vaS σ w i) t) ∧ lnO (vaS σ w i) t ≤ n + 1
  | 0, t, ht => ⟨(h t ht).1, by have := (h t ht).2; show lnO σ t ≤ n + 1; omega⟩
  | i + 1, t, ht => by
    have ih := va_ln (w := w) hn h i t ht
    have e0 := va_17 (σ := σ) (w := w) i t
    unfold vaS
    split
    · by_cases e : t = i
      · subst e
        have e1 : lnO (vaS σ w t) t = lnO σ t := by unfold lnO; rw [e0 (Nat.le_refl _)]
        have h1 := (h t ht).2
        have e2 : lnO (crn (vaS σ w t) t (lnO (vaS σ w t) t) (-1) (σ 0 0)) t = lnO σ t + 1 := by
          show (crn _ _ _ _ _ 17 t).toNatClampNeg = _
          rw [crn_17, upd_at, nI_clamp (by omega), e1]
        rw [e2, crn_17, upd_at, e1]
        exact ⟨rfl, by omega⟩
      · have e2 : lnO (crn (vaS σ w i) i (lnO (vaS σ w i) i) (-1) (σ 0 0)) t = lnO (vaS σ w i) t := by
          show (crn _ _ _ _ _ 17 t).toNatClampNeg = _
          rw [crn_17, upd_ne e]
          rfl
        rw [e2, crn_17, upd_ne e]
        exact ih
    · exact ih
set_option maxRecDepth 20000 in
set_option maxHeartbeats 400000 in
theorem k_vac_lp {d : Nat} {b : Nat} {K : KM} {R : RM} {Q : QT} {m w : Nat} {σ : ST} {I0 : IM} (hd : 2 ≤ d) (hS : CS0 K R) (hm : m < 512) (htt : tn σ ≤ 4) (hT : σ 18 0 = nI (tn σ)) (hLN : ∀ t, t < 4 → σ 17 t = nI (lnO σ t) ∧ lnO σ t ≤ m) (q : ∀ I', FrT I0 I' → RC (vaS σ w (tn σ)) I' R → Q (.inl none) K I' R) : ∀ (n i : Nat) (I : IM), tn σ - i < n → i ≤ tn σ → (FrT I0 I) → (RC (vaS σ w i) I R) → Mw d b N_X5_vacateTitlesOf 2 [some (pR (some RING)), some (pI (nI w)), some (pI (nI i))] [] K I R Q := by
  obtain ⟨d9, rfl⟩ : ∃ d9, d = d9 + 1 := ⟨d - 1, by omega⟩
  intro n
  induction n with
  | zero => intro i I  hn; exact absurd hn (Nat.not_lt_zero _)
  | succ n ih =>
    intro i I  hn hi hF hr
    have hT7 : I RING 7 = nI (tn σ) := hr.1.2.1.trans (by rw [va_o (by decide) (by decide) (by decide)]; exact hT)
    have hT8 : I RING 8 = σ 0 0 := hr.1.2.2.trans (by rw [va_o (by decide) (by decide) (by decide)])
    have hln := va_ln (w := w) hm hLN
    refine mw_iload i_67_2 (x := nI i) rfl ?_
    refine mw_aload i_67_3 (L := RING) rfl ?_
    refine mw_get i_67_4 hS.1.1 (v := nI (tn σ)) hT7 ?_
    refine mw_ic i_67_5 (p := (tn σ) ≤ i) (nI_leI (by omega) (by omega)) (fun c1 => ?_) (fun c1 => ?_)
    · skip
      refine mw_ret i_67_23 ?_
      obtain rfl : i = tn σ := by omega
      exact q _ hF hr
    · skip
      have hl2 := (hln i i (by omega)).1
      have hl : I (TT i) 2 = nI (lnO (vaS σ w i) i) := (hr.2.2.2.1 i (by omega)).1.trans hl2
      have hl5 : lnO (vaS σ w i) i < 512 := by
        have e1 : lnO (vaS σ w i) i = lnO σ i := by unfold lnO; rw [va_17 i i (Nat.le_refl _)]
        have := (hLN i (by omega)).2
        omega
      refine mw_aload i_67_6 (L := RING) rfl ?_
      refine mw_getR i_67_7 hS.1.1 (q := some TIT) hS.1.2.2.1 ?_
      refine mw_iload i_67_8 (x := nI i) rfl ?_
      refine mw_aald i_67_9 (jn := i) (n := 4) (by omega) (by omega) hS.2.1.2.1 (by decide) (q := some (TT i)) (hS.2.2.2.1 i (by omega)).1 ?_
      refine mw_get i_67_10 (hS.2.2.2.1 i (by omega)).2.1 (v := chO (vaS σ w i) i) (hr.2.2.2.1 i (by omega)).2.1 ?_
      refine mw_iload i_67_11 (x := nI w) rfl ?_
      refine mw_ic i_67_12 (p := ¬ (chO (vaS σ w i) i) = (nI w)) Iff.rfl (fun c2 => ?_) (fun c2 => ?_)
      · skip
        refine mw_iinc i_67_21 (x := nI i) (v := nI (i + 1)) (ls' := [some (pR (some RING)), some (pI (nI w)), some (pI (nI (i + 1)))]) rfl (nI_add _ _) rfl ?_
        refine mw_goto i_67_22 ?_
        refine ih (i + 1) I (by omega) (by omega) hF ?_
        rw [va_f c2]
        exact hr
      · skip
        refine mw_aload i_67_13 (L := RING) rfl ?_
        refine mw_getR i_67_14 hS.1.1 (q := some TIT) hS.1.2.2.1 ?_
        refine mw_iload i_67_15 (x := nI i) rfl ?_
        refine mw_aald i_67_16 (jn := i) (n := 4) (by omega) (by omega) hS.2.1.2.1 (by decide) (q := some (TT i)) (hS.2.2.2.1 i (by omega)).1 ?_
        refine mw_const i_67_17 (v := (-1)) (by decide) ?_
        refine mw_aload i_67_18 (L := RING) rfl ?_
        refine mw_get i_67_19 hS.1.1 (v := σ 0 0) hT8 ?_
        refine mw_callV i_67_20 mf_25 (as := [pI (-1), pI (σ 0 0)]) (rest := []) (d' := d9) (b' := b) (ls0 := [some (pR (some (TT i))), some (pI (-1)), some (pI (σ 0 0))]) rfl rfl rfl (Nat.le_of_ble_eq_true rfl) (hS.2.2.2.1 i (by omega)).2.1 rfl rfl rfl ?_
        refine k_goTo (t := i) (l := lnO (vaS σ w i) i) (x := (-1)) (y := σ 0 0) hS (by omega) hl hl5 ?_
        refine aft_n ?_
        refine mw_iinc i_67_21 (x := nI i) (v := nI (i + 1)) (ls' := [some (pR (some RING)), some (pI (nI w)), some (pI (nI (i + 1)))]) rfl (nI_add _ _) rfl ?_
        refine mw_goto i_67_22 ?_
        refine ih (i + 1) _ (by omega) (by omega) (FrT_tr hF (FrT_up (FrT_up (FrT_up (FrT_up FrT_rfl (Nat.le_of_ble_eq_true rfl) (Nat.le_of_ble_eq_true rfl)) (Nat.le_of_ble_eq_true rfl) (Nat.le_of_ble_eq_true rfl)) (Nat.le_of_ble_eq_true rfl) (Nat.le_of_ble_eq_true rfl)) (Nat.le_of_ble_eq_true rfl) (Nat.le_of_ble_eq_true rfl))) ?_
        rw [va_t (by first | exact c2 | exact Classical.not_not.mp c2)]
        exact RC_crown hr (by omega) hl2 hl5 (fun q hq => Nat.le_trans (hln i q hq).2 (by omega)) _ _
set_option maxRecDepth 20000 in
set_option maxHeartbeats 400000 in
theorem k_vac {d b : Nat} {K : KM} {I : IM} {R : RM} {Q : QT} {m w : Nat} {σ : ST} (hd : 2 ≤ d) (hS : CS0 K R) (hR : RC σ I R) (hm : m < 512) (htt : tn σ ≤ 4) (hT : σ 18 0 = nI (tn σ)) (hLN : ∀ t, t < 4 → σ 17 t = nI (lnO σ t) ∧ lnO σ t ≤ m) (q : ∀ I', FrT I I' → RC (vaS σ w (tn σ)) I' R → Q (.inl none) K I' R) : Mw d b N_X5_vacateTitlesOf 0 [some (pR (some RING)), some (pI (nI w)), none] [] K I R Q := by
  obtain ⟨d9, rfl⟩ : ∃ d9, d = d9 + 1 := ⟨d - 1, by omega⟩
  refine mw_const i_67_0 (v := nI 0) (by decide) ?_
  refine mw_istore i_67_1 (ls' := [some (pR (some RING)), some (pI (nI w)), some (pI (nI 0))]) rfl (Nat.le_of_ble_eq_true rfl) ?_
  exact k_vac_lp hd hS hm htt hT hLN q (tn σ + 1) 0 I (by omega) (by omega) FrT_rfl hR
def mxo (σ : ST) (w : Nat) (bf : Int32) : Int32 := if σ 6 w < bf then bf else σ 6 w
def hrS (σ : ST) (w : Nat) (bf : Int32) : ST := if nI 60 < mxo σ w bf - σ 0 0 then vaS (ups σ 6 w (mxo σ w bf)) w (tn σ) else ups σ 6 w (mxo σ w bf)
theorem hrS_6 {σ : ST} {w : Nat} {bf : Int32} : hrS σ w bf 6 w = mxo σ w bf := by
  unfold hrS
  split
  · rw [va_o (by decide) (by decide) (by decide), ups_at, upd_at]
  · rw [ups_at, upd_at]
set_option maxRecDepth 20000 in
set_option maxHeartbeats 400000 in
theorem k_injure {d b : Nat} {K : KM} {I : IM} {R : RM} {Q : QT} {m w : Nat} {σ : ST} {bf : Int32} (hd : 3 ≤ d) (hS : CS0 K R) (hR : RC σ I R) (hw : w < 10) (hm : m < 512) (htt : tn σ ≤ 4) (hT : σ 18 0 = nI (tn σ)) (hLN : ∀ t, t < 4 → σ 17 t = nI (lnO σ t) ∧ lnO σ t ≤ m) (q : ∀ I', FrC I I' → RC (hrS σ w bf) I' R → ∀ v, v = hrS σ w bf 6 w → Q (.inl (some (pI v))) K I' R) : Mw d b N_X5_injure 0 [some (pR (some RING)), some (pI (nI w)), some (pI bf), none] [] K I R Q := by
  obtain ⟨d9, rfl⟩ : ∃ d9, d = d9 + 1 := ⟨d - 1, by omega⟩
  have r1 := RC_until hR (w := w) (mxo σ w bf)
  refine mw_aload i_66_0 (L := RING) rfl ?_
  refine mw_getR i_66_1 hS.1.1 (q := some ROS) hS.1.2.1 ?_
  refine mw_iload i_66_2 (x := nI w) rfl ?_
  refine mw_aald i_66_3 (jn := w) (n := 10) (by omega) (by omega) hS.2.1.1 (by decide) (q := some (WR w)) (hS.2.2.1 w (by omega)).1 ?_
  refine mw_astore i_66_4 (ls' := [some (pR (some RING)), some (pI (nI w)), some (pI bf), some (pR (some (WR w)))]) rfl (Nat.le_of_ble_eq_true rfl) ?_
  refine mw_aload i_66_5 (L := WR w) rfl ?_
  refine mw_aload i_66_6 (L := WR w) rfl ?_
  refine mw_get i_66_7 (hS.2.2.1 w (by omega)).2.1 (v := σ 6 w) (RC_rd hR hw).2.2.2.2.1 ?_
  refine mw_iload i_66_8 (x := bf) rfl ?_
  refine mw_max i_66_9 (Nat.le_of_ble_eq_true rfl) (by omega) (w := (if σ 6 w < bf then bf else σ 6 w)) rfl ?_
  refine mw_put i_66_10 (x := (if σ 6 w < bf then bf else σ 6 w)) (hS.2.2.1 w (by omega)).2.1 (I' := up2 I (WR w) 7 (if σ 6 w < bf then bf else σ 6 w)) rfl ?_
  refine mw_aload i_66_11 (L := WR w) rfl ?_
  refine mw_get i_66_12 (hS.2.2.1 w (by omega)).2.1 (v := (if σ 6 w < bf then bf else σ 6 w)) (by rw [up2_at, upd_at]) ?_
  refine mw_aload i_66_13 (L := RING) rfl ?_
  refine mw_get i_66_14 hS.1.1 (v := σ 0 0) (by rw [up2_ne (by simp)]; exact hR.1.2.2) ?_
  refine mw_isub i_66_15 (w := ((if σ 6 w < bf then bf else σ 6 w) - (σ 0 0))) rfl ?_
  refine mw_const i_66_16 (v := nI 60) (by decide) ?_
  refine mw_ic i_66_17 (p := ((if σ 6 w < bf then bf else σ 6 w) - (σ 0 0)) ≤ (nI 60)) Iff.rfl (fun c1 => ?_) (fun c1 => ?_)
  · skip
    refine mw_aload i_66_21 (L := WR w) rfl ?_
    refine mw_get i_66_22 (hS.2.2.1 w (by omega)).2.1 (v := (if σ 6 w < bf then bf else σ 6 w)) (by rw [up2_at, upd_at]) ?_
    refine mw_iretI i_66_23 (x := (if σ 6 w < bf then bf else σ 6 w)) rt_66 ?_
    refine q _ (FrC_up (FrC_rfl) (Nat.le_of_ble_eq_true rfl)) ?_ _ ?_
    · unfold hrS
      rw [if_neg (by first | exact Int32.not_lt.mpr c1 | exact c1)]
      exact r1
    · rw [hrS_6]; rfl
  · skip
    refine mw_aload i_66_18 (L := RING) rfl ?_
    refine mw_iload i_66_19 (x := nI w) rfl ?_
    refine mw_callV i_66_20 mf_67 (as := [pI (nI w)]) (rest := []) (d' := d9) (b' := b) (ls0 := [some (pR (some RING)), some (pI (nI w)), none]) rfl rfl rfl (Nat.le_of_ble_eq_true rfl) hS.1.1 rfl rfl rfl ?_
    refine k_vac (by omega) hS r1 hm (show tn σ ≤ 4 from htt) (show ups σ 6 w (mxo σ w bf) 18 0 = nI (tn σ) by rw [ups_ne (by decide)]; exact hT) (fun t ht => by show ups σ 6 w (mxo σ w bf) 17 t = nI (lnO σ t) ∧ lnO σ t ≤ m; rw [ups_ne (by decide)]; exact hLN t ht) ?_
    intro I9 hF9 r2
    refine aft_n ?_
    refine mw_aload i_66_21 (L := WR w) rfl ?_
    refine mw_get i_66_22 (hS.2.2.1 w (by omega)).2.1 (v := (if σ 6 w < bf then bf else σ 6 w)) (by rw [hF9 (WR w) (Or.inl (Nat.le_of_ble_eq_true rfl)), up2_at, upd_at]) ?_
    refine mw_iretI i_66_23 (x := (if σ 6 w < bf then bf else σ 6 w)) rt_66 ?_
    refine q _ (FrC_tr (FrC_up (FrC_rfl) (Nat.le_of_ble_eq_true rfl)) (FrC_T hF9)) ?_ _ ?_
    · unfold hrS
      rw [if_pos (by first | exact c1 | exact Int32.not_le.mp c1)]
      exact r2
    · rw [hrS_6]; rfl
