/-! the mender tries all ways: the whole; mending, mendingAnew -/
set_option maxRecDepth 20000 in
set_option maxHeartbeats 400000 in
theorem k_sum_mid {d b : Nat} {K : KM} {I : IM} {R : RM} {u : Option PV} {Q : QT} {n0 tw t : Nat} {σ : ST} (hd : 3 ≤ d) (hW : CW n0 σ K I R) (hX : FX σ tw I R) (hO : mO σ ≤ 4) (hs : Sts σ (cW σ t) (mO σ) I) (h4 : ∀ j, j < mO σ → I (MN 4) j = nI (cg (nC σ) t j))  (q : Q (.inl (some (pI (Vv σ tw (cW σ t))))) K I R) : Mw d b N_X2_sumOfWay 35 [some (pR (some MEN)), some (pI (nI (mO σ))), some (pI (nI (mO σ))), u] [] K I R Q := by
  obtain ⟨d9, rfl⟩ : ∃ d9, d = d9 + 1 := ⟨d - 1, by omega⟩
  refine mw_const i_22_35 (v := nI 0) (by decide) ?_
  refine mw_istore i_22_36 (ls' := [some (pR (some MEN)), some (pI (nI (mO σ))), some (pI (nI 0)), u]) rfl (Nat.le_of_ble_eq_true rfl) ?_
  refine mw_const i_22_37 (v := nI 0) (by decide) ?_
  refine mw_istore i_22_38 (ls' := [some (pR (some MEN)), some (pI (nI (mO σ))), some (pI (nI 0)), some (pI (nI 0))]) rfl (Nat.le_of_ble_eq_true rfl) ?_
  exact k_sum2_lp (by omega) hW hX hO hs h4 q (mO σ + 1) 0 (fun j hj => absurd hj (Nat.not_lt_zero _)) (by omega) (by omega)
set_option maxRecDepth 20000 in
set_option maxHeartbeats 400000 in
theorem k_sumW {d b : Nat} {K : KM} {I : IM} {R : RM} {Q : QT} {n0 tw t : Nat} {σ : ST} (hd : 3 ≤ d) (hW : CW n0 σ K I R) (hX : FX σ tw I R) (hO : mO σ ≤ 4) (h4 : ∀ j, j < mO σ → I (MN 4) j = nI (cg (nC σ) t j)) (hcl : ∀ s, s < 2 * mn σ (dn σ) → ¬ opn σ s → I (MN 0) s = sv (pn σ) (sw σ s)) (q : ∀ I', FrX I I' → (∀ j, j < mO σ → I' (MN 4) j = nI (cg (nC σ) t j)) → (∀ s, s < 2 * mn σ (dn σ) → ¬ opn σ s → I' (MN 0) s = sv (pn σ) (sw σ s)) → Q (.inl (some (pI (Vv σ tw (cW σ t))))) K I' R) : Mw d b N_X2_sumOfWay 0 [some (pR (some MEN)), none, none, none] [] K I R Q := by
  obtain ⟨d9, rfl⟩ : ∃ d9, d = d9 + 1 := ⟨d - 1, by omega⟩
  have hS := hW.1.1
  have hR := hW.2.1
  have hV := hW.2.2
  have hpp := hW.2.2.1.2
  have hdd := hW.2.2.2.2.1.2
  refine mw_aload i_22_0 (L := MEN) rfl ?_
  refine mw_get i_22_1 hS.2.1.2.2.2.2 (v := nI (mO σ)) hX.2.2.2.1 ?_
  refine mw_const i_22_2 (v := nI 4) (by decide) ?_
  refine mw_min i_22_3 (Nat.le_of_ble_eq_true rfl) (by omega) (w := nI (mO σ)) (if_neg (by rw [nI_ltI (by omega) (by omega)]; omega)) ?_
  refine mw_istore i_22_4 (ls' := [some (pR (some MEN)), some (pI (nI (mO σ))), none, none]) rfl (Nat.le_of_ble_eq_true rfl) ?_
  refine mw_const i_22_5 (v := nI 0) (by decide) ?_
  refine mw_istore i_22_6 (ls' := [some (pR (some MEN)), some (pI (nI (mO σ))), some (pI (nI 0)), none]) rfl (Nat.le_of_ble_eq_true rfl) ?_
  exact k_sum1_lp (I0 := I) (by omega) hO (fun I9 u9 hW9 hX9 hF9 h49 hs9 => k_sum_mid (by omega) hW9 hX9 hO hs9 h49 (q I9 hF9 h49 (fun s8 hs8 ho8 => by rw [hs9 s8 hs8]; unfold who; rw [if_neg ho8]))) (mO σ + 1) 0 I none (by omega) (by omega) hW hX FrX_rfl h4 hcl (fun k hk => absurd hk (Nat.not_lt_zero _))
set_option maxRecDepth 20000 in
set_option maxHeartbeats 400000 in
theorem k_try_end {d b : Nat} {K : KM} {I : IM} {R : RM} {Q : QT} {v u : Int32}  (q : Q (.inl (some (pI v))) K I R) : Mw d b N_X2_tryAllWays 10 [some (pR (some MEN)), some (pI v), some (pI (nI 0)), some (pI u)] [] K I R Q := by
  refine mw_iload i_20_10 (x := nI 0) rfl ?_
  refine mw_ifT i_20_11 (show nI 0 = 0 by decide) ?_
  refine mw_iload i_20_25 (x := v) rfl ?_
  refine mw_iretI i_20_26 (x := v) rt_20 ?_
  exact q
theorem nC_pow {σ : ST} (hO : mO σ ≤ 4) (h : nC σ ≤ 10) : (nC σ + 1) ^ mO σ ≤ 14641 := by
  have h1 : (nC σ + 1) ^ mO σ ≤ 11 ^ mO σ := Nat.pow_le_pow_left (by omega) _
  have h2 : 11 ^ mO σ ≤ 11 ^ 4 := Nat.pow_le_pow_right (by decide) hO
  have h3 : (11 : Nat) ^ 4 = 14641 := by decide
  omega
set_option maxRecDepth 20000 in
set_option maxHeartbeats 400000 in
theorem k_try_lp {d : Nat} {b : Nat} {K : KM} {R : RM} {Q : QT} {n0 tw : Nat} {σ : ST} {I0 : IM} (hd : 4 ≤ d) (hO : mO σ ≤ 4) (q : ∀ I', FrX I0 I' → Q (.inl (some (pI (bS σ tw)))) K I' R) : ∀ (n t : Nat) (I : IM), (nC σ + 1) ^ mO σ - t < n → t < (nC σ + 1) ^ mO σ → (CW n0 σ K I R) → (FX σ tw I R) → (FrX I0 I) → (∀ j, j < mO σ → I (MN 4) j = nI (cg (nC σ) t j)) → (∀ s, s < 2 * mn σ (dn σ) → ¬ opn σ s → I (MN 0) s = sv (pn σ) (sw σ s)) → Mw d b N_X2_tryAllWays 10 [some (pR (some MEN)), some (pI (Gm σ tw t)), some (pI (nI 1)), some (pI (nI t))] [] K I R Q := by
  obtain ⟨d9, rfl⟩ : ∃ d9, d = d9 + 1 := ⟨d - 1, by omega⟩
  intro n
  induction n with
  | zero => intro t I  hn; exact absurd hn (Nat.not_lt_zero _)
  | succ n ih =>
    intro t I  hn hi hW hX hF h4 hcl
    have htl := hi
    have hS := hW.1.1
    have hR := hW.2.1
    have hV := hW.2.2
    have hpp := hW.2.2.1.2
    have hdd := hW.2.2.2.2.1.2
    have hz6 : mn σ (dn σ) ≤ 6 := (CW_c hW (d := dn σ) (by omega)).2.2.1
    have hc1 : nC σ ≤ pn σ := cnt_le _ _
    have hc10 : nC σ ≤ 10 := by omega
    have hpw := nC_pow hO hc10
    refine mw_iload i_20_10 (x := nI 1) rfl ?_
    refine mw_ifF i_20_11 (show ¬ (nI 1 = 0) by decide) ?_
    refine mw_iload i_20_12 (x := nI t) rfl ?_
    refine mw_const i_20_13 (v := nI 1000000) (by decide) ?_
    refine mw_ic i_20_14 (p := 1000000 ≤ t) (nI_leI (by omega) (by omega)) (fun c1 => ?_) (fun c1 => ?_)
    · skip
      exact absurd c1 (by omega)
    · skip
      refine mw_iload i_20_15 (x := Gm σ tw t) rfl ?_
      refine mw_aload i_20_16 (L := MEN) rfl ?_
      refine mw_callV i_20_17 mf_22 (as := []) (rest := [pI (Gm σ tw t)]) (d' := d9) (b' := b) (ls0 := [some (pR (some MEN)), none, none, none]) rfl rfl rfl (Nat.le_of_ble_eq_true rfl) hS.2.1.2.2.2.2 rfl rfl rfl ?_
      refine k_sumW (t := t) (by omega) hW hX hO h4 hcl (fun I1 hF1 h41 hcl1 => ?_)
      refine aft_v ?_
      refine mw_max i_20_18 (Nat.le_of_ble_eq_true rfl) (by omega) (w := Gm σ tw (t + 1)) rfl ?_
      refine mw_istore i_20_19 (ls' := [some (pR (some MEN)), some (pI (Gm σ tw (t + 1))), some (pI (nI 1)), some (pI (nI t))]) rfl (Nat.le_of_ble_eq_true rfl) ?_
      refine mw_aload i_20_20 (L := MEN) rfl ?_
      have hX1 := FX_X hX hF1
      refine mw_callV i_20_21 mf_21 (as := []) (rest := []) (d' := d9) (b' := b) (ls0 := [some (pR (some MEN)), none]) rfl rfl rfl (Nat.le_of_ble_eq_true rfl) hS.2.1.2.2.2.2 rfl rfl rfl ?_
      refine k_next (t := t) hS hX1 hO hc10 htl h41 (fun hlt I2 hF2 h02 h42 => ?_) (fun heq I2 hF2 h02 => ?_)
      · skip
        refine aft_v ?_
        refine mw_istore i_20_22 (ls' := [some (pR (some MEN)), some (pI (Gm σ tw (t + 1))), some (pI (nI 1)), some (pI (nI t))]) rfl (Nat.le_of_ble_eq_true rfl) ?_
        refine mw_iinc i_20_23 (x := nI t) (v := nI (t + 1)) (ls' := [some (pR (some MEN)), some (pI (Gm σ tw (t + 1))), some (pI (nI 1)), some (pI (nI (t + 1)))]) rfl (nI_add _ _) rfl ?_
        refine mw_goto i_20_24 ?_
        exact ih (t + 1) I2 (by omega) hlt (CW_N hW (FrN_X (FrX_tr hF1 hF2)) FrR_rfl) (FX_X hX1 hF2) (FrX_tr hF (FrX_tr hF1 hF2)) h42 (fun s9 h9 ho9 => by rw [h02]; exact hcl1 s9 h9 ho9)
      · skip
        refine aft_v ?_
        refine mw_istore i_20_22 (ls' := [some (pR (some MEN)), some (pI (Gm σ tw (t + 1))), some (pI (nI 0)), some (pI (nI t))]) rfl (Nat.le_of_ble_eq_true rfl) ?_
        refine mw_iinc i_20_23 (x := nI t) (v := nI (t + 1)) (ls' := [some (pR (some MEN)), some (pI (Gm σ tw (t + 1))), some (pI (nI 0)), some (pI (nI (t + 1)))]) rfl (nI_add _ _) rfl ?_
        refine mw_goto i_20_24 ?_
        exact k_try_end (u := nI (t + 1)) (by rw [heq, Gm_all]; exact q I2 (FrX_tr hF (FrX_tr hF1 hF2)))
set_option maxRecDepth 20000 in
set_option maxHeartbeats 400000 in
theorem k_try {d b : Nat} {K : KM} {I : IM} {R : RM} {Q : QT} {n0 tw : Nat} {σ : ST} (hd : 4 ≤ d) (hW : CW n0 σ K I R) (hM : MW σ tw I R) (hO : mO σ ≤ 4) (q : ∀ I', FrX I I' → Q (.inl (some (pI (bS σ tw)))) K I' R) : Mw d b N_X2_tryAllWays 0 [some (pR (some MEN)), none, none, none] [] K I R Q := by
  obtain ⟨d9, rfl⟩ : ∃ d9, d = d9 + 1 := ⟨d - 1, by omega⟩
  have hS := hW.1.1
  have hR := hW.2.1
  have hV := hW.2.2
  have hpp := hW.2.2.1.2
  have hdd := hW.2.2.2.2.1.2
  refine mw_aload i_20_0 (L := MEN) rfl ?_
  refine mw_getR i_20_1 hS.2.1.2.2.2.2 (q := some (MN 4)) (hS.2.2.2.2 4 (by omega)).1 ?_
  refine mw_const i_20_2 (v := nI 0) (by decide) ?_
  refine mw_callS i_20_3 mf_76 (as := [pR (some (MN 4)), pI (nI 0)]) (rest := []) (d' := d9) (b' := b) (ls0 := [some (pR (some (MN 4))), some (pI (nI 0)), none, none]) rfl rfl rfl (Nat.le_of_ble_eq_true rfl) rfl rfl rfl ?_
  refine k_afill (show K (MN 4) = some (7, 4) from (hS.2.2.2.2 4 (by omega)).2) (by decide) (fun I1 hL1 hv1 => ?_)
  refine aft_n ?_
  refine mw_const i_20_4 (v := nI 0) (by decide) ?_
  refine mw_istore i_20_5 (ls' := [some (pR (some MEN)), some (pI (nI 0)), none, none]) rfl (Nat.le_of_ble_eq_true rfl) ?_
  refine mw_const i_20_6 (v := nI 1) (by decide) ?_
  refine mw_istore i_20_7 (ls' := [some (pR (some MEN)), some (pI (nI 0)), some (pI (nI 1)), none]) rfl (Nat.le_of_ble_eq_true rfl) ?_
  refine mw_const i_20_8 (v := nI 0) (by decide) ?_
  refine mw_istore i_20_9 (ls' := [some (pR (some MEN)), some (pI (nI 0)), some (pI (nI 1)), some (pI (nI 0))]) rfl (Nat.le_of_ble_eq_true rfl) ?_
  have hFx : FrX I I1 := ⟨fun L a b c d e => hL1 L d, fun k _ => by rw [hL1 MEN (by simp)]⟩
  have hSt := Sts_0 hV hM.2.2.1
  exact k_try_lp (I0 := I) (by omega) hO q ((nC σ + 1) ^ mO σ + 1) 0 I1 (by omega) (Nat.pow_pos (Nat.succ_pos _)) (CW_N hW (FrN_X hFx) FrR_rfl) (FX_X (FX_of hO hM) hFx) hFx (fun j hj => by rw [hv1 j (by omega), cg_0]) (fun s9 h9 ho9 => by
    rw [hL1 (MN 0) (by simp), hSt s9 h9]
    unfold who
    rw [if_neg ho9])
set_option maxRecDepth 20000 in
set_option maxHeartbeats 400000 in
theorem k_mending {d b : Nat} {K : KM} {I : IM} {R : RM} {Q : QT} {n : Nat} {σ : ST} (hd : 12 ≤ d) (hW : CW n σ K I R) (q1 : ¬ mOK σ → ∀ I' R', FrN I I' → FrR R R' → CW n σ K I' R' → Q (.inr 2) K I' R') (q0 : mOK σ → ∀ I' R', FrN I I' → FrR R R' → CW n σ K I' R' → Q (.inl (some (pI (bS σ (twn σ (dn σ)))))) K I' R') : Mw d (b + 7) N_X5_mending 0 [some (pR (some RING))] [] K I R Q := by
  obtain ⟨d9, rfl⟩ : ∃ d9, d = d9 + 1 := ⟨d - 1, by omega⟩
  have hS := hW.1.1
  refine mw_aload i_57_0 (L := RING) rfl ?_
  refine mw_callV i_57_1 mf_72 (as := []) (rest := []) (d' := d9) (b' := b) (ls0 := [some (pR (some RING)), none]) rfl rfl rfl (Nat.le_of_ble_eq_true rfl) hS.1.1 rfl (by omega) rfl ?_
  refine k_mView (by omega) hW (by omega) (fun hno I9 R9 hF9 hR9 hW9 => ?_) (fun hok I9 R9 tw hF9 hR9 hW9 htw htw4 hM9 => ?_)
  · skip
    refine aft_x hx_57 ?_
    exact q1 hno I9 R9 hF9 hR9 hW9
  · skip
    refine aft_v ?_
    refine mw_callV i_57_2 mf_15 (as := []) (rest := []) (d' := d9) (b' := b) (ls0 := [some (pR (some MEN))]) rfl rfl rfl (Nat.le_of_ble_eq_true rfl) hS.2.1.2.2.2.2 rfl rfl rfl ?_
    refine k_find (by omega) (by omega) hW9 hM9 hok.2.2 (fun I8 hX8 hb8 => ?_)
    refine aft_v ?_
    refine mw_iretI i_57_3 (x := bS σ tw) rt_57 ?_
    rw [show twn σ (dn σ) = tw from by unfold twn; rw [htw]; exact nI_clamp (by omega)] at q0
    exact q0 hok I8 R9 (FrN_tr hF9 (FrN_X hX8)) hR9 (CW_N hW9 (FrN_X hX8) FrR_rfl)
set_option maxRecDepth 20000 in
set_option maxHeartbeats 400000 in
theorem k_mendingAnew {d b : Nat} {K : KM} {I : IM} {R : RM} {Q : QT} {n : Nat} {σ : ST} (hd : 12 ≤ d) (hW : CW n σ K I R) (q1 : ¬ mOK σ → ∀ I' R', FrN I I' → FrR R R' → CW n σ K I' R' → Q (.inr 2) K I' R') (q0 : mOK σ → ∀ I' R', FrN I I' → FrR R R' → CW n σ K I' R' → Q (.inl (some (pI (bS σ (twn σ (dn σ)))))) K I' R') : Mw d (b + 7) N_X5_mendingAnew 0 [some (pR (some RING))] [] K I R Q := by
  obtain ⟨d9, rfl⟩ : ∃ d9, d = d9 + 1 := ⟨d - 1, by omega⟩
  have hS := hW.1.1
  refine mw_aload i_58_0 (L := RING) rfl ?_
  refine mw_callV i_58_1 mf_72 (as := []) (rest := []) (d' := d9) (b' := b) (ls0 := [some (pR (some RING)), none]) rfl rfl rfl (Nat.le_of_ble_eq_true rfl) hS.1.1 rfl (by omega) rfl ?_
  refine k_mView (by omega) hW (by omega) (fun hno I9 R9 hF9 hR9 hW9 => ?_) (fun hok I9 R9 tw hF9 hR9 hW9 htw htw4 hM9 => ?_)
  · skip
    refine aft_x hx_58 ?_
    exact q1 hno I9 R9 hF9 hR9 hW9
  · skip
    refine aft_v ?_
    refine mw_callV i_58_2 mf_20 (as := []) (rest := []) (d' := d9) (b' := b) (ls0 := [some (pR (some MEN)), none, none, none]) rfl rfl rfl (Nat.le_of_ble_eq_true rfl) hS.2.1.2.2.2.2 rfl rfl rfl ?_
    refine k_try (by omega) hW9 hM9 hok.2.2 (fun I8 hX8 => ?_)
    refine aft_v ?_
    refine mw_iretI i_58_3 (x := bS σ tw) rt_58 ?_
    rw [show twn σ (dn σ) = tw from by unfold twn; rw [htw]; exact nI_clamp (by omega)] at q0
    exact q0 hok I8 R9 (FrN_tr hF9 (FrN_X hX8)) hR9 (CW_N hW9 (FrN_X hX8) FrR_rfl)
