/-! the class changes: roster and the like -/
def wrS (σ : ST) (sk mi ro : Int32) : ST := sets (ups (ups (ups σ 1 (pn σ) sk) 2 (pn σ) mi) 3 (pn σ) ro) 14 (nI (pn σ + 1))
def tiS (σ : ST) : ST := sets σ 18 (nI (tn σ + 1))
theorem sub1 {n : Nat} : nI (n + 1) - nI 1 = nI n := (pk_sub (Nat.le_add_left 1 n)).trans rfl
set_option maxRecDepth 20000 in
set_option maxHeartbeats 400000 in
theorem k_wrestler {d b : Nat} {K : KM} {I : IM} {R : RM} {Q : QT} {n : Nat} {σ : ST} {sk : Int32} {mi : Int32} {ro : Int32} (hd : 8 ≤ d) (hW : CW n σ K I R) (hb : 7 ≤ b) (hn : n < 512)  (q1 : ¬ (isN sk 100 ∧ isN mi 100 ∧ isN ro 2) → Q (.inr 1) K I R) (q2 : (isN sk 100 ∧ isN mi 100 ∧ isN ro 2) → ¬ pn σ < 10 → Q (.inr 2) K I R) (q0 : (isN sk 100 ∧ isN mi 100 ∧ isN ro 2) → pn σ < 10 → ∀ I', FrC I I' → RC (wrS σ sk mi ro) I' R → ∀ v, v = nI (pn σ) → Q (.inl (some (pI v))) K I' R) : Mw d b N_X5_wrestler 0 [some (pR (some RING)), some (pI sk), some (pI mi), some (pI ro), none] [] K I R Q := by
  obtain ⟨d9, rfl⟩ : ∃ d9, d = d9 + 1 := ⟨d - 1, by omega⟩
  have hS := hW.1.1
  have hR := hW.2.1
  have hV := hW.2.2
  have hpp := hW.2.2.1.2
  have htt := hW.2.2.2.1.2
  have hdd := hW.2.2.2.2.1.2
  refine mw_iload i_33_0 (x := sk) rfl ?_
  refine mw_const i_33_1 (v := nI 0) (by decide) ?_
  refine mw_const i_33_2 (v := nI 99) (by decide) ?_
  refine mw_callS i_33_3 mf_59 (as := [pI sk, pI (nI 0), pI (nI 99)]) (rest := []) (d' := d9) (b' := b) (ls0 := [some (pI sk), some (pI (nI 0)), some (pI (nI 99))]) rfl rfl rfl (Nat.le_of_ble_eq_true rfl) rfl rfl rfl ?_
  refine k_within ?_
  rw [bI_congr (inr_isN (x := sk) (n := 99) (by decide))]
  refine aft_v ?_
  refine mw_eqB i_33_4 rfl (fun c1 => ?_) (fun c1 => ?_)
  · skip
    refine mw_throw i_33_15 hx_33 (by omega) (by omega) ?_
    exact q1 (fun h => c1 h.1)
  · skip
    refine mw_iload i_33_5 (x := mi) rfl ?_
    refine mw_const i_33_6 (v := nI 0) (by decide) ?_
    refine mw_const i_33_7 (v := nI 99) (by decide) ?_
    refine mw_callS i_33_8 mf_59 (as := [pI mi, pI (nI 0), pI (nI 99)]) (rest := []) (d' := d9) (b' := b) (ls0 := [some (pI mi), some (pI (nI 0)), some (pI (nI 99))]) rfl rfl rfl (Nat.le_of_ble_eq_true rfl) rfl rfl rfl ?_
    refine k_within ?_
    rw [bI_congr (inr_isN (x := mi) (n := 99) (by decide))]
    refine aft_v ?_
    refine mw_eqB i_33_9 rfl (fun c2 => ?_) (fun c2 => ?_)
    · skip
      refine mw_throw i_33_15 hx_33 (by omega) (by omega) ?_
      exact q1 (fun h => c2 h.2.1)
    · skip
      refine mw_iload i_33_10 (x := ro) rfl ?_
      refine mw_const i_33_11 (v := nI 0) (by decide) ?_
      refine mw_const i_33_12 (v := nI 1) (by decide) ?_
      refine mw_callS i_33_13 mf_59 (as := [pI ro, pI (nI 0), pI (nI 1)]) (rest := []) (d' := d9) (b' := b) (ls0 := [some (pI ro), some (pI (nI 0)), some (pI (nI 1))]) rfl rfl rfl (Nat.le_of_ble_eq_true rfl) rfl rfl rfl ?_
      refine k_within ?_
      rw [bI_congr (inr_isN (x := ro) (n := 1) (by decide))]
      refine aft_v ?_
      refine mw_neB i_33_14 rfl (fun c3 => ?_) (fun c3 => ?_)
      · skip
        refine mw_aload i_33_20 (L := RING) rfl ?_
        refine mw_get i_33_21 hS.1.1 (v := nI (pn σ)) (CW_p hW) ?_
        refine mw_const i_33_22 (v := nI 10) (by decide) ?_
        refine mw_ic i_33_23 (p := (pn σ) < 10) (nI_ltI (by omega) (by omega)) (fun c4 => ?_) (fun c4 => ?_)
        · skip
          refine mw_aload i_33_29 (L := RING) rfl ?_
          refine mw_getR i_33_30 hS.1.1 (q := some ROS) hS.1.2.1 ?_
          refine mw_aload i_33_31 (L := RING) rfl ?_
          refine mw_get i_33_32 hS.1.1 (v := nI (pn σ)) (CW_p hW) ?_
          refine mw_aald i_33_33 (jn := pn σ) (n := 10) (by omega) (by omega) hS.2.1.1 (by decide) (q := some (WR (pn σ))) (hS.2.2.1 (pn σ) (by omega)).1 ?_
          refine mw_astore i_33_34 (ls' := [some (pR (some RING)), some (pI sk), some (pI mi), some (pI ro), some (pR (some (WR (pn σ))))]) rfl (Nat.le_of_ble_eq_true rfl) ?_
          refine mw_aload i_33_35 (L := WR (pn σ)) rfl ?_
          refine mw_iload i_33_36 (x := sk) rfl ?_
          obtain ⟨I25, e25⟩ : ∃ I25, I25 = up2 I (WR (pn σ)) 3 sk := ⟨_, rfl⟩
          refine mw_put i_33_37 (x := sk) (hS.2.2.1 (pn σ) (by omega)).2.1 (I' := I25) e25.symm ?_
          refine mw_aload i_33_38 (L := WR (pn σ)) rfl ?_
          refine mw_iload i_33_39 (x := mi) rfl ?_
          obtain ⟨I26, e26⟩ : ∃ I26, I26 = up2 I25 (WR (pn σ)) 4 mi := ⟨_, rfl⟩
          refine mw_put i_33_40 (x := mi) (hS.2.2.1 (pn σ) (by omega)).2.1 (I' := I26) e26.symm ?_
          refine mw_aload i_33_41 (L := WR (pn σ)) rfl ?_
          refine mw_iload i_33_42 (x := ro) rfl ?_
          obtain ⟨I27, e27⟩ : ∃ I27, I27 = up2 I26 (WR (pn σ)) 5 ro := ⟨_, rfl⟩
          refine mw_put i_33_43 (x := ro) (hS.2.2.1 (pn σ) (by omega)).2.1 (I' := I27) e27.symm ?_
          refine mw_aload i_33_44 (L := RING) rfl ?_
          refine mw_dup i_33_45 trivial ?_
          refine mw_get i_33_46 hS.1.1 (v := nI (pn σ)) (by rw [e27, up2_ne (by simp), e26, up2_ne (by simp), e25, up2_ne (by simp)]; exact (CW_p hW)) ?_
          refine mw_const i_33_47 (v := nI 1) (by decide) ?_
          refine mw_iadd i_33_48 (w := nI (pn σ + 1)) (nI_add _ _) ?_
          obtain ⟨I28, e28⟩ : ∃ I28, I28 = up2 I27 RING 6 (nI (pn σ + 1)) := ⟨_, rfl⟩
          refine mw_put i_33_49 (x := nI (pn σ + 1)) hS.1.1 (I' := I28) e28.symm ?_
          refine mw_aload i_33_50 (L := RING) rfl ?_
          refine mw_get i_33_51 hS.1.1 (v := nI (pn σ + 1)) (by rw [e28, up2_at, upd_at]) ?_
          refine mw_const i_33_52 (v := nI 1) (by decide) ?_
          refine mw_isub i_33_53 (w := ((nI (pn σ + 1)) - (nI 1))) rfl ?_
          refine mw_iretI i_33_54 (x := ((nI (pn σ + 1)) - (nI 1))) rt_33 ?_
          have r1 := RC_skill hR (w := pn σ) sk
          rw [← e25] at r1
          have r2 := RC_mic r1 (w := pn σ) mi
          rw [← e26] at r2
          have r3 := RC_role r2 (w := pn σ) ro
          rw [← e27] at r3
          have r4 := RC_people r3 (nI (pn σ + 1))
          rw [← e28] at r4
          refine q0 ⟨c1, c2, c3⟩ (by omega) _ ((e28.symm ▸ FrC_up ((e27.symm ▸ FrC_up ((e26.symm ▸ FrC_up ((e25.symm ▸ FrC_up (FrC_rfl) (Nat.le_of_ble_eq_true rfl))) (Nat.le_of_ble_eq_true rfl))) (Nat.le_of_ble_eq_true rfl))) (Nat.le_of_ble_eq_true rfl))) r4 _ sub1
        · skip
          refine mw_throw i_33_24 hx_33 (by omega) (by omega) ?_
          exact q2 ⟨c1, c2, c3⟩ (by omega)
      · skip
        refine mw_throw i_33_15 hx_33 (by omega) (by omega) ?_
        exact q1 (fun h => c3 h.2.2)
set_option maxRecDepth 20000 in
set_option maxHeartbeats 400000 in
theorem k_title {d b : Nat} {K : KM} {I : IM} {R : RM} {Q : QT} {n : Nat} {σ : ST}  (hd : 7 ≤ d) (hW : CW n σ K I R) (hb : 7 ≤ b) (hn : n < 512)  (q1 : ¬ tn σ < 4 → Q (.inr 2) K I R) (q0 : tn σ < 4 → ∀ I', FrC I I' → RC (tiS σ) I' R → ∀ v, v = nI (tn σ) → Q (.inl (some (pI v))) K I' R) : Mw d b N_X5_title 0 [some (pR (some RING))] [] K I R Q := by
  have hS := hW.1.1
  have hR := hW.2.1
  have hV := hW.2.2
  have hpp := hW.2.2.1.2
  have htt := hW.2.2.2.1.2
  have hdd := hW.2.2.2.2.1.2
  refine mw_aload i_34_0 (L := RING) rfl ?_
  refine mw_get i_34_1 hS.1.1 (v := nI (tn σ)) (CW_t hW) ?_
  refine mw_const i_34_2 (v := nI 4) (by decide) ?_
  refine mw_ic i_34_3 (p := (tn σ) < 4) (nI_ltI (by omega) (by omega)) (fun c1 => ?_) (fun c1 => ?_)
  · skip
    refine mw_aload i_34_9 (L := RING) rfl ?_
    refine mw_dup i_34_10 trivial ?_
    refine mw_get i_34_11 hS.1.1 (v := nI (tn σ)) (CW_t hW) ?_
    refine mw_const i_34_12 (v := nI 1) (by decide) ?_
    refine mw_iadd i_34_13 (w := nI (tn σ + 1)) (nI_add _ _) ?_
    obtain ⟨I22, e22⟩ : ∃ I22, I22 = up2 I RING 7 (nI (tn σ + 1)) := ⟨_, rfl⟩
    refine mw_put i_34_14 (x := nI (tn σ + 1)) hS.1.1 (I' := I22) e22.symm ?_
    refine mw_aload i_34_15 (L := RING) rfl ?_
    refine mw_get i_34_16 hS.1.1 (v := nI (tn σ + 1)) (by rw [e22, up2_at, upd_at]) ?_
    refine mw_const i_34_17 (v := nI 1) (by decide) ?_
    refine mw_isub i_34_18 (w := ((nI (tn σ + 1)) - (nI 1))) rfl ?_
    refine mw_iretI i_34_19 (x := ((nI (tn σ + 1)) - (nI 1))) rt_34 ?_
    have r1 := RC_titles hR (nI (tn σ + 1))
    rw [← e22] at r1
    refine q0 (by omega) _ ((e22.symm ▸ FrC_up (FrC_rfl) (Nat.le_of_ble_eq_true rfl))) r1 _ sub1
  · skip
    refine mw_throw i_34_4 hx_34 (by omega) (by omega) ?_
    exact q1 (by omega)
set_option maxRecDepth 20000 in
set_option maxHeartbeats 400000 in
theorem k_clause {d b : Nat} {K : KM} {I : IM} {R : RM} {Q : QT} {n : Nat} {σ : ST} {w : Int32} {o : Int32} {un : Int32} (hd : 8 ≤ d) (hW : CW n σ K I R) (hb : 7 ≤ b) (hn : n < 512)  (q1 : ¬ (isN w (pn σ) ∧ isN o (pn σ)) → Q (.inr 3) K I R) (q2 : ∀ x y, x < pn σ → y < pn σ → w = nI x → o = nI y → ¬ (¬ x = y ∧ inr un (-1) (nI 999)) → Q (.inr 1) K I R) (q0 : ∀ x y, x < pn σ → y < pn σ → w = nI x → o = nI y → (¬ x = y ∧ inr un (-1) (nI 999)) → ∀ I', FrC I I' → RC (ups σ 11 (10 * x + y) (un + nI 1)) I' R → ∀ v, v = σ 11 (10 * x + y) - nI 1 → Q (.inl (some (pI v))) K I' R) : Mw d b N_X5_clause 0 [some (pR (some RING)), some (pI w), some (pI o), some (pI un), none, none] [] K I R Q := by
  obtain ⟨d9, rfl⟩ : ∃ d9, d = d9 + 1 := ⟨d - 1, by omega⟩
  have hS := hW.1.1
  have hR := hW.2.1
  have hV := hW.2.2
  have hpp := hW.2.2.1.2
  have htt := hW.2.2.2.1.2
  have hdd := hW.2.2.2.2.1.2
  refine mw_aload i_35_0 (L := RING) rfl ?_
  refine mw_iload i_35_1 (x := w) rfl ?_
  refine mw_callV i_35_2 mf_60 (as := [pI w]) (rest := []) (d' := d9) (b' := b) (ls0 := [some (pR (some RING)), some (pI w)]) rfl rfl rfl (Nat.le_of_ble_eq_true rfl) hS.1.1 rfl rfl rfl ?_
  refine k_isWrestler hS (CW_p hW) hpp ?_
  refine aft_v ?_
  refine mw_eqB i_35_3 rfl (fun c1 => ?_) (fun c1 => ?_)
  · skip
    refine mw_throw i_35_8 hx_35 (by omega) (by omega) ?_
    exact q1 (fun h => c1 h.1)
  · skip
    obtain ⟨j_w, h_w, rfl⟩ := c1
    refine mw_aload i_35_4 (L := RING) rfl ?_
    refine mw_iload i_35_5 (x := o) rfl ?_
    refine mw_callV i_35_6 mf_60 (as := [pI o]) (rest := []) (d' := d9) (b' := b) (ls0 := [some (pR (some RING)), some (pI o)]) rfl rfl rfl (Nat.le_of_ble_eq_true rfl) hS.1.1 rfl rfl rfl ?_
    refine k_isWrestler hS (CW_p hW) hpp ?_
    refine aft_v ?_
    refine mw_neB i_35_7 rfl (fun c2 => ?_) (fun c2 => ?_)
    · skip
      obtain ⟨j_o, h_o, rfl⟩ := c2
      refine mw_iload i_35_13 (x := nI j_w) rfl ?_
      refine mw_iload i_35_14 (x := nI j_o) rfl ?_
      refine mw_ic i_35_15 (p := j_w = j_o) (nI_eq (by omega) (by omega)) (fun c3 => ?_) (fun c3 => ?_)
      · skip
        refine mw_throw i_35_21 hx_35 (by omega) (by omega) ?_
        exact q2 _ _ (by assumption) (by assumption) rfl rfl (fun h => h.1 c3)
      · skip
        refine mw_iload i_35_16 (x := un) rfl ?_
        refine mw_const i_35_17 (v := (-1)) (by decide) ?_
        refine mw_const i_35_18 (v := nI 999) (by decide) ?_
        refine mw_callS i_35_19 mf_59 (as := [pI un, pI (-1), pI (nI 999)]) (rest := []) (d' := d9) (b' := b) (ls0 := [some (pI un), some (pI (-1)), some (pI (nI 999))]) rfl rfl rfl (Nat.le_of_ble_eq_true rfl) rfl rfl rfl ?_
        refine k_within ?_
        refine aft_v ?_
        refine mw_neB i_35_20 rfl (fun c4 => ?_) (fun c4 => ?_)
        · skip
          refine mw_aload i_35_26 (L := RING) rfl ?_
          refine mw_getR i_35_27 hS.1.1 (q := some ROS) hS.1.2.1 ?_
          refine mw_iload i_35_28 (x := nI j_w) rfl ?_
          refine mw_aald i_35_29 (jn := j_w) (n := 10) (by omega) (by omega) hS.2.1.1 (by decide) (q := some (WR j_w)) (hS.2.2.1 j_w (by omega)).1 ?_
          refine mw_getR i_35_30 (hS.2.2.1 j_w (by omega)).2.1 (q := some (CD j_w)) (hS.2.2.1 j_w (by omega)).2.2.2.1 ?_
          refine mw_astore i_35_31 (ls' := [some (pR (some RING)), some (pI (nI j_w)), some (pI (nI j_o)), some (pI un), some (pR (some (CD j_w))), none]) rfl (Nat.le_of_ble_eq_true rfl) ?_
          refine mw_aload i_35_32 (L := CD j_w) rfl ?_
          refine mw_iload i_35_33 (x := nI j_o) rfl ?_
          refine mw_iald i_35_34 (jn := j_o) (n := 10) (by omega) (by omega) (hS.2.2.1 j_w (by omega)).2.2.2.2.2.2.1 (by decide) (v := I (CD j_w) j_o) rfl ?_
          refine mw_istore i_35_35 (ls' := [some (pR (some RING)), some (pI (nI j_w)), some (pI (nI j_o)), some (pI un), some (pR (some (CD j_w))), some (pI (I (CD j_w) j_o))]) rfl (Nat.le_of_ble_eq_true rfl) ?_
          refine mw_aload i_35_36 (L := CD j_w) rfl ?_
          refine mw_iload i_35_37 (x := nI j_o) rfl ?_
          refine mw_iload i_35_38 (x := un) rfl ?_
          obtain ⟨I25, e25⟩ : ∃ I25, I25 = up2 I (CD j_w) j_o un := ⟨_, rfl⟩
          refine mw_iast i_35_39 (jn := j_o) (n := 10) (by omega) (by omega) (x := un) (hS.2.2.1 j_w (by omega)).2.2.2.2.2.2.1 (I' := I25) e25.symm ?_
          refine mw_iload i_35_40 (x := I (CD j_w) j_o) rfl ?_
          refine mw_iretI i_35_41 (x := I (CD j_w) j_o) rt_35 ?_
          have r1 := RC_clause hR (w := j_w) (o := j_o) (by omega) un
          rw [← e25] at r1
          refine q0 _ _ (by assumption) (by assumption) rfl rfl ⟨c3, c4⟩ _ ((e25.symm ▸ FrC_up (FrC_rfl) (Nat.le_of_ble_eq_true rfl))) r1 _ ?_
          rw [← (RC_rd hR (w := j_w) (by omega)).2.2.2.2.2.2.2.2.2.2.2.1 j_o (by omega)]
          exact (Int32.add_sub_cancel _ _).symm
        · skip
          refine mw_throw i_35_21 hx_35 (by omega) (by omega) ?_
          exact q2 _ _ (by assumption) (by assumption) rfl rfl (fun h => c4 h.2)
    · skip
      refine mw_throw i_35_8 hx_35 (by omega) (by omega) ?_
      exact q1 (fun h => c2 h.2)
set_option maxRecDepth 20000 in
set_option maxHeartbeats 400000 in
theorem k_protect {d b : Nat} {K : KM} {I : IM} {R : RM} {Q : QT} {n : Nat} {σ : ST} {w : Int32} {day : Int32} (hd : 8 ≤ d) (hW : CW n σ K I R) (hb : 7 ≤ b) (hn : n < 512)  (q1 : ¬ isN w (pn σ) → Q (.inr 3) K I R) (q2 : ∀ x, x < pn σ → w = nI x → ¬ (isN day 1000) → Q (.inr 1) K I R) (q0 : ∀ x, x < pn σ → w = nI x → (isN day 1000) → ∀ I', FrC I I' → RC (ups σ 12 x day) I' R → ∀ v, v = σ 12 x → Q (.inl (some (pI v))) K I' R) : Mw d b N_X5_protect 0 [some (pR (some RING)), some (pI w), some (pI day), none] [] K I R Q := by
  obtain ⟨d9, rfl⟩ : ∃ d9, d = d9 + 1 := ⟨d - 1, by omega⟩
  have hS := hW.1.1
  have hR := hW.2.1
  have hV := hW.2.2
  have hpp := hW.2.2.1.2
  have htt := hW.2.2.2.1.2
  have hdd := hW.2.2.2.2.1.2
  refine mw_aload i_36_0 (L := RING) rfl ?_
  refine mw_iload i_36_1 (x := w) rfl ?_
  refine mw_callV i_36_2 mf_60 (as := [pI w]) (rest := []) (d' := d9) (b' := b) (ls0 := [some (pR (some RING)), some (pI w)]) rfl rfl rfl (Nat.le_of_ble_eq_true rfl) hS.1.1 rfl rfl rfl ?_
  refine k_isWrestler hS (CW_p hW) hpp ?_
  refine aft_v ?_
  refine mw_neB i_36_3 rfl (fun c1 => ?_) (fun c1 => ?_)
  · skip
    obtain ⟨j_w, h_w, rfl⟩ := c1
    refine mw_iload i_36_9 (x := day) rfl ?_
    refine mw_const i_36_10 (v := nI 0) (by decide) ?_
    refine mw_const i_36_11 (v := nI 999) (by decide) ?_
    refine mw_callS i_36_12 mf_59 (as := [pI day, pI (nI 0), pI (nI 999)]) (rest := []) (d' := d9) (b' := b) (ls0 := [some (pI day), some (pI (nI 0)), some (pI (nI 999))]) rfl rfl rfl (Nat.le_of_ble_eq_true rfl) rfl rfl rfl ?_
    refine k_within ?_
    rw [bI_congr (inr_isN (x := day) (n := 999) (by decide))]
    refine aft_v ?_
    refine mw_neB i_36_13 rfl (fun c2 => ?_) (fun c2 => ?_)
    · skip
      obtain ⟨j_day, h_day, rfl⟩ := c2
      refine mw_aload i_36_19 (L := RING) rfl ?_
      refine mw_getR i_36_20 hS.1.1 (q := some ROS) hS.1.2.1 ?_
      refine mw_iload i_36_21 (x := nI j_w) rfl ?_
      refine mw_aald i_36_22 (jn := j_w) (n := 10) (by omega) (by omega) hS.2.1.1 (by decide) (q := some (WR j_w)) (hS.2.2.1 j_w (by omega)).1 ?_
      refine mw_get i_36_23 (hS.2.2.1 j_w (by omega)).2.1 (v := σ 12 j_w) (RC_rd hR (w := j_w) (by omega)).2.2.2.2.2.2.2.2.2.1 ?_
      refine mw_istore i_36_24 (ls' := [some (pR (some RING)), some (pI (nI j_w)), some (pI (nI j_day)), some (pI (σ 12 j_w))]) rfl (Nat.le_of_ble_eq_true rfl) ?_
      refine mw_aload i_36_25 (L := RING) rfl ?_
      refine mw_getR i_36_26 hS.1.1 (q := some ROS) hS.1.2.1 ?_
      refine mw_iload i_36_27 (x := nI j_w) rfl ?_
      refine mw_aald i_36_28 (jn := j_w) (n := 10) (by omega) (by omega) hS.2.1.1 (by decide) (q := some (WR j_w)) (hS.2.2.1 j_w (by omega)).1 ?_
      refine mw_iload i_36_29 (x := nI j_day) rfl ?_
      obtain ⟨I23, e23⟩ : ∃ I23, I23 = up2 I (WR j_w) 12 (nI j_day) := ⟨_, rfl⟩
      refine mw_put i_36_30 (x := nI j_day) (hS.2.2.1 j_w (by omega)).2.1 (I' := I23) e23.symm ?_
      refine mw_iload i_36_31 (x := σ 12 j_w) rfl ?_
      refine mw_iretI i_36_32 (x := σ 12 j_w) rt_36 ?_
      have r1 := RC_prot hR (w := j_w) (nI j_day)
      rw [← e23] at r1
      refine q0 _ (by assumption) rfl ⟨_, by assumption, rfl⟩ _ ((e23.symm ▸ FrC_up (FrC_rfl) (Nat.le_of_ble_eq_true rfl))) r1 _ rfl
    · skip
      refine mw_throw i_36_14 hx_36 (by omega) (by omega) ?_
      exact q2 _ (by assumption) rfl (fun h => c2 h)
  · skip
    refine mw_throw i_36_4 hx_36 (by omega) (by omega) ?_
    exact q1 (fun h => c1 h)
