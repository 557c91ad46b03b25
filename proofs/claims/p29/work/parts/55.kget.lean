/-! the class tells -/
set_option maxRecDepth 20000 in
set_option maxHeartbeats 400000 in
theorem k_cardOf_o {d b : Nat} {K : KM} {I : IM} {R : RM} {Q : QT} {x : Int32} (hd : 1 ≤ d) (hS : CS0 K R) (hx : ¬ isN x 1000) (q : Q (.inl (some (pR (some (CA 1000))))) K I R) : Mw d b N_X5_cardOf 0 [some (pR (some RING)), some (pI x)] [] K I R Q := by
  obtain ⟨d9, rfl⟩ : ∃ d9, d = d9 + 1 := ⟨d - 1, by omega⟩
  refine mw_iload i_63_0 (x := x) rfl ?_
  refine mw_const i_63_1 (v := nI 0) (by decide) ?_
  refine mw_const i_63_2 (v := nI 999) (by decide) ?_
  refine mw_callS i_63_3 mf_59 (as := [pI x, pI (nI 0), pI (nI 999)]) (rest := []) (d' := d9) (b' := b) (ls0 := [some (pI x), some (pI (nI 0)), some (pI (nI 999))]) rfl rfl rfl (Nat.le_of_ble_eq_true rfl) rfl rfl rfl ?_
  refine k_within ?_
  refine aft_v ?_
  refine mw_eqB i_63_4 rfl (fun c1 => ?_) (fun c1 => ?_)
  · skip
    refine mw_aload i_63_10 (L := RING) rfl ?_
    refine mw_getR i_63_11 hS.1.1 (q := some (CA 1000)) hS.1.2.2.2.2.1 ?_
    refine mw_aret i_63_12 (L := CA 1000) ?_
    exact q
  · skip
    exact absurd (inr_isN (by decide) |>.mp c1) hx
set_option maxRecDepth 20000 in
set_option maxHeartbeats 400000 in
theorem k_cardOf_n {d b : Nat} {K : KM} {I : IM} {R : RM} {Q : QT} {d0 : Nat} (hd : 1 ≤ d) (hS : CS0 K R) (hd0 : d0 < 1000) (hn : R CRD d0 = none) (q : Q (.inl (some (pR (some (CA 1000))))) K I R) : Mw d b N_X5_cardOf 0 [some (pR (some RING)), some (pI (nI d0))] [] K I R Q := by
  obtain ⟨d9, rfl⟩ : ∃ d9, d = d9 + 1 := ⟨d - 1, by omega⟩
  refine mw_iload i_63_0 (x := nI d0) rfl ?_
  refine mw_const i_63_1 (v := nI 0) (by decide) ?_
  refine mw_const i_63_2 (v := nI 999) (by decide) ?_
  refine mw_callS i_63_3 mf_59 (as := [pI (nI d0), pI (nI 0), pI (nI 999)]) (rest := []) (d' := d9) (b' := b) (ls0 := [some (pI (nI d0)), some (pI (nI 0)), some (pI (nI 999))]) rfl rfl rfl (Nat.le_of_ble_eq_true rfl) rfl rfl rfl ?_
  refine k_within ?_
  refine aft_v ?_
  refine mw_eqB i_63_4 rfl (fun c1 => ?_) (fun c1 => ?_)
  · skip
    exact absurd (N_inr (by decide) (by omega)) c1
  · skip
    refine mw_aload i_63_5 (L := RING) rfl ?_
    refine mw_getR i_63_6 hS.1.1 (q := some CRD) hS.1.2.2.2.1 ?_
    refine mw_iload i_63_7 (x := nI d0) rfl ?_
    refine mw_aald i_63_8 (jn := d0) (n := 1000) (by omega) (by omega) hS.2.1.2.2.1 (by decide) (q := none) hn ?_
    refine mw_nl i_63_9 ?_
    refine mw_aload i_63_10 (L := RING) rfl ?_
    refine mw_getR i_63_11 hS.1.1 (q := some (CA 1000)) hS.1.2.2.2.2.1 ?_
    refine mw_aret i_63_12 (L := CA 1000) ?_
    exact q
set_option maxRecDepth 20000 in
set_option maxHeartbeats 400000 in
theorem k_cardOf_y {d b : Nat} {K : KM} {I : IM} {R : RM} {Q : QT} {d0 : Nat} (hd : 1 ≤ d) (hS : CS0 K R) (hd0 : d0 < 1000) (hn : R CRD d0 = some (CA d0)) (q : Q (.inl (some (pR (some (CA d0))))) K I R) : Mw d b N_X5_cardOf 0 [some (pR (some RING)), some (pI (nI d0))] [] K I R Q := by
  obtain ⟨d9, rfl⟩ : ∃ d9, d = d9 + 1 := ⟨d - 1, by omega⟩
  refine mw_iload i_63_0 (x := nI d0) rfl ?_
  refine mw_const i_63_1 (v := nI 0) (by decide) ?_
  refine mw_const i_63_2 (v := nI 999) (by decide) ?_
  refine mw_callS i_63_3 mf_59 (as := [pI (nI d0), pI (nI 0), pI (nI 999)]) (rest := []) (d' := d9) (b' := b) (ls0 := [some (pI (nI d0)), some (pI (nI 0)), some (pI (nI 999))]) rfl rfl rfl (Nat.le_of_ble_eq_true rfl) rfl rfl rfl ?_
  refine k_within ?_
  refine aft_v ?_
  refine mw_eqB i_63_4 rfl (fun c1 => ?_) (fun c1 => ?_)
  · skip
    exact absurd (N_inr (by decide) (by omega)) c1
  · skip
    refine mw_aload i_63_5 (L := RING) rfl ?_
    refine mw_getR i_63_6 hS.1.1 (q := some CRD) hS.1.2.2.2.1 ?_
    refine mw_iload i_63_7 (x := nI d0) rfl ?_
    refine mw_aald i_63_8 (jn := d0) (n := 1000) (by omega) (by omega) hS.2.1.2.2.1 (by decide) (q := some (CA d0)) hn ?_
    refine mw_nn i_63_9 ?_
    refine mw_aload i_63_13 (L := RING) rfl ?_
    refine mw_getR i_63_14 hS.1.1 (q := some CRD) hS.1.2.2.2.1 ?_
    refine mw_iload i_63_15 (x := nI d0) rfl ?_
    refine mw_aald i_63_16 (jn := d0) (n := 1000) (by omega) (by omega) hS.2.1.2.2.1 (by decide) (q := some (CA d0)) hn ?_
    refine mw_aret i_63_17 (L := CA d0) ?_
    exact q
theorem k_cardOf {d b : Nat} {K : KM} {I : IM} {R : RM} {Q : QT} {d0 : Nat} (hd : 1 ≤ d) (hS : CSX K R) (hd0 : d0 < 1000) (q : Q (.inl (some (pR (some (CA (cix R d0)))))) K I R) : Mw d b N_X5_cardOf 0 [some (pR (some RING)), some (pI (nI d0))] [] K I R Q := by
  rcases hS.2.2 d0 hd0 with ⟨h, -⟩ | ⟨h, -⟩
  · rw [show cix R d0 = 1000 from if_pos h] at q
    exact k_cardOf_n hd hS.1 hd0 h q
  · rw [show cix R d0 = d0 from if_neg (by rw [h]; exact fun z => by cases z)] at q
    exact k_cardOf_y hd hS.1 hd0 h q
set_option maxRecDepth 20000 in
set_option maxHeartbeats 400000 in
theorem k_day {d b : Nat} {K : KM} {I : IM} {R : RM} {Q : QT} {n : Nat} {σ : ST}  (hW : CW n σ K I R) (hb : 7 ≤ b) (hn : n ≤ 512) (q : Q (.inl (some (pI (nI (dn σ))))) K I R) : Mw d b N_X5_day 0 [some (pR (some RING))] [] K I R Q := by
  have hS := hW.1.1
  have hR := hW.2.1
  have hV := hW.2.2
  have hpp := hW.2.2.1.2
  have htt := hW.2.2.2.1.2
  have hdd := hW.2.2.2.2.1.2
  refine mw_aload i_46_0 (L := RING) rfl ?_
  refine mw_get i_46_1 hS.1.1 (v := nI (dn σ)) (CW_d hW) ?_
  refine mw_iretI i_46_2 (x := nI (dn σ)) rt_46 ?_
  exact q
set_option maxRecDepth 20000 in
set_option maxHeartbeats 400000 in
theorem k_love {d b : Nat} {K : KM} {I : IM} {R : RM} {Q : QT} {n : Nat} {σ : ST} {town : Int32} {w : Int32} (hd : 8 ≤ d) (hW : CW n σ K I R) (hb : 7 ≤ b) (hn : n ≤ 512) (q1 : ¬ (isN town 4 ∧ isN w (pn σ)) → Q (.inr 3) K I R) (q0 : ∀ t x, t < 4 → x < pn σ → town = nI t → w = nI x → Q (.inl (some (pI (σ 4 (10 * t + x))))) K I R) : Mw d b N_X5_love 0 [some (pR (some RING)), some (pI town), some (pI w)] [] K I R Q := by
  obtain ⟨d9, rfl⟩ : ∃ d9, d = d9 + 1 := ⟨d - 1, by omega⟩
  have hS := hW.1.1
  have hR := hW.2.1
  have hV := hW.2.2
  have hpp := hW.2.2.1.2
  have htt := hW.2.2.2.1.2
  have hdd := hW.2.2.2.2.1.2
  refine mw_iload i_48_0 (x := town) rfl ?_
  refine mw_callS i_48_1 mf_62 (as := [pI town]) (rest := []) (d' := d9) (b' := b) (ls0 := [some (pI town)]) rfl rfl rfl (Nat.le_of_ble_eq_true rfl) rfl rfl rfl ?_
  refine k_isTown ?_
  refine aft_v ?_
  refine mw_eqB i_48_2 rfl (fun c1 => ?_) (fun c1 => ?_)
  · skip
    refine mw_throw i_48_7 hx_48 (by omega) (by omega) ?_
    exact q1 (fun h => c1 h.1)
  · skip
    obtain ⟨j_town, h_town, rfl⟩ := c1
    refine mw_aload i_48_3 (L := RING) rfl ?_
    refine mw_iload i_48_4 (x := w) rfl ?_
    refine mw_callV i_48_5 mf_60 (as := [pI w]) (rest := []) (d' := d9) (b' := b) (ls0 := [some (pR (some RING)), some (pI w)]) rfl rfl rfl (Nat.le_of_ble_eq_true rfl) hS.1.1 rfl rfl rfl ?_
    refine k_isWrestler hS (CW_p hW) hpp ?_
    refine aft_v ?_
    refine mw_neB i_48_6 rfl (fun c2 => ?_) (fun c2 => ?_)
    · skip
      obtain ⟨j_w, h_w, rfl⟩ := c2
      refine mw_aload i_48_12 (L := RING) rfl ?_
      refine mw_getR i_48_13 hS.1.1 (q := some ROS) hS.1.2.1 ?_
      refine mw_iload i_48_14 (x := nI j_w) rfl ?_
      refine mw_aald i_48_15 (jn := j_w) (n := 10) (by omega) (by omega) hS.2.1.1 (by decide) (q := some (WR j_w)) (hS.2.2.1 j_w (by omega)).1 ?_
      refine mw_getR i_48_16 (hS.2.2.1 j_w (by omega)).2.1 (q := some (LV j_w)) (hS.2.2.1 j_w (by omega)).2.2.1 ?_
      refine mw_iload i_48_17 (x := nI j_town) rfl ?_
      refine mw_iald i_48_18 (jn := j_town) (n := 4) (by omega) (by omega) (hS.2.2.1 j_w (by omega)).2.2.2.2.2.1 (by decide) (v := σ 4 (10 * j_town + j_w)) ((RC_rd hR (w := j_w) (by omega)).2.2.2.2.2.2.2.2.2.2.1 j_town (by omega)) ?_
      refine mw_iretI i_48_19 (x := σ 4 (10 * j_town + j_w)) rt_48 ?_
      exact q0 _ _ (by assumption) (by assumption) rfl rfl
    · skip
      refine mw_throw i_48_7 hx_48 (by omega) (by omega) ?_
      exact q1 (fun h => c2 h.2)
set_option maxRecDepth 20000 in
set_option maxHeartbeats 400000 in
theorem k_worth {d b : Nat} {K : KM} {I : IM} {R : RM} {Q : QT} {n : Nat} {σ : ST} {town : Int32} {w : Int32} (hd : 8 ≤ d) (hW : CW n σ K I R) (hb : 7 ≤ b) (hn : n ≤ 512) (q1 : ¬ (isN town 4 ∧ isN w (pn σ)) → Q (.inr 3) K I R) (q0 : ∀ t x, t < 4 → x < pn σ → town = nI t → w = nI x → Q (.inl (some (pI (wrt σ t x)))) K I R) : Mw d b N_X5_worth 0 [some (pR (some RING)), some (pI town), some (pI w)] [] K I R Q := by
  obtain ⟨d9, rfl⟩ : ∃ d9, d = d9 + 1 := ⟨d - 1, by omega⟩
  have hS := hW.1.1
  have hR := hW.2.1
  have hV := hW.2.2
  have hpp := hW.2.2.1.2
  have htt := hW.2.2.2.1.2
  have hdd := hW.2.2.2.2.1.2
  refine mw_iload i_49_0 (x := town) rfl ?_
  refine mw_callS i_49_1 mf_62 (as := [pI town]) (rest := []) (d' := d9) (b' := b) (ls0 := [some (pI town)]) rfl rfl rfl (Nat.le_of_ble_eq_true rfl) rfl rfl rfl ?_
  refine k_isTown ?_
  refine aft_v ?_
  refine mw_eqB i_49_2 rfl (fun c1 => ?_) (fun c1 => ?_)
  · skip
    refine mw_throw i_49_7 hx_49 (by omega) (by omega) ?_
    exact q1 (fun h => c1 h.1)
  · skip
    obtain ⟨j_town, h_town, rfl⟩ := c1
    refine mw_aload i_49_3 (L := RING) rfl ?_
    refine mw_iload i_49_4 (x := w) rfl ?_
    refine mw_callV i_49_5 mf_60 (as := [pI w]) (rest := []) (d' := d9) (b' := b) (ls0 := [some (pR (some RING)), some (pI w)]) rfl rfl rfl (Nat.le_of_ble_eq_true rfl) hS.1.1 rfl rfl rfl ?_
    refine k_isWrestler hS (CW_p hW) hpp ?_
    refine aft_v ?_
    refine mw_neB i_49_6 rfl (fun c2 => ?_) (fun c2 => ?_)
    · skip
      obtain ⟨j_w, h_w, rfl⟩ := c2
      refine mw_aload i_49_12 (L := RING) rfl ?_
      refine mw_getR i_49_13 hS.1.1 (q := some ROS) hS.1.2.1 ?_
      refine mw_iload i_49_14 (x := nI j_w) rfl ?_
      refine mw_aald i_49_15 (jn := j_w) (n := 10) (by omega) (by omega) hS.2.1.1 (by decide) (q := some (WR j_w)) (hS.2.2.1 j_w (by omega)).1 ?_
      refine mw_iload i_49_16 (x := nI j_town) rfl ?_
      refine mw_callV i_49_17 mf_29 (as := [pI (nI j_town)]) (rest := []) (d' := d9) (b' := b) (ls0 := [some (pR (some (WR j_w))), some (pI (nI j_town))]) rfl rfl rfl (Nat.le_of_ble_eq_true rfl) (hS.2.2.1 j_w (by omega)).2.1 rfl rfl rfl ?_
      refine k_worthIn (by omega) hS (by omega) (by omega) ?_
      rw [(RC_rd hR (w := j_w) (by omega)).1, (RC_rd hR (w := j_w) (by omega)).2.2.2.1, (RC_rd hR (w := j_w) (by omega)).2.2.2.2.2.2.2.2.2.2.1 j_town (by omega)]
      show aft Mw _ _ _ _ _ _ _ (.inl (some (pI (wrt σ j_town j_w)))) K I R
      refine aft_v ?_
      refine mw_iretI i_49_18 (x := wrt σ j_town j_w) rt_49 ?_
      exact q0 _ _ (by assumption) (by assumption) rfl rfl
    · skip
      refine mw_throw i_49_7 hx_49 (by omega) (by omega) ?_
      exact q1 (fun h => c2 h.2)
set_option maxRecDepth 20000 in
set_option maxHeartbeats 400000 in
theorem k_champion {d b : Nat} {K : KM} {I : IM} {R : RM} {Q : QT} {n : Nat} {σ : ST} {t : Int32} (hd : 8 ≤ d) (hW : CW n σ K I R) (hb : 7 ≤ b) (hn : n ≤ 512) (q1 : ¬ (isN t (tn σ)) → Q (.inr 3) K I R) (q0 : ∀ x, x < tn σ → t = nI x → Q (.inl (some (pI (chO σ x)))) K I R) : Mw d b N_X5_champion 0 [some (pR (some RING)), some (pI t)] [] K I R Q := by
  obtain ⟨d9, rfl⟩ : ∃ d9, d = d9 + 1 := ⟨d - 1, by omega⟩
  have hS := hW.1.1
  have hR := hW.2.1
  have hV := hW.2.2
  have hpp := hW.2.2.1.2
  have htt := hW.2.2.2.1.2
  have hdd := hW.2.2.2.2.1.2
  refine mw_aload i_53_0 (L := RING) rfl ?_
  refine mw_iload i_53_1 (x := t) rfl ?_
  refine mw_callV i_53_2 mf_61 (as := [pI t]) (rest := []) (d' := d9) (b' := b) (ls0 := [some (pR (some RING)), some (pI t)]) rfl rfl rfl (Nat.le_of_ble_eq_true rfl) hS.1.1 rfl rfl rfl ?_
  refine k_isTitle hS (CW_t hW) (by omega) ?_
  refine aft_v ?_
  refine mw_neB i_53_3 rfl (fun c1 => ?_) (fun c1 => ?_)
  · skip
    obtain ⟨j_t, h_t, rfl⟩ := c1
    refine mw_aload i_53_9 (L := RING) rfl ?_
    refine mw_getR i_53_10 hS.1.1 (q := some TIT) hS.1.2.2.1 ?_
    refine mw_iload i_53_11 (x := nI j_t) rfl ?_
    refine mw_aald i_53_12 (jn := j_t) (n := 4) (by omega) (by omega) hS.2.1.2.1 (by decide) (q := some (TT j_t)) (hS.2.2.2.1 j_t (by omega)).1 ?_
    refine mw_get i_53_13 (hS.2.2.2.1 j_t (by omega)).2.1 (v := chO σ j_t) (hR.2.2.2.1 j_t (by omega)).2.1 ?_
    refine mw_iretI i_53_14 (x := chO σ j_t) rt_53 ?_
    exact q0 _ (by assumption) rfl
  · skip
    refine mw_throw i_53_4 hx_53 (by omega) (by omega) ?_
    exact q1 (fun h => c1 h)
set_option maxRecDepth 20000 in
set_option maxHeartbeats 400000 in
theorem k_gate {d b : Nat} {K : KM} {I : IM} {R : RM} {Q : QT} {n : Nat} {σ : ST} {t : Int32} (hd : 8 ≤ d) (hW : CW n σ K I R) (hb : 7 ≤ b) (hn : n ≤ 512) (q1 : ¬ (isN t 4) → Q (.inr 3) K I R) (q0 : ∀ x, x < 4 → t = nI x → Q (.inl (some (pI (σ 23 x)))) K I R) : Mw d b N_X5_gate 0 [some (pR (some RING)), some (pI t)] [] K I R Q := by
  obtain ⟨d9, rfl⟩ : ∃ d9, d = d9 + 1 := ⟨d - 1, by omega⟩
  have hS := hW.1.1
  have hR := hW.2.1
  have hV := hW.2.2
  have hpp := hW.2.2.1.2
  have htt := hW.2.2.2.1.2
  have hdd := hW.2.2.2.2.1.2
  refine mw_iload i_56_0 (x := t) rfl ?_
  refine mw_callS i_56_1 mf_62 (as := [pI t]) (rest := []) (d' := d9) (b' := b) (ls0 := [some (pI t)]) rfl rfl rfl (Nat.le_of_ble_eq_true rfl) rfl rfl rfl ?_
  refine k_isTown ?_
  refine aft_v ?_
  refine mw_neB i_56_2 rfl (fun c1 => ?_) (fun c1 => ?_)
  · skip
    obtain ⟨j_t, h_t, rfl⟩ := c1
    refine mw_aload i_56_8 (L := RING) rfl ?_
    refine mw_getR i_56_9 hS.1.1 (q := some GAT) hS.1.2.2.2.2.2.1 ?_
    refine mw_iload i_56_10 (x := nI j_t) rfl ?_
    refine mw_iald i_56_11 (jn := j_t) (n := 4) (by omega) (by omega) hS.2.1.2.2.2.1 (by decide) (v := σ 23 j_t) (hR.2.1 j_t (by omega)) ?_
    refine mw_iretI i_56_12 (x := σ 23 j_t) rt_56 ?_
    exact q0 _ (by assumption) rfl
  · skip
    refine mw_throw i_56_3 hx_56 (by omega) (by omega) ?_
    exact q1 (fun h => c1 h)
set_option maxRecDepth 20000 in
set_option maxHeartbeats 400000 in
theorem k_beat {d b : Nat} {K : KM} {I : IM} {R : RM} {Q : QT} {n : Nat} {σ : ST} {w : Int32} {o : Int32} (hd : 8 ≤ d) (hW : CW n σ K I R) (hb : 7 ≤ b) (hn : n ≤ 512) (q1 : ¬ (isN w (pn σ) ∧ isN o (pn σ)) → Q (.inr 3) K I R) (q0 : ∀ x y, x < pn σ → y < pn σ → w = nI x → o = nI y → Q (.inl (some (pI (σ 13 (10 * x + y))))) K I R) : Mw d b N_X5_beat 0 [some (pR (some RING)), some (pI w), some (pI o)] [] K I R Q := by
  obtain ⟨d9, rfl⟩ : ∃ d9, d = d9 + 1 := ⟨d - 1, by omega⟩
  have hS := hW.1.1
  have hR := hW.2.1
  have hV := hW.2.2
  have hpp := hW.2.2.1.2
  have htt := hW.2.2.2.1.2
  have hdd := hW.2.2.2.2.1.2
  refine mw_aload i_54_0 (L := RING) rfl ?_
  refine mw_iload i_54_1 (x := w) rfl ?_
  refine mw_callV i_54_2 mf_60 (as := [pI w]) (rest := []) (d' := d9) (b' := b) (ls0 := [some (pR (some RING)), some (pI w)]) rfl rfl rfl (Nat.le_of_ble_eq_true rfl) hS.1.1 rfl rfl rfl ?_
  refine k_isWrestler hS (CW_p hW) hpp ?_
  refine aft_v ?_
  refine mw_eqB i_54_3 rfl (fun c1 => ?_) (fun c1 => ?_)
  · skip
    refine mw_throw i_54_8 hx_54 (by omega) (by omega) ?_
    exact q1 (fun h => c1 h.1)
  · skip
    obtain ⟨j_w, h_w, rfl⟩ := c1
    refine mw_aload i_54_4 (L := RING) rfl ?_
    refine mw_iload i_54_5 (x := o) rfl ?_
    refine mw_callV i_54_6 mf_60 (as := [pI o]) (rest := []) (d' := d9) (b' := b) (ls0 := [some (pR (some RING)), some (pI o)]) rfl rfl rfl (Nat.le_of_ble_eq_true rfl) hS.1.1 rfl rfl rfl ?_
    refine k_isWrestler hS (CW_p hW) hpp ?_
    refine aft_v ?_
    refine mw_neB i_54_7 rfl (fun c2 => ?_) (fun c2 => ?_)
    · skip
      obtain ⟨j_o, h_o, rfl⟩ := c2
      refine mw_aload i_54_13 (L := RING) rfl ?_
      refine mw_getR i_54_14 hS.1.1 (q := some ROS) hS.1.2.1 ?_
      refine mw_iload i_54_15 (x := nI j_w) rfl ?_
      refine mw_aald i_54_16 (jn := j_w) (n := 10) (by omega) (by omega) hS.2.1.1 (by decide) (q := some (WR j_w)) (hS.2.2.1 j_w (by omega)).1 ?_
      refine mw_getR i_54_17 (hS.2.2.1 j_w (by omega)).2.1 (q := some (WA j_w)) (hS.2.2.1 j_w (by omega)).2.2.2.2.1 ?_
      refine mw_iload i_54_18 (x := nI j_o) rfl ?_
      refine mw_iald i_54_19 (jn := j_o) (n := 10) (by omega) (by omega) (hS.2.2.1 j_w (by omega)).2.2.2.2.2.2.2 (by decide) (v := σ 13 (10 * j_w + j_o)) ((RC_rd hR (w := j_w) (by omega)).2.2.2.2.2.2.2.2.2.2.2.2.1 j_o (by omega)) ?_
      refine mw_iretI i_54_20 (x := σ 13 (10 * j_w + j_o)) rt_54 ?_
      exact q0 _ _ (by assumption) (by assumption) rfl rfl
    · skip
      refine mw_throw i_54_8 hx_54 (by omega) (by omega) ?_
      exact q1 (fun h => c2 h.2)
/-- what is told of a wrestler -/
noncomputable def owv (σ : ST) (x k : Nat) : Int32 := match k with
  | 0 => σ 3 x
  | 1 => σ 5 x
  | 2 => @ite _ (nI (dn σ) < σ 6 x) (Classical.propDecidable _) (σ 6 x) (nI 0)
  | 3 => σ 7 x
  | 4 => smI (fun k => σ 13 (10 * x + k)) 10
  | 5 => σ 8 x
  | _ => σ 9 x
set_option maxRecDepth 20000 in
set_option maxHeartbeats 400000 in
theorem k_ofW {d b : Nat} {K : KM} {I : IM} {R : RM} {Q : QT} {n : Nat} {σ : ST} {w : Int32} {what : Int32} (hd : 8 ≤ d) (hW : CW n σ K I R) (hb : 7 ≤ b) (hn : n ≤ 512) (q1 : ¬ (isN w (pn σ)) → Q (.inr 3) K I R) (q2 : isN w (pn σ) → ¬ isN what 7 → Q (.inr 1) K I R) (q0 : ∀ x k, x < pn σ → k < 7 → w = nI x → what = nI k → ∀ v, v = owv σ x k → Q (.inl (some (pI v))) K I R) : Mw d b N_X5_ofWrestler 0 [some (pR (some RING)), some (pI w), some (pI what), none] [] K I R Q := by
  obtain ⟨d9, rfl⟩ : ∃ d9, d = d9 + 1 := ⟨d - 1, by omega⟩
  have hS := hW.1.1
  have hR := hW.2.1
  have hV := hW.2.2
  have hpp := hW.2.2.1.2
  have htt := hW.2.2.2.1.2
  have hdd := hW.2.2.2.2.1.2
  refine mw_aload i_47_0 (L := RING) rfl ?_
  refine mw_iload i_47_1 (x := w) rfl ?_
  refine mw_callV i_47_2 mf_60 (as := [pI w]) (rest := []) (d' := d9) (b' := b) (ls0 := [some (pR (some RING)), some (pI w)]) rfl rfl rfl (Nat.le_of_ble_eq_true rfl) hS.1.1 rfl rfl rfl ?_
  refine k_isWrestler hS (CW_p hW) hpp ?_
  refine aft_v ?_
  refine mw_neB i_47_3 rfl (fun c1 => ?_) (fun c1 => ?_)
  · skip
    obtain ⟨j_w, h_w, rfl⟩ := c1
    refine mw_aload i_47_9 (L := RING) rfl ?_
    refine mw_getR i_47_10 hS.1.1 (q := some ROS) hS.1.2.1 ?_
    refine mw_iload i_47_11 (x := nI j_w) rfl ?_
    refine mw_aald i_47_12 (jn := j_w) (n := 10) (by omega) (by omega) hS.2.1.1 (by decide) (q := some (WR j_w)) (hS.2.2.1 j_w (by omega)).1 ?_
    refine mw_astore i_47_13 (ls' := [some (pR (some RING)), some (pI (nI j_w)), some (pI what), some (pR (some (WR j_w)))]) rfl (Nat.le_of_ble_eq_true rfl) ?_
    refine mw_iload i_47_14 (x := what) rfl ?_
    refine mw_sw_0 i_47_15 (fun c2 => ?_) (fun c3 => ?_) (fun c4 => ?_) (fun c5 => ?_) (fun c6 => ?_) (fun c7 => ?_) (fun c8 => ?_) (fun c9 => ?_)
    · skip
      subst c2
      refine mw_aload i_47_16 (L := WR j_w) rfl ?_
      refine mw_get i_47_17 (hS.2.2.1 j_w (by omega)).2.1 (v := σ 3 j_w) (RC_rd hR (w := j_w) (by omega)).2.2.1 ?_
      refine mw_iretI i_47_18 (x := σ 3 j_w) rt_47 ?_
      exact q0 _ 0 (by assumption) (by decide) rfl rfl _ (by simp only [owv])
    · skip
      subst c3
      refine mw_aload i_47_19 (L := WR j_w) rfl ?_
      refine mw_get i_47_20 (hS.2.2.1 j_w (by omega)).2.1 (v := σ 5 j_w) (RC_rd hR (w := j_w) (by omega)).2.2.2.1 ?_
      refine mw_iretI i_47_21 (x := σ 5 j_w) rt_47 ?_
      exact q0 _ 1 (by assumption) (by decide) rfl rfl _ (by simp only [owv])
    · skip
      subst c4
      refine mw_aload i_47_22 (L := WR j_w) rfl ?_
      refine mw_aload i_47_23 (L := RING) rfl ?_
      refine mw_get i_47_24 hS.1.1 (v := nI (dn σ)) (CW_d hW) ?_
      refine mw_callV i_47_25 mf_27 (as := [pI (nI (dn σ))]) (rest := []) (d' := d9) (b' := b) (ls0 := [some (pR (some (WR j_w))), some (pI (nI (dn σ)))]) rfl rfl rfl (Nat.le_of_ble_eq_true rfl) (hS.2.2.1 j_w (by omega)).2.1 rfl rfl rfl ?_
      refine k_isHurtOn hS (by omega) ?_
      rw [(RC_rd hR (w := j_w) (by omega)).2.2.2.2.1]
      refine aft_v ?_
      refine mw_eqB i_47_26 rfl (fun c10 => ?_) (fun c10 => ?_)
      · skip
        refine mw_const i_47_30 (v := nI 0) (by decide) ?_
        refine mw_iretI i_47_31 (x := nI 0) rt_47 ?_
        exact q0 _ 2 (by assumption) (by decide) rfl rfl _ (by simp only [owv]; first | rw [if_pos (by assumption)] | rw [if_neg (by assumption)])
      · skip
        refine mw_aload i_47_27 (L := WR j_w) rfl ?_
        refine mw_get i_47_28 (hS.2.2.1 j_w (by omega)).2.1 (v := σ 6 j_w) (RC_rd hR (w := j_w) (by omega)).2.2.2.2.1 ?_
        refine mw_goto i_47_29 ?_
        refine mw_iretI i_47_31 (x := σ 6 j_w) rt_47 ?_
        exact q0 _ 2 (by assumption) (by decide) rfl rfl _ (by simp only [owv]; first | rw [if_pos (by assumption)] | rw [if_neg (by assumption)])
    · skip
      subst c5
      refine mw_aload i_47_32 (L := WR j_w) rfl ?_
      refine mw_get i_47_33 (hS.2.2.1 j_w (by omega)).2.1 (v := σ 7 j_w) (RC_rd hR (w := j_w) (by omega)).2.2.2.2.2.1 ?_
      refine mw_iretI i_47_34 (x := σ 7 j_w) rt_47 ?_
      exact q0 _ 3 (by assumption) (by decide) rfl rfl _ (by simp only [owv])
    · skip
      subst c6
      refine mw_aload i_47_35 (L := WR j_w) rfl ?_
      refine mw_get i_47_36 (hS.2.2.1 j_w (by omega)).2.1 (v := smI (fun k => σ 13 (10 * j_w + k)) 10) (RC_rd hR (w := j_w) (by omega)).2.2.2.2.2.2.1 ?_
      refine mw_iretI i_47_37 (x := smI (fun k => σ 13 (10 * j_w + k)) 10) rt_47 ?_
      exact q0 _ 4 (by assumption) (by decide) rfl rfl _ (by simp only [owv])
    · skip
      subst c7
      refine mw_aload i_47_38 (L := WR j_w) rfl ?_
      refine mw_get i_47_39 (hS.2.2.1 j_w (by omega)).2.1 (v := σ 8 j_w) (RC_rd hR (w := j_w) (by omega)).2.2.2.2.2.2.2.1 ?_
      refine mw_iretI i_47_40 (x := σ 8 j_w) rt_47 ?_
      exact q0 _ 5 (by assumption) (by decide) rfl rfl _ (by simp only [owv])
    · skip
      subst c8
      refine mw_aload i_47_41 (L := WR j_w) rfl ?_
      refine mw_get i_47_42 (hS.2.2.1 j_w (by omega)).2.1 (v := σ 9 j_w) (RC_rd hR (w := j_w) (by omega)).2.2.2.2.2.2.2.2.1 ?_
      refine mw_iretI i_47_43 (x := σ 9 j_w) rt_47 ?_
      exact q0 _ 6 (by assumption) (by decide) rfl rfl _ (by simp only [owv])
    · skip
      refine mw_throw i_47_44 hx_47 (by omega) (by omega) ?_
      exact q2 ⟨_, by assumption, rfl⟩ (fun h => by obtain ⟨k, hk, e⟩ := h; exact c9 k hk e)
  · skip
    refine mw_throw i_47_4 hx_47 (by omega) (by omega) ?_
    exact q1 (fun h => c1 h)
theorem nI_inj {a b : Nat} (h : nI a = nI b) (ha : a < 2147483648) (hb : b < 2147483648) : a = b := (nI_eq ha hb).mp h
set_option maxRecDepth 20000 in
set_option maxHeartbeats 400000 in
theorem k_lineage {d b : Nat} {K : KM} {I : IM} {R : RM} {Q : QT} {n : Nat} {σ : ST} {t : Int32} {at_ : Int32} {pd : Prop} (hd : 8 ≤ d) (hW : CW n σ K I R) (hb : 7 ≤ b) (hn : n ≤ 512) (q1 : ¬ (∃ t2, t2 < tn σ ∧ t = nI t2 ∧ isN at_ (lnO σ t2)) → Q (.inr 3) K I R) (q0 : ∀ x k, x < tn σ → k < lnO σ x → t = nI x → at_ = nI k → ∀ v, v = @ite _ pd (Classical.propDecidable _) (σ 16 (2000 * x + k)) (σ 15 (2000 * x + k)) → Q (.inl (some (pI v))) K I R) : Mw d b N_X5_lineage 0 [some (pR (some RING)), some (pI t), some (pI at_), some (pI (bI pd))] [] K I R Q := by
  obtain ⟨d9, rfl⟩ : ∃ d9, d = d9 + 1 := ⟨d - 1, by omega⟩
  have hS := hW.1.1
  have hR := hW.2.1
  have hV := hW.2.2
  have hpp := hW.2.2.1.2
  have htt := hW.2.2.2.1.2
  have hdd := hW.2.2.2.2.1.2
  have hln : ∀ q, q < 4 → lnO σ q ≤ n := fun q hq => (hV.2.2.2.2.1 q hq).2
  refine mw_aload i_52_0 (L := RING) rfl ?_
  refine mw_iload i_52_1 (x := t) rfl ?_
  refine mw_callV i_52_2 mf_61 (as := [pI t]) (rest := []) (d' := d9) (b' := b) (ls0 := [some (pR (some RING)), some (pI t)]) rfl rfl rfl (Nat.le_of_ble_eq_true rfl) hS.1.1 rfl rfl rfl ?_
  refine k_isTitle hS (CW_t hW) (by omega) ?_
  refine aft_v ?_
  refine mw_eqB i_52_3 rfl (fun c1 => ?_) (fun c1 => ?_)
  · skip
    refine mw_throw i_52_15 hx_52 (by omega) (by omega) ?_
    exact q1 (fun h => by obtain ⟨t2, ht2, e2, h2⟩ := h; first | exact c1 ⟨t2, ht2, e2⟩ | (rw [nI_inj e2 (by omega) (by omega)] at c1; exact c1 h2))
  · skip
    obtain ⟨j_t, h_t, rfl⟩ := c1
    have hl9 := hln j_t (by omega)
    refine mw_iload i_52_4 (x := at_) rfl ?_
    refine mw_const i_52_5 (v := nI 0) (by decide) ?_
    refine mw_aload i_52_6 (L := RING) rfl ?_
    refine mw_getR i_52_7 hS.1.1 (q := some TIT) hS.1.2.2.1 ?_
    refine mw_iload i_52_8 (x := nI j_t) rfl ?_
    refine mw_aald i_52_9 (jn := j_t) (n := 4) (by omega) (by omega) hS.2.1.2.1 (by decide) (q := some (TT j_t)) (hS.2.2.2.1 j_t (by omega)).1 ?_
    refine mw_get i_52_10 (hS.2.2.2.1 j_t (by omega)).2.1 (v := nI (lnO σ j_t)) ((hR.2.2.2.1 j_t (by omega)).1.trans (hV.2.2.2.2.1 j_t (by omega)).1) ?_
    refine mw_const i_52_11 (v := nI 1) (by decide) ?_
    refine mw_isub i_52_12 (w := ((nI (lnO σ j_t)) - (nI 1))) rfl ?_
    refine mw_callS i_52_13 mf_59 (as := [pI at_, pI (nI 0), pI ((nI (lnO σ j_t)) - (nI 1))]) (rest := []) (d' := d9) (b' := b) (ls0 := [some (pI at_), some (pI (nI 0)), some (pI ((nI (lnO σ j_t)) - (nI 1)))]) rfl rfl rfl (Nat.le_of_ble_eq_true rfl) rfl rfl rfl ?_
    refine k_within ?_
    rw [bI_congr (inr_isN1 (x := at_) (n := (lnO σ j_t)) (by omega))]
    refine aft_v ?_
    refine mw_neB i_52_14 rfl (fun c2 => ?_) (fun c2 => ?_)
    · skip
      obtain ⟨j_at_, h_at_, rfl⟩ := c2
      refine mw_iload i_52_20 (x := bI pd) rfl ?_
      refine mw_eqB i_52_21 rfl (fun c3 => ?_) (fun c3 => ?_)
      · skip
        refine mw_aload i_52_30 (L := RING) rfl ?_
        refine mw_getR i_52_31 hS.1.1 (q := some TIT) hS.1.2.2.1 ?_
        refine mw_iload i_52_32 (x := nI j_t) rfl ?_
        refine mw_aald i_52_33 (jn := j_t) (n := 4) (by omega) (by omega) hS.2.1.2.1 (by decide) (q := some (TT j_t)) (hS.2.2.2.1 j_t (by omega)).1 ?_
        refine mw_getR i_52_34 (hS.2.2.2.1 j_t (by omega)).2.1 (q := some (TH j_t)) (hS.2.2.2.1 j_t (by omega)).2.2.1 ?_
        refine mw_iload i_52_35 (x := nI j_at_) rfl ?_
        refine mw_iald i_52_36 (jn := j_at_) (n := 512) (by omega) (by omega) (hS.2.2.2.1 j_t (by omega)).2.2.2.2.1 (by decide) (v := σ 15 (2000 * j_t + j_at_)) ((hR.2.2.2.1 j_t (by omega)).2.2 j_at_ (show j_at_ < lnO σ j_t by omega)).1 ?_
        refine mw_iretI i_52_37 (x := σ 15 (2000 * j_t + j_at_)) rt_52 ?_
        exact q0 _ _ (by assumption) (by assumption) rfl rfl _ (by first | rw [if_pos (by assumption)] | rw [if_neg (by assumption)])
      · skip
        refine mw_aload i_52_22 (L := RING) rfl ?_
        refine mw_getR i_52_23 hS.1.1 (q := some TIT) hS.1.2.2.1 ?_
        refine mw_iload i_52_24 (x := nI j_t) rfl ?_
        refine mw_aald i_52_25 (jn := j_t) (n := 4) (by omega) (by omega) hS.2.1.2.1 (by decide) (q := some (TT j_t)) (hS.2.2.2.1 j_t (by omega)).1 ?_
        refine mw_getR i_52_26 (hS.2.2.2.1 j_t (by omega)).2.1 (q := some (TD j_t)) (hS.2.2.2.1 j_t (by omega)).2.2.2.1 ?_
        refine mw_iload i_52_27 (x := nI j_at_) rfl ?_
        refine mw_iald i_52_28 (jn := j_at_) (n := 512) (by omega) (by omega) (hS.2.2.2.1 j_t (by omega)).2.2.2.2.2 (by decide) (v := σ 16 (2000 * j_t + j_at_)) ((hR.2.2.2.1 j_t (by omega)).2.2 j_at_ (show j_at_ < lnO σ j_t by omega)).2 ?_
        refine mw_goto i_52_29 ?_
        refine mw_iretI i_52_37 (x := σ 16 (2000 * j_t + j_at_)) rt_52 ?_
        exact q0 _ _ (by assumption) (by assumption) rfl rfl _ (by first | rw [if_pos (by assumption)] | rw [if_neg (by assumption)])
    · skip
      refine mw_throw i_52_15 hx_52 (by omega) (by omega) ?_
      exact q1 (fun h => by obtain ⟨t2, ht2, e2, h2⟩ := h; first | exact c2 ⟨t2, ht2, e2⟩ | (rw [nI_inj e2 (by omega) (by omega)] at c2; exact c2 h2))
