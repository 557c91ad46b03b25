/-! the class: hurt and head -/
noncomputable def hdv (σ : ST) (x : Nat) : Int32 := if σ 7 x + nI 1 = nI 1 then nI (dn σ + 30) else if σ 7 x + nI 1 = nI 2 then nI (dn σ + 60) else nI 10000
noncomputable def hdS (σ : ST) (x : Nat) : ST := hrS (ups σ 7 x (σ 7 x + nI 1)) x (hdv σ x)
set_option maxRecDepth 20000 in
set_option maxHeartbeats 400000 in
theorem k_hurt {d b : Nat} {K : KM} {I : IM} {R : RM} {Q : QT} {n : Nat} {σ : ST} {w : Int32} {days : Int32} (hd : 8 ≤ d) (hW : CW n σ K I R) (hb : 7 ≤ b) (hn : n < 512)  (q1 : ¬ isN w (pn σ) → Q (.inr 3) K I R) (q2 : ∀ x, x < pn σ → w = nI x → ¬ inr days (nI 1) (nI 200) → Q (.inr 1) K I R) (q0 : ∀ x, x < pn σ → w = nI x → inr days (nI 1) (nI 200) → ∀ I', FrC I I' → RC (hrS σ x (nI (dn σ) + days)) I' R → ∀ v, v = hrS σ x (nI (dn σ) + days) 6 x → Q (.inl (some (pI v))) K I' R) : Mw d b N_X5_hurt 0 [some (pR (some RING)), some (pI w), some (pI days)] [] K I R Q := by
  obtain ⟨d9, rfl⟩ : ∃ d9, d = d9 + 1 := ⟨d - 1, by omega⟩
  have hS := hW.1.1
  have hR := hW.2.1
  have hV := hW.2.2
  have hpp := hW.2.2.1.2
  have htt := hW.2.2.2.1.2
  have hdd := hW.2.2.2.2.1.2
  refine mw_aload i_40_0 (L := RING) rfl ?_
  refine mw_iload i_40_1 (x := w) rfl ?_
  refine mw_callV i_40_2 mf_60 (as := [pI w]) (rest := []) (d' := d9) (b' := b) (ls0 := [some (pR (some RING)), some (pI w)]) rfl rfl rfl (Nat.le_of_ble_eq_true rfl) hS.1.1 rfl rfl rfl ?_
  refine k_isWrestler hS (CW_p hW) hpp ?_
  refine aft_v ?_
  refine mw_neB i_40_3 rfl (fun c1 => ?_) (fun c1 => ?_)
  · skip
    obtain ⟨j_w, h_w, rfl⟩ := c1
    refine mw_iload i_40_9 (x := days) rfl ?_
    refine mw_const i_40_10 (v := nI 1) (by decide) ?_
    refine mw_const i_40_11 (v := nI 200) (by decide) ?_
    refine mw_callS i_40_12 mf_59 (as := [pI days, pI (nI 1), pI (nI 200)]) (rest := []) (d' := d9) (b' := b) (ls0 := [some (pI days), some (pI (nI 1)), some (pI (nI 200))]) rfl rfl rfl (Nat.le_of_ble_eq_true rfl) rfl rfl rfl ?_
    refine k_within ?_
    refine aft_v ?_
    refine mw_neB i_40_13 rfl (fun c2 => ?_) (fun c2 => ?_)
    · skip
      refine mw_aload i_40_19 (L := RING) rfl ?_
      refine mw_iload i_40_20 (x := nI j_w) rfl ?_
      refine mw_aload i_40_21 (L := RING) rfl ?_
      refine mw_get i_40_22 hS.1.1 (v := nI (dn σ)) (CW_d hW) ?_
      refine mw_iload i_40_23 (x := days) rfl ?_
      refine mw_iadd i_40_24 (w := ((nI (dn σ)) + days)) rfl ?_
      refine mw_callV i_40_25 mf_66 (as := [pI (nI j_w), pI ((nI (dn σ)) + days)]) (rest := []) (d' := d9) (b' := b) (ls0 := [some (pR (some RING)), some (pI (nI j_w)), some (pI ((nI (dn σ)) + days)), none]) rfl rfl rfl (Nat.le_of_ble_eq_true rfl) hS.1.1 rfl rfl rfl ?_
      refine k_injure (by omega) hS hR (by omega) hn htt hV.2.1.1 hV.2.2.2.2.1 ?_
      intro I9 hF9 hr9 v9 hv9
      refine aft_v ?_
      refine mw_iretI i_40_26 (x := v9) rt_40 ?_
      exact q0 _ (by assumption) rfl c2 _ hF9 hr9 _ hv9
    · skip
      refine mw_throw i_40_14 hx_40 (by omega) (by omega) ?_
      exact q2 _ (by assumption) rfl (fun h => c2 h)
  · skip
    refine mw_throw i_40_4 hx_40 (by omega) (by omega) ?_
    exact q1 (fun h => c1 h)
set_option maxRecDepth 20000 in
set_option maxHeartbeats 400000 in
theorem k_head {d b : Nat} {K : KM} {I : IM} {R : RM} {Q : QT} {n : Nat} {σ : ST} {w : Int32} (hd : 8 ≤ d) (hW : CW n σ K I R) (hb : 7 ≤ b) (hn : n < 512)  (q1 : ¬ isN w (pn σ) → Q (.inr 3) K I R) (q0 : ∀ x, x < pn σ → w = nI x → ∀ I', FrC I I' → RC (hdS σ x) I' R → ∀ v, v = hdS σ x 6 x → Q (.inl (some (pI v))) K I' R) : Mw d b N_X5_head 0 [some (pR (some RING)), some (pI w), none] [] K I R Q := by
  obtain ⟨d9, rfl⟩ : ∃ d9, d = d9 + 1 := ⟨d - 1, by omega⟩
  have hS := hW.1.1
  have hR := hW.2.1
  have hV := hW.2.2
  have hpp := hW.2.2.1.2
  have htt := hW.2.2.2.1.2
  have hdd := hW.2.2.2.2.1.2
  refine mw_aload i_41_0 (L := RING) rfl ?_
  refine mw_iload i_41_1 (x := w) rfl ?_
  refine mw_callV i_41_2 mf_60 (as := [pI w]) (rest := []) (d' := d9) (b' := b) (ls0 := [some (pR (some RING)), some (pI w)]) rfl rfl rfl (Nat.le_of_ble_eq_true rfl) hS.1.1 rfl rfl rfl ?_
  refine k_isWrestler hS (CW_p hW) hpp ?_
  refine aft_v ?_
  refine mw_neB i_41_3 rfl (fun c1 => ?_) (fun c1 => ?_)
  · skip
    obtain ⟨j_w, h_w, rfl⟩ := c1
    refine mw_aload i_41_9 (L := RING) rfl ?_
    refine mw_getR i_41_10 hS.1.1 (q := some ROS) hS.1.2.1 ?_
    refine mw_iload i_41_11 (x := nI j_w) rfl ?_
    refine mw_aald i_41_12 (jn := j_w) (n := 10) (by omega) (by omega) hS.2.1.1 (by decide) (q := some (WR j_w)) (hS.2.2.1 j_w (by omega)).1 ?_
    refine mw_astore i_41_13 (ls' := [some (pR (some RING)), some (pI (nI j_w)), some (pR (some (WR j_w)))]) rfl (Nat.le_of_ble_eq_true rfl) ?_
    refine mw_aload i_41_14 (L := WR j_w) rfl ?_
    refine mw_dup i_41_15 trivial ?_
    refine mw_get i_41_16 (hS.2.2.1 j_w (by omega)).2.1 (v := σ 7 j_w) (RC_rd hR (w := j_w) (by omega)).2.2.2.2.2.1 ?_
    refine mw_const i_41_17 (v := nI 1) (by decide) ?_
    refine mw_iadd i_41_18 (w := ((σ 7 j_w) + (nI 1))) rfl ?_
    obtain ⟨I22, e22⟩ : ∃ I22, I22 = up2 I (WR j_w) 8 ((σ 7 j_w) + (nI 1)) := ⟨_, rfl⟩
    refine mw_put i_41_19 (x := ((σ 7 j_w) + (nI 1))) (hS.2.2.1 j_w (by omega)).2.1 (I' := I22) e22.symm ?_
    refine mw_aload i_41_20 (L := WR j_w) rfl ?_
    refine mw_get i_41_21 (hS.2.2.1 j_w (by omega)).2.1 (v := ((σ 7 j_w) + (nI 1))) (by rw [e22, up2_at, upd_at]) ?_
    refine mw_const i_41_22 (v := nI 1) (by decide) ?_
    refine mw_ic i_41_23 (p := ¬ ((σ 7 j_w) + (nI 1)) = (nI 1)) Iff.rfl (fun c3 => ?_) (fun c3 => ?_)
    · skip
      refine mw_aload i_41_32 (L := RING) rfl ?_
      refine mw_iload i_41_33 (x := nI j_w) rfl ?_
      refine mw_aload i_41_34 (L := WR j_w) rfl ?_
      refine mw_get i_41_35 (hS.2.2.1 j_w (by omega)).2.1 (v := ((σ 7 j_w) + (nI 1))) (by rw [e22, up2_at, upd_at]) ?_
      refine mw_const i_41_36 (v := nI 2) (by decide) ?_
      refine mw_ic i_41_37 (p := ¬ ((σ 7 j_w) + (nI 1)) = (nI 2)) Iff.rfl (fun c4 => ?_) (fun c4 => ?_)
      · skip
        refine mw_const i_41_43 (v := nI 10000) (by decide) ?_
        have r1 := RC_heads hR (w := j_w) (σ 7 j_w + nI 1)
        rw [← e22] at r1
        refine mw_callV i_41_44 mf_66 (as := [pI (nI j_w), pI (nI 10000)]) (rest := []) (d' := d9) (b' := b) (ls0 := [some (pR (some RING)), some (pI (nI j_w)), some (pI (nI 10000)), none]) rfl rfl rfl (Nat.le_of_ble_eq_true rfl) hS.1.1 rfl rfl rfl ?_
        refine k_injure (by omega) hS r1 (by omega) hn (show tn σ ≤ 4 from htt) (show ups σ 7 j_w (σ 7 j_w + nI 1) 18 0 = nI (tn σ) by rw [ups_ne (by decide)]; exact hV.2.1.1) (fun t ht => by show ups σ 7 j_w (σ 7 j_w + nI 1) 17 t = nI (lnO σ t) ∧ lnO σ t ≤ n; rw [ups_ne (by decide)]; exact hV.2.2.2.2.1 t ht) ?_
        intro I9 hF9 hr9 v9 hv9
        refine aft_v ?_
        refine mw_iretI i_41_45 (x := v9) rt_41 ?_
        have ed : hdS σ j_w = hrS (ups σ 7 j_w (σ 7 j_w + nI 1)) j_w (nI 10000) := by
          unfold hdS hdv
          rw [if_neg (by first | exact c3 | exact fun h => c3 h), if_neg c4]
        rw [← ed] at hr9 hv9
        exact q0 _ (by assumption) rfl _ (FrC_tr ((e22.symm ▸ FrC_up (FrC_rfl) (Nat.le_of_ble_eq_true rfl))) hF9) hr9 _ hv9
      · skip
        refine mw_aload i_41_38 (L := RING) rfl ?_
        refine mw_get i_41_39 hS.1.1 (v := nI (dn σ)) (by rw [e22, up2_ne (by simp)]; exact (CW_d hW)) ?_
        refine mw_const i_41_40 (v := nI 60) (by decide) ?_
        refine mw_iadd i_41_41 (w := nI (dn σ + 60)) (nI_add _ _) ?_
        refine mw_goto i_41_42 ?_
        have r1 := RC_heads hR (w := j_w) (σ 7 j_w + nI 1)
        rw [← e22] at r1
        refine mw_callV i_41_44 mf_66 (as := [pI (nI j_w), pI (nI (dn σ + 60))]) (rest := []) (d' := d9) (b' := b) (ls0 := [some (pR (some RING)), some (pI (nI j_w)), some (pI (nI (dn σ + 60))), none]) rfl rfl rfl (Nat.le_of_ble_eq_true rfl) hS.1.1 rfl rfl rfl ?_
        refine k_injure (by omega) hS r1 (by omega) hn (show tn σ ≤ 4 from htt) (show ups σ 7 j_w (σ 7 j_w + nI 1) 18 0 = nI (tn σ) by rw [ups_ne (by decide)]; exact hV.2.1.1) (fun t ht => by show ups σ 7 j_w (σ 7 j_w + nI 1) 17 t = nI (lnO σ t) ∧ lnO σ t ≤ n; rw [ups_ne (by decide)]; exact hV.2.2.2.2.1 t ht) ?_
        intro I9 hF9 hr9 v9 hv9
        refine aft_v ?_
        refine mw_iretI i_41_45 (x := v9) rt_41 ?_
        have ed : hdS σ j_w = hrS (ups σ 7 j_w (σ 7 j_w + nI 1)) j_w (nI (dn σ + 60)) := by
          unfold hdS hdv
          rw [if_neg (by first | exact c3 | exact fun h => c3 h), if_pos (by first | exact c4 | exact Classical.not_not.mp c4)]
        rw [← ed] at hr9 hv9
        exact q0 _ (by assumption) rfl _ (FrC_tr ((e22.symm ▸ FrC_up (FrC_rfl) (Nat.le_of_ble_eq_true rfl))) hF9) hr9 _ hv9
    · skip
      refine mw_aload i_41_24 (L := RING) rfl ?_
      refine mw_iload i_41_25 (x := nI j_w) rfl ?_
      refine mw_aload i_41_26 (L := RING) rfl ?_
      refine mw_get i_41_27 hS.1.1 (v := nI (dn σ)) (by rw [e22, up2_ne (by simp)]; exact (CW_d hW)) ?_
      refine mw_const i_41_28 (v := nI 30) (by decide) ?_
      refine mw_iadd i_41_29 (w := nI (dn σ + 30)) (nI_add _ _) ?_
      have r1 := RC_heads hR (w := j_w) (σ 7 j_w + nI 1)
      rw [← e22] at r1
      refine mw_callV i_41_30 mf_66 (as := [pI (nI j_w), pI (nI (dn σ + 30))]) (rest := []) (d' := d9) (b' := b) (ls0 := [some (pR (some RING)), some (pI (nI j_w)), some (pI (nI (dn σ + 30))), none]) rfl rfl rfl (Nat.le_of_ble_eq_true rfl) hS.1.1 rfl rfl rfl ?_
      refine k_injure (by omega) hS r1 (by omega) hn (show tn σ ≤ 4 from htt) (show ups σ 7 j_w (σ 7 j_w + nI 1) 18 0 = nI (tn σ) by rw [ups_ne (by decide)]; exact hV.2.1.1) (fun t ht => by show ups σ 7 j_w (σ 7 j_w + nI 1) 17 t = nI (lnO σ t) ∧ lnO σ t ≤ n; rw [ups_ne (by decide)]; exact hV.2.2.2.2.1 t ht) ?_
      intro I9 hF9 hr9 v9 hv9
      refine aft_v ?_
      refine mw_iretI i_41_31 (x := v9) rt_41 ?_
      have ed : hdS σ j_w = hrS (ups σ 7 j_w (σ 7 j_w + nI 1)) j_w (nI (dn σ + 30)) := by
        unfold hdS hdv
        rw [if_pos (by first | exact c3 | exact Classical.not_not.mp c3)]
      rw [← ed] at hr9 hv9
      exact q0 _ (by assumption) rfl _ (FrC_tr ((e22.symm ▸ FrC_up (FrC_rfl) (Nat.le_of_ble_eq_true rfl))) hF9) hr9 _ hv9
  · skip
    refine mw_throw i_41_4 hx_41 (by omega) (by omega) ?_
    exact q1 (fun h => c1 h)
