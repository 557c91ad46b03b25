/-! the class: promo -/
def pch (σ : ST) (x : Nat) (sl : Int32) : Int32 := if nI 0 < σ 2 x / nI 10 - sl then σ 2 x / nI 10 - sl else nI 0
def pcg (σ : ST) (x : Nat) (sl : Int32) : Int32 := if σ 3 x = nI 0 then pch σ x sl else -pch σ x sl
noncomputable def prS (σ : ST) (t x : Nat) (sl : Int32) : ST := trS (lov (ups σ 10 x (nI 1)) t x (pcg σ x sl)) x
theorem pro_iff {n : Nat} {σ : ST} {K : KM} {I : IM} {R : RM} (h : CW n σ K I R) {x : Nat} (hx : x < 10) : I (WR x) 13 = nI (dn σ) ↔ ¬ σ 10 x = nI 0 := by
  have hp := (h.2.1.2.2.1 x hx).2.2.2.2.2.2.2.2.2.2.2.2.2
  have hd := h.2.2.2.2.1
  rcases hp with ⟨a, b⟩ | ⟨a, b⟩
  · refine ⟨fun e => ?_, fun q => absurd a q⟩
    rcases b with b | ⟨k, hk, b⟩
    · exact absurd (e.symm.trans b) (nI_nm1 (by omega))
    · have hk2 : k < dn σ := hk
      exact absurd (nI_inj (e.symm.trans b) (by omega) (by omega)) (by omega)
  · exact ⟨fun _ q => absurd (a.symm.trans q) (by decide), fun _ => b.trans hd.1⟩
set_option maxRecDepth 20000 in
set_option maxHeartbeats 400000 in
theorem k_promo {d b : Nat} {K : KM} {I : IM} {R : RM} {Q : QT} {n : Nat} {σ : ST} {tw : Int32} {w : Int32} {sl : Int32} (hd : 8 ≤ d) (hW : CW n σ K I R) (hb : 7 ≤ b) (hn : n < 512)  (q1 : ¬ (isN tw 4 ∧ isN w (pn σ)) → Q (.inr 3) K I R) (q2 : ∀ t x, t < 4 → x < pn σ → tw = nI t → w = nI x → ¬ isN sl 10 → Q (.inr 1) K I R) (q3 : ∀ t x, t < 4 → x < pn σ → tw = nI t → w = nI x → isN sl 10 → ¬ (¬ nI (dn σ) < σ 6 x ∧ σ 10 x = nI 0) → Q (.inr 2) K I R) (q0 : ∀ t x, t < 4 → x < pn σ → tw = nI t → w = nI x → isN sl 10 → (¬ nI (dn σ) < σ 6 x ∧ σ 10 x = nI 0) → ∀ I', FrC I I' → RC (prS σ t x sl) I' R → ∀ v, v = prS σ t x sl 4 (10 * t + x) → Q (.inl (some (pI v))) K I' R) : Mw d b N_X5_promo 0 [some (pR (some RING)), some (pI tw), some (pI w), some (pI sl), none, none] [] K I R Q := by
  obtain ⟨d9, rfl⟩ : ∃ d9, d = d9 + 1 := ⟨d - 1, by omega⟩
  have hS := hW.1.1
  have hR := hW.2.1
  have hV := hW.2.2
  have hpp := hW.2.2.1.2
  have htt := hW.2.2.2.1.2
  have hdd := hW.2.2.2.2.1.2
  refine mw_iload i_44_0 (x := tw) rfl ?_
  refine mw_callS i_44_1 mf_62 (as := [pI tw]) (rest := []) (d' := d9) (b' := b) (ls0 := [some (pI tw)]) rfl rfl rfl (Nat.le_of_ble_eq_true rfl) rfl rfl rfl ?_
  refine k_isTown ?_
  refine aft_v ?_
  refine mw_eqB i_44_2 rfl (fun c1 => ?_) (fun c1 => ?_)
  · skip
    refine mw_throw i_44_7 hx_44 (by omega) (by omega) ?_
    exact q1 (fun h => c1 h.1)
  · skip
    obtain ⟨j_tw, h_tw, rfl⟩ := c1
    refine mw_aload i_44_3 (L := RING) rfl ?_
    refine mw_iload i_44_4 (x := w) rfl ?_
    refine mw_callV i_44_5 mf_60 (as := [pI w]) (rest := []) (d' := d9) (b' := b) (ls0 := [some (pR (some RING)), some (pI w)]) rfl rfl rfl (Nat.le_of_ble_eq_true rfl) hS.1.1 rfl rfl rfl ?_
    refine k_isWrestler hS (CW_p hW) hpp ?_
    refine aft_v ?_
    refine mw_neB i_44_6 rfl (fun c2 => ?_) (fun c2 => ?_)
    · skip
      obtain ⟨j_w, h_w, rfl⟩ := c2
      refine mw_iload i_44_12 (x := sl) rfl ?_
      refine mw_const i_44_13 (v := nI 0) (by decide) ?_
      refine mw_const i_44_14 (v := nI 9) (by decide) ?_
      refine mw_callS i_44_15 mf_59 (as := [pI sl, pI (nI 0), pI (nI 9)]) (rest := []) (d' := d9) (b' := b) (ls0 := [some (pI sl), some (pI (nI 0)), some (pI (nI 9))]) rfl rfl rfl (Nat.le_of_ble_eq_true rfl) rfl rfl rfl ?_
      refine k_within ?_
      rw [bI_congr (inr_isN (x := sl) (n := 9) (by decide))]
      refine aft_v ?_
      refine mw_neB i_44_16 rfl (fun c3 => ?_) (fun c3 => ?_)
      · skip
        refine mw_aload i_44_22 (L := RING) rfl ?_
        refine mw_getR i_44_23 hS.1.1 (q := some ROS) hS.1.2.1 ?_
        refine mw_iload i_44_24 (x := nI j_w) rfl ?_
        refine mw_aald i_44_25 (jn := j_w) (n := 10) (by omega) (by omega) hS.2.1.1 (by decide) (q := some (WR j_w)) (hS.2.2.1 j_w (by omega)).1 ?_
        refine mw_astore i_44_26 (ls' := [some (pR (some RING)), some (pI (nI j_tw)), some (pI (nI j_w)), some (pI sl), some (pR (some (WR j_w))), none]) rfl (Nat.le_of_ble_eq_true rfl) ?_
        refine mw_aload i_44_27 (L := WR j_w) rfl ?_
        refine mw_aload i_44_28 (L := RING) rfl ?_
        refine mw_get i_44_29 hS.1.1 (v := nI (dn σ)) (CW_d hW) ?_
        refine mw_callV i_44_30 mf_27 (as := [pI (nI (dn σ))]) (rest := []) (d' := d9) (b' := b) (ls0 := [some (pR (some (WR j_w))), some (pI (nI (dn σ)))]) rfl rfl rfl (Nat.le_of_ble_eq_true rfl) (hS.2.2.1 j_w (by omega)).2.1 rfl rfl rfl ?_
        refine k_isHurtOn hS (by omega) ?_
        rw [(RC_rd hR (w := j_w) (by omega)).2.2.2.2.1]
        refine aft_v ?_
        refine mw_neB i_44_31 rfl (fun c4 => ?_) (fun c4 => ?_)
        · skip
          refine mw_throw i_44_37 hx_44 (by omega) (by omega) ?_
          exact q3 _ _ (by assumption) (by assumption) rfl rfl c3 (fun h => h.1 c4)
        · skip
          refine mw_aload i_44_32 (L := WR j_w) rfl ?_
          refine mw_get i_44_33 (hS.2.2.1 j_w (by omega)).2.1 (v := I (WR j_w) 13) rfl ?_
          refine mw_aload i_44_34 (L := RING) rfl ?_
          refine mw_get i_44_35 hS.1.1 (v := nI (dn σ)) (CW_d hW) ?_
          refine mw_ic i_44_36 (p := ¬ (I (WR j_w) 13) = (nI (dn σ))) Iff.rfl (fun c5 => ?_) (fun c5 => ?_)
          · skip
            refine mw_aload i_44_42 (L := WR j_w) rfl ?_
            refine mw_aload i_44_43 (L := RING) rfl ?_
            refine mw_get i_44_44 hS.1.1 (v := nI (dn σ)) (CW_d hW) ?_
            obtain ⟨I26, e26⟩ : ∃ I26, I26 = up2 I (WR j_w) 13 (nI (dn σ)) := ⟨_, rfl⟩
            refine mw_put i_44_45 (x := nI (dn σ)) (hS.2.2.1 j_w (by omega)).2.1 (I' := I26) e26.symm ?_
            refine mw_const i_44_46 (v := nI 0) (by decide) ?_
            refine mw_aload i_44_47 (L := WR j_w) rfl ?_
            refine mw_get i_44_48 (hS.2.2.1 j_w (by omega)).2.1 (v := σ 2 j_w) (by rw [e26, up2_slot (by decide)]; exact (RC_rd hR (w := j_w) (by omega)).2.1) ?_
            refine mw_const i_44_49 (v := nI 10) (by decide) ?_
            refine mw_idiv i_44_50 (by decide) (w := ((σ 2 j_w) / (nI 10))) rfl ?_
            refine mw_iload i_44_51 (x := sl) rfl ?_
            refine mw_isub i_44_52 (w := (((σ 2 j_w) / (nI 10)) - sl)) rfl ?_
            refine mw_max i_44_53 (Nat.le_of_ble_eq_true rfl) (by omega) (w := (if nI 0 < (((σ 2 j_w) / (nI 10)) - sl) then (((σ 2 j_w) / (nI 10)) - sl) else nI 0)) rfl ?_
            refine mw_istore i_44_54 (ls' := [some (pR (some RING)), some (pI (nI j_tw)), some (pI (nI j_w)), some (pI sl), some (pR (some (WR j_w))), some (pI (if nI 0 < (((σ 2 j_w) / (nI 10)) - sl) then (((σ 2 j_w) / (nI 10)) - sl) else nI 0))]) rfl (Nat.le_of_ble_eq_true rfl) ?_
            refine mw_aload i_44_55 (L := WR j_w) rfl ?_
            refine mw_iload i_44_56 (x := nI j_tw) rfl ?_
            refine mw_aload i_44_57 (L := WR j_w) rfl ?_
            refine mw_get i_44_58 (hS.2.2.1 j_w (by omega)).2.1 (v := σ 3 j_w) (by rw [e26, up2_slot (by decide)]; exact (RC_rd hR (w := j_w) (by omega)).2.2.1) ?_
            refine mw_if i_44_59 (p := ¬ (σ 3 j_w) = nI 0) Iff.rfl (fun c7 => ?_) (fun c7 => ?_)
            · skip
              refine mw_iload i_44_62 (x := (if nI 0 < (((σ 2 j_w) / (nI 10)) - sl) then (((σ 2 j_w) / (nI 10)) - sl) else nI 0)) rfl ?_
              refine mw_ineg i_44_63 (w := -(if nI 0 < (((σ 2 j_w) / (nI 10)) - sl) then (((σ 2 j_w) / (nI 10)) - sl) else nI 0)) rfl ?_
              refine mw_callV i_44_64 mf_30 (as := [pI (nI j_tw), pI (-(if nI 0 < (((σ 2 j_w) / (nI 10)) - sl) then (((σ 2 j_w) / (nI 10)) - sl) else nI 0))]) (rest := []) (d' := d9) (b' := b) (ls0 := [some (pR (some (WR j_w))), some (pI (nI j_tw)), some (pI (-(if nI 0 < (((σ 2 j_w) / (nI 10)) - sl) then (((σ 2 j_w) / (nI 10)) - sl) else nI 0)))]) rfl rfl rfl (Nat.le_of_ble_eq_true rfl) (hS.2.2.1 j_w (by omega)).2.1 rfl rfl rfl ?_
              refine k_addLove (by omega) hS (by omega) (by omega) ?_
              refine aft_n ?_
              refine mw_aload i_44_65 (L := WR j_w) rfl ?_
              refine mw_callV i_44_66 mf_31 (as := []) (rest := []) (d' := d9) (b' := b) (ls0 := [some (pR (some (WR j_w))), none, none, none]) rfl rfl rfl (Nat.le_of_ble_eq_true rfl) (hS.2.2.1 j_w (by omega)).2.1 rfl rfl rfl ?_
              refine k_turn hS (by omega) ?_
              refine aft_n ?_
              refine mw_aload i_44_67 (L := WR j_w) rfl ?_
              refine mw_getR i_44_68 (hS.2.2.1 j_w (by omega)).2.1 (q := some (LV j_w)) (hS.2.2.1 j_w (by omega)).2.2.1 ?_
              refine mw_iload i_44_69 (x := nI j_tw) rfl ?_
              refine mw_iald i_44_70 (jn := j_tw) (n := 4) (by omega) (by omega) (hS.2.2.1 j_w (by omega)).2.2.2.2.2.1 (by decide) (v := (up2 (up2 I26 (LV j_w) j_tw (cl99 (I26 (LV j_w) j_tw + (-(if nI 0 < (((σ 2 j_w) / (nI 10)) - sl) then (((σ 2 j_w) / (nI 10)) - sl) else nI 0))))) (WR j_w) 5 (trn ((up2 I26 (LV j_w) j_tw (cl99 (I26 (LV j_w) j_tw + (-(if nI 0 < (((σ 2 j_w) / (nI 10)) - sl) then (((σ 2 j_w) / (nI 10)) - sl) else nI 0))))) (WR j_w) 5) (cnt (fun t => nI 50 ≤ (up2 I26 (LV j_w) j_tw (cl99 (I26 (LV j_w) j_tw + (-(if nI 0 < (((σ 2 j_w) / (nI 10)) - sl) then (((σ 2 j_w) / (nI 10)) - sl) else nI 0))))) (LV j_w) t) 4) (cnt (fun t => (up2 I26 (LV j_w) j_tw (cl99 (I26 (LV j_w) j_tw + (-(if nI 0 < (((σ 2 j_w) / (nI 10)) - sl) then (((σ 2 j_w) / (nI 10)) - sl) else nI 0))))) (LV j_w) t ≤ (-50)) 4))) (LV j_w) j_tw) rfl ?_
              refine mw_iretI i_44_71 (x := (up2 (up2 I26 (LV j_w) j_tw (cl99 (I26 (LV j_w) j_tw + (-(if nI 0 < (((σ 2 j_w) / (nI 10)) - sl) then (((σ 2 j_w) / (nI 10)) - sl) else nI 0))))) (WR j_w) 5 (trn ((up2 I26 (LV j_w) j_tw (cl99 (I26 (LV j_w) j_tw + (-(if nI 0 < (((σ 2 j_w) / (nI 10)) - sl) then (((σ 2 j_w) / (nI 10)) - sl) else nI 0))))) (WR j_w) 5) (cnt (fun t => nI 50 ≤ (up2 I26 (LV j_w) j_tw (cl99 (I26 (LV j_w) j_tw + (-(if nI 0 < (((σ 2 j_w) / (nI 10)) - sl) then (((σ 2 j_w) / (nI 10)) - sl) else nI 0))))) (LV j_w) t) 4) (cnt (fun t => (up2 I26 (LV j_w) j_tw (cl99 (I26 (LV j_w) j_tw + (-(if nI 0 < (((σ 2 j_w) / (nI 10)) - sl) then (((σ 2 j_w) / (nI 10)) - sl) else nI 0))))) (LV j_w) t ≤ (-50)) 4))) (LV j_w) j_tw) rt_44 ?_
              have r1 := RC_promo hR (w := j_w)
              rw [hV.2.2.1.1, ← e26] at r1
              have r2 := RC_lov r1 (w := j_w) (t := j_tw) (by omega) (by omega) (pcg σ j_w sl)
              have r3 := RC_turn r2 (w := j_w) (by omega)
              have ep : pcg σ j_w sl = -(if nI 0 < (((σ 2 j_w) / (nI 10)) - sl) then (((σ 2 j_w) / (nI 10)) - sl) else nI 0) := by
                unfold pcg
                first | exact if_neg c7 | exact if_pos (Classical.not_not.mp c7) | exact if_pos c7
              have ev := (RC_rd r3 (w := j_w) (by omega)).2.2.2.2.2.2.2.2.2.2.1 j_tw (by omega)
              rw [show -(if nI 0 < (((σ 2 j_w) / (nI 10)) - sl) then (((σ 2 j_w) / (nI 10)) - sl) else nI 0) = pcg σ j_w sl from ep.symm]
              exact q0 _ _ (by assumption) (by assumption) rfl rfl c3 ⟨c4, Classical.not_not.mp (fun h => c5 ((pro_iff hW (x := j_w) (by omega)).mpr h))⟩ _ (FrC_up (FrC_up ((e26.symm ▸ FrC_up (FrC_rfl) (Nat.le_of_ble_eq_true rfl))) (Nat.le_of_ble_eq_true rfl)) (Nat.le_of_ble_eq_true rfl)) r3 _ ev
            · skip
              refine mw_iload i_44_60 (x := (if nI 0 < (((σ 2 j_w) / (nI 10)) - sl) then (((σ 2 j_w) / (nI 10)) - sl) else nI 0)) rfl ?_
              refine mw_goto i_44_61 ?_
              refine mw_callV i_44_64 mf_30 (as := [pI (nI j_tw), pI (if nI 0 < (((σ 2 j_w) / (nI 10)) - sl) then (((σ 2 j_w) / (nI 10)) - sl) else nI 0)]) (rest := []) (d' := d9) (b' := b) (ls0 := [some (pR (some (WR j_w))), some (pI (nI j_tw)), some (pI (if nI 0 < (((σ 2 j_w) / (nI 10)) - sl) then (((σ 2 j_w) / (nI 10)) - sl) else nI 0))]) rfl rfl rfl (Nat.le_of_ble_eq_true rfl) (hS.2.2.1 j_w (by omega)).2.1 rfl rfl rfl ?_
              refine k_addLove (by omega) hS (by omega) (by omega) ?_
              refine aft_n ?_
              refine mw_aload i_44_65 (L := WR j_w) rfl ?_
              refine mw_callV i_44_66 mf_31 (as := []) (rest := []) (d' := d9) (b' := b) (ls0 := [some (pR (some (WR j_w))), none, none, none]) rfl rfl rfl (Nat.le_of_ble_eq_true rfl) (hS.2.2.1 j_w (by omega)).2.1 rfl rfl rfl ?_
              refine k_turn hS (by omega) ?_
              refine aft_n ?_
              refine mw_aload i_44_67 (L := WR j_w) rfl ?_
              refine mw_getR i_44_68 (hS.2.2.1 j_w (by omega)).2.1 (q := some (LV j_w)) (hS.2.2.1 j_w (by omega)).2.2.1 ?_
              refine mw_iload i_44_69 (x := nI j_tw) rfl ?_
              refine mw_iald i_44_70 (jn := j_tw) (n := 4) (by omega) (by omega) (hS.2.2.1 j_w (by omega)).2.2.2.2.2.1 (by decide) (v := (up2 (up2 I26 (LV j_w) j_tw (cl99 (I26 (LV j_w) j_tw + (if nI 0 < (((σ 2 j_w) / (nI 10)) - sl) then (((σ 2 j_w) / (nI 10)) - sl) else nI 0)))) (WR j_w) 5 (trn ((up2 I26 (LV j_w) j_tw (cl99 (I26 (LV j_w) j_tw + (if nI 0 < (((σ 2 j_w) / (nI 10)) - sl) then (((σ 2 j_w) / (nI 10)) - sl) else nI 0)))) (WR j_w) 5) (cnt (fun t => nI 50 ≤ (up2 I26 (LV j_w) j_tw (cl99 (I26 (LV j_w) j_tw + (if nI 0 < (((σ 2 j_w) / (nI 10)) - sl) then (((σ 2 j_w) / (nI 10)) - sl) else nI 0)))) (LV j_w) t) 4) (cnt (fun t => (up2 I26 (LV j_w) j_tw (cl99 (I26 (LV j_w) j_tw + (if nI 0 < (((σ 2 j_w) / (nI 10)) - sl) then (((σ 2 j_w) / (nI 10)) - sl) else nI 0)))) (LV j_w) t ≤ (-50)) 4))) (LV j_w) j_tw) rfl ?_
              refine mw_iretI i_44_71 (x := (up2 (up2 I26 (LV j_w) j_tw (cl99 (I26 (LV j_w) j_tw + (if nI 0 < (((σ 2 j_w) / (nI 10)) - sl) then (((σ 2 j_w) / (nI 10)) - sl) else nI 0)))) (WR j_w) 5 (trn ((up2 I26 (LV j_w) j_tw (cl99 (I26 (LV j_w) j_tw + (if nI 0 < (((σ 2 j_w) / (nI 10)) - sl) then (((σ 2 j_w) / (nI 10)) - sl) else nI 0)))) (WR j_w) 5) (cnt (fun t => nI 50 ≤ (up2 I26 (LV j_w) j_tw (cl99 (I26 (LV j_w) j_tw + (if nI 0 < (((σ 2 j_w) / (nI 10)) - sl) then (((σ 2 j_w) / (nI 10)) - sl) else nI 0)))) (LV j_w) t) 4) (cnt (fun t => (up2 I26 (LV j_w) j_tw (cl99 (I26 (LV j_w) j_tw + (if nI 0 < (((σ 2 j_w) / (nI 10)) - sl) then (((σ 2 j_w) / (nI 10)) - sl) else nI 0)))) (LV j_w) t ≤ (-50)) 4))) (LV j_w) j_tw) rt_44 ?_
              have r1 := RC_promo hR (w := j_w)
              rw [hV.2.2.1.1, ← e26] at r1
              have r2 := RC_lov r1 (w := j_w) (t := j_tw) (by omega) (by omega) (pcg σ j_w sl)
              have r3 := RC_turn r2 (w := j_w) (by omega)
              have ep : pcg σ j_w sl = (if nI 0 < (((σ 2 j_w) / (nI 10)) - sl) then (((σ 2 j_w) / (nI 10)) - sl) else nI 0) := by
                unfold pcg
                first | exact if_neg c7 | exact if_pos (Classical.not_not.mp c7) | exact if_pos c7
              have ev := (RC_rd r3 (w := j_w) (by omega)).2.2.2.2.2.2.2.2.2.2.1 j_tw (by omega)
              rw [show (if nI 0 < (((σ 2 j_w) / (nI 10)) - sl) then (((σ 2 j_w) / (nI 10)) - sl) else nI 0) = pcg σ j_w sl from ep.symm]
              exact q0 _ _ (by assumption) (by assumption) rfl rfl c3 ⟨c4, Classical.not_not.mp (fun h => c5 ((pro_iff hW (x := j_w) (by omega)).mpr h))⟩ _ (FrC_up (FrC_up ((e26.symm ▸ FrC_up (FrC_rfl) (Nat.le_of_ble_eq_true rfl))) (Nat.le_of_ble_eq_true rfl)) (Nat.le_of_ble_eq_true rfl)) r3 _ ev
          · skip
            refine mw_throw i_44_37 hx_44 (by omega) (by omega) ?_
            exact q3 _ _ (by assumption) (by assumption) rfl rfl c3 (fun h => (pro_iff hW (x := j_w) (by omega)).mp (by first | exact c5 | exact Classical.not_not.mp c5) h.2)
      · skip
        refine mw_throw i_44_17 hx_44 (by omega) (by omega) ?_
        exact q2 _ _ (by assumption) (by assumption) rfl rfl (fun h => c3 h)
    · skip
      refine mw_throw i_44_7 hx_44 (by omega) (by omega) ?_
      exact q1 (fun h => c2 h.2)
