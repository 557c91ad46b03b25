/-! making a wrestler, a title, the mender -/
def WB (w : Nat) (K : KM) (I : IM) (R : RM) (K' : KM) (I' : IM) (R' : RM) : Prop := (∀ L, L ≠ WR w → L ≠ LV w → L ≠ CD w → L ≠ WA w → K' L = K L ∧ I' L = I L ∧ R' L = R L) ∧ (K' (WR w) = some (4, 0) ∧ R' (WR w) 0 = some (LV w) ∧ R' (WR w) 1 = some (CD w) ∧ R' (WR w) 2 = some (WA w) ∧ K' (LV w) = some (7, 4) ∧ K' (CD w) = some (7, 10) ∧ K' (WA w) = some (7, 10)) ∧ I' (WR w) = upd (fun _ => 0) 13 (-1) ∧ I' (LV w) = (fun _ => 0) ∧ (∀ o, o < 10 → I' (CD w) o = (-1)) ∧ I' (WA w) = fun _ => 0
def TB (t : Nat) (K : KM) (I : IM) (R : RM) (K' : KM) (I' : IM) (R' : RM) : Prop := (∀ L, L ≠ TT t → L ≠ TH t → L ≠ TD t → K' L = K L ∧ I' L = I L ∧ R' L = R L) ∧ (K' (TT t) = some (3, 0) ∧ R' (TT t) 0 = some (TH t) ∧ R' (TT t) 1 = some (TD t) ∧ K' (TH t) = some (7, 512) ∧ K' (TD t) = some (7, 512)) ∧ I' (TT t) = upd (fun _ => 0) 3 (-1)
set_option maxRecDepth 20000 in
set_option maxHeartbeats 400000 in
theorem k_Winit {d b : Nat} {K : KM} {I : IM} {R : RM} {Q : QT} {w : Nat} (hd : 2 ≤ d) (h0 : K (WR w) = some (4, 0)) (h0I : I (WR w) = fun _ => 0) (hL : K (LV w) = none) (hD : K (CD w) = none) (hA : K (WA w) = none) (q : ∀ K' I' R', WB w K I R K' I' R' → Q (.inl none) K' I' R') : Mw d (b + 27) N_X4_init 0 [some (pR (some (WR w)))] [] K I R Q := by
  obtain ⟨d9, rfl⟩ : ∃ d9, d = d9 + 1 := ⟨d - 1, by omega⟩
  refine mw_aload i_26_0 (L := WR w) rfl ?_
  refine mw_obj i_26_1 (Nat.le_of_ble_eq_true rfl) (by omega) ?_
  refine mw_aload i_26_2 (L := WR w) rfl ?_
  refine mw_const i_26_3 (v := nI 4) (by decide) ?_
  obtain ⟨K21, eK21⟩ : ∃ K21, K21 = setK K (LV w) (7, 4) := ⟨_, rfl⟩
  obtain ⟨I21, eI21⟩ : ∃ I21, I21 = setI I (LV w) (fun _ => 0) := ⟨_, rfl⟩
  obtain ⟨R21, eR21⟩ : ∃ R21, R21 = setR R (LV w) (fun _ => none) := ⟨_, rfl⟩
  refine mw_newa i_26_4 (LV w) hL (by decide) (b' := b + 22) (by first | rfl | omega) eK21.symm eI21.symm eR21.symm ?_
  obtain ⟨R22, eR22⟩ : ∃ R22, R22 = up2R R21 (WR w) 0 (some (LV w)) := ⟨_, rfl⟩
  refine mw_putR i_26_5 (by rw [eK21, setK_ne (by simp)]; exact h0) (R' := R22) eR22.symm ?_
  refine mw_aload i_26_6 (L := WR w) rfl ?_
  refine mw_const i_26_7 (v := nI 10) (by decide) ?_
  obtain ⟨K23, eK23⟩ : ∃ K23, K23 = setK K21 (CD w) (7, 10) := ⟨_, rfl⟩
  obtain ⟨I23, eI23⟩ : ∃ I23, I23 = setI I21 (CD w) (fun _ => 0) := ⟨_, rfl⟩
  obtain ⟨R23, eR23⟩ : ∃ R23, R23 = setR R22 (CD w) (fun _ => none) := ⟨_, rfl⟩
  refine mw_newa i_26_8 (CD w) (by rw [eK21, setK_ne (by simp)]; exact hD) (by decide) (b' := b + 11) (by first | rfl | omega) eK23.symm eI23.symm eR23.symm ?_
  obtain ⟨R24, eR24⟩ : ∃ R24, R24 = up2R R23 (WR w) 1 (some (CD w)) := ⟨_, rfl⟩
  refine mw_putR i_26_9 (by rw [eK23, setK_ne (by simp), eK21, setK_ne (by simp)]; exact h0) (R' := R24) eR24.symm ?_
  refine mw_aload i_26_10 (L := WR w) rfl ?_
  refine mw_const i_26_11 (v := nI 10) (by decide) ?_
  obtain ⟨K25, eK25⟩ : ∃ K25, K25 = setK K23 (WA w) (7, 10) := ⟨_, rfl⟩
  obtain ⟨I25, eI25⟩ : ∃ I25, I25 = setI I23 (WA w) (fun _ => 0) := ⟨_, rfl⟩
  obtain ⟨R25, eR25⟩ : ∃ R25, R25 = setR R24 (WA w) (fun _ => none) := ⟨_, rfl⟩
  refine mw_newa i_26_12 (WA w) (by rw [eK23, setK_ne (by simp), eK21, setK_ne (by simp)]; exact hA) (by decide) (b' := b) (by first | rfl | omega) eK25.symm eI25.symm eR25.symm ?_
  obtain ⟨R26, eR26⟩ : ∃ R26, R26 = up2R R25 (WR w) 2 (some (WA w)) := ⟨_, rfl⟩
  refine mw_putR i_26_13 (by rw [eK25, setK_ne (by simp), eK23, setK_ne (by simp), eK21, setK_ne (by simp)]; exact h0) (R' := R26) eR26.symm ?_
  refine mw_aload i_26_14 (L := WR w) rfl ?_
  refine mw_const i_26_15 (v := (-1)) (by decide) ?_
  obtain ⟨I27, e27⟩ : ∃ I27, I27 = up2 I25 (WR w) 13 (-1) := ⟨_, rfl⟩
  refine mw_put i_26_16 (x := (-1)) (by rw [eK25, setK_ne (by simp), eK23, setK_ne (by simp), eK21, setK_ne (by simp)]; exact h0) (I' := I27) e27.symm ?_
  refine mw_aload i_26_17 (L := WR w) rfl ?_
  refine mw_getR i_26_18 (by rw [eK25, setK_ne (by simp), eK23, setK_ne (by simp), eK21, setK_ne (by simp)]; exact h0) (q := some (CD w)) (by rw [eR26, up2R_slot (by decide), eR25, setR_ne (by simp), eR24, up2R_is]) ?_
  refine mw_const i_26_19 (v := (-1)) (by decide) ?_
  refine mw_callS i_26_20 mf_76 (as := [pR (some (CD w)), pI (-1)]) (rest := []) (d' := d9) (b' := b) (ls0 := [some (pR (some (CD w))), some (pI (-1)), none, none]) rfl rfl rfl (Nat.le_of_ble_eq_true rfl) rfl rfl rfl ?_
  refine k_afill (L := CD w) (sz := 10) (by rw [eK25, setK_ne (by simp), eK23, setK_at]) (by decide) (fun I9 hL9 hv9 => ?_)
  refine aft_n ?_
  refine mw_ret i_26_21 ?_
  refine q K25 I9 R26 ⟨fun L q1 q2 q3 q4 => ⟨by rw [eK25, setK_ne q4, eK23, setK_ne q3, eK21, setK_ne q2], by rw [hL9 L q3, e27, up2_ne q1, eI25, setI_ne q4, eI23, setI_ne q3, eI21, setI_ne q2], by rw [eR26, up2R_ne q1, eR25, setR_ne q4, eR24, up2R_ne q1, eR23, setR_ne q3, eR22, up2R_ne q1, eR21, setR_ne q2]⟩, ⟨(by rw [eK25, setK_ne (by simp), eK23, setK_ne (by simp), eK21, setK_ne (by simp)]; exact h0), (by rw [eR26, up2R_slot (by decide), eR25, setR_ne (by simp), eR24, up2R_slot (by decide), eR23, setR_ne (by simp), eR22, up2R_is]), (by rw [eR26, up2R_slot (by decide), eR25, setR_ne (by simp), eR24, up2R_is]), (by rw [eR26, up2R_is]), (by rw [eK25, setK_ne (by simp), eK23, setK_ne (by simp), eK21, setK_at]), (by rw [eK25, setK_ne (by simp), eK23, setK_at]), (by rw [eK25, setK_at])⟩, (by rw [hL9 (WR w) (by simp), e27, up2_at, eI25, setI_ne (by simp), eI23, setI_ne (by simp), eI21, setI_ne (by simp), h0I]), (by rw [hL9 (LV w) (by simp), e27, up2_ne (by simp), eI25, setI_ne (by simp), eI23, setI_ne (by simp), eI21, setI_at]), hv9, (by rw [hL9 (WA w) (by simp), e27, up2_ne (by simp), eI25, setI_at])⟩
set_option maxRecDepth 20000 in
set_option maxHeartbeats 400000 in
theorem k_Tinit {d b : Nat} {K : KM} {I : IM} {R : RM} {Q : QT} {t : Nat} (hd : 1 ≤ d) (h0 : K (TT t) = some (3, 0)) (h0I : I (TT t) = fun _ => 0) (hH : K (TH t) = none) (hD : K (TD t) = none) (q : ∀ K' I' R', TB t K I R K' I' R' → Q (.inl none) K' I' R') : Mw d (b + 1026) N_X3_init 0 [some (pR (some (TT t)))] [] K I R Q := by
  refine mw_aload i_24_0 (L := TT t) rfl ?_
  refine mw_obj i_24_1 (Nat.le_of_ble_eq_true rfl) (by omega) ?_
  refine mw_aload i_24_2 (L := TT t) rfl ?_
  refine mw_const i_24_3 (v := nI 512) (by decide) ?_
  obtain ⟨K21, eK21⟩ : ∃ K21, K21 = setK K (TH t) (7, 512) := ⟨_, rfl⟩
  obtain ⟨I21, eI21⟩ : ∃ I21, I21 = setI I (TH t) (fun _ => 0) := ⟨_, rfl⟩
  obtain ⟨R21, eR21⟩ : ∃ R21, R21 = setR R (TH t) (fun _ => none) := ⟨_, rfl⟩
  refine mw_newa i_24_4 (TH t) hH (by decide) (b' := b + 513) (by first | rfl | omega) eK21.symm eI21.symm eR21.symm ?_
  obtain ⟨R22, eR22⟩ : ∃ R22, R22 = up2R R21 (TT t) 0 (some (TH t)) := ⟨_, rfl⟩
  refine mw_putR i_24_5 (by rw [eK21, setK_ne (by simp)]; exact h0) (R' := R22) eR22.symm ?_
  refine mw_aload i_24_6 (L := TT t) rfl ?_
  refine mw_const i_24_7 (v := nI 512) (by decide) ?_
  obtain ⟨K23, eK23⟩ : ∃ K23, K23 = setK K21 (TD t) (7, 512) := ⟨_, rfl⟩
  obtain ⟨I23, eI23⟩ : ∃ I23, I23 = setI I21 (TD t) (fun _ => 0) := ⟨_, rfl⟩
  obtain ⟨R23, eR23⟩ : ∃ R23, R23 = setR R22 (TD t) (fun _ => none) := ⟨_, rfl⟩
  refine mw_newa i_24_8 (TD t) (by rw [eK21, setK_ne (by simp)]; exact hD) (by decide) (b' := b) (by first | rfl | omega) eK23.symm eI23.symm eR23.symm ?_
  obtain ⟨R24, eR24⟩ : ∃ R24, R24 = up2R R23 (TT t) 1 (some (TD t)) := ⟨_, rfl⟩
  refine mw_putR i_24_9 (by rw [eK23, setK_ne (by simp), eK21, setK_ne (by simp)]; exact h0) (R' := R24) eR24.symm ?_
  refine mw_aload i_24_10 (L := TT t) rfl ?_
  refine mw_const i_24_11 (v := (-1)) (by decide) ?_
  obtain ⟨I25, e25⟩ : ∃ I25, I25 = up2 I23 (TT t) 3 (-1) := ⟨_, rfl⟩
  refine mw_put i_24_12 (x := (-1)) (by rw [eK23, setK_ne (by simp), eK21, setK_ne (by simp)]; exact h0) (I' := I25) e25.symm ?_
  refine mw_ret i_24_13 ?_
  refine q K23 I25 R24 ⟨fun L q1 q2 q3 => ⟨by rw [eK23, setK_ne q3, eK21, setK_ne q2], by rw [e25, up2_ne q1, eI23, setI_ne q3, eI21, setI_ne q2], by rw [eR24, up2R_ne q1, eR23, setR_ne q3, eR22, up2R_ne q1, eR21, setR_ne q2]⟩, ⟨(by rw [eK23, setK_ne (by simp), eK21, setK_ne (by simp)]; exact h0), (by rw [eR24, up2R_slot (by decide), eR23, setR_ne (by simp), eR22, up2R_is]), (by rw [eR24, up2R_is]), (by rw [eK23, setK_ne (by simp), eK21, setK_at]), (by rw [eK23, setK_at])⟩, by rw [e25, up2_at, eI23, setI_ne (by simp), eI21, setI_ne (by simp), h0I]⟩
def NM (L : Lb) : Prop := L.1 ≠ 9 ∧ L.1 ≠ 10 ∧ L.1 ≠ 11 ∧ L ≠ CA 1001 ∧ NC 1001 L
def MnQ (K : KM) (I : IM) (R : RM) (K' : KM) (I' : IM) (R' : RM) : Prop := (∀ L, NM L → K' L = K L ∧ I' L = I L ∧ R' L = R L) ∧ K' MEN = some (2, 0) ∧ ∀ k, k < 8 → R' MEN k = some (MN k) ∧ K' (MN k) = some (mnk k, mnl k)
set_option maxRecDepth 20000 in
set_option maxHeartbeats 400000 in
theorem k_Mend0 {d b : Nat} {K : KM} {I : IM} {R : RM} {Q : QT}  (hd : 4 ≤ d) (h0 : K MEN = some (2, 0)) (hN : ∀ k, K (MN k) = none) (hW0 : K RW0 = none) (hC : K (CA 1001) = none) (hM : K (MM 1001) = none) (hT : ∀ j, K (MT 1001 j) = none) (q : ∀ K' I' R', MnQ K I R K' I' R' → Q (.inl none) K' I' R') : Mw d (b + 140) N_X2_init 0 [some (pR (some MEN))] [] K I R Q := by
  obtain ⟨d9, rfl⟩ : ∃ d9, d = d9 + 1 := ⟨d - 1, by omega⟩
  refine mw_aload i_12_0 (L := MEN) rfl ?_
  refine mw_obj i_12_1 (Nat.le_of_ble_eq_true rfl) (by omega) ?_
  refine mw_aload i_12_2 (L := MEN) rfl ?_
  refine mw_const i_12_3 (v := nI 12) (by decide) ?_
  obtain ⟨K21, eK21⟩ : ∃ K21, K21 = setK K (MN 0) (7, 12) := ⟨_, rfl⟩
  obtain ⟨I21, eI21⟩ : ∃ I21, I21 = setI I (MN 0) (fun _ => 0) := ⟨_, rfl⟩
  obtain ⟨R21, eR21⟩ : ∃ R21, R21 = setR R (MN 0) (fun _ => none) := ⟨_, rfl⟩
  refine mw_newa i_12_4 (MN 0) (hN 0) (by decide) (b' := b + 127) (by first | rfl | omega) eK21.symm eI21.symm eR21.symm ?_
  obtain ⟨R22, eR22⟩ : ∃ R22, R22 = up2R R21 MEN 0 (some (MN 0)) := ⟨_, rfl⟩
  refine mw_putR i_12_5 (by rw [eK21, setK_ne (by simp)]; exact h0) (R' := R22) eR22.symm ?_
  refine mw_aload i_12_6 (L := MEN) rfl ?_
  refine mw_const i_12_7 (v := nI 12) (by decide) ?_
  obtain ⟨K23, eK23⟩ : ∃ K23, K23 = setK K21 (MN 1) (8, 12) := ⟨_, rfl⟩
  obtain ⟨I23, eI23⟩ : ∃ I23, I23 = setI I21 (MN 1) (fun _ => 0) := ⟨_, rfl⟩
  obtain ⟨R23, eR23⟩ : ∃ R23, R23 = setR R22 (MN 1) (fun _ => none) := ⟨_, rfl⟩
  refine mw_newa i_12_8 (MN 1) (by rw [eK21, setK_ne (by simp)]; exact (hN 1)) (by decide) (b' := b + 114) (by first | rfl | omega) eK23.symm eI23.symm eR23.symm ?_
  obtain ⟨R24, eR24⟩ : ∃ R24, R24 = up2R R23 MEN 1 (some (MN 1)) := ⟨_, rfl⟩
  refine mw_putR i_12_9 (by rw [eK23, setK_ne (by simp), eK21, setK_ne (by simp)]; exact h0) (R' := R24) eR24.symm ?_
  refine mw_aload i_12_10 (L := MEN) rfl ?_
  refine mw_const i_12_11 (v := nI 4) (by decide) ?_
  obtain ⟨K25, eK25⟩ : ∃ K25, K25 = setK K23 (MN 2) (7, 4) := ⟨_, rfl⟩
  obtain ⟨I25, eI25⟩ : ∃ I25, I25 = setI I23 (MN 2) (fun _ => 0) := ⟨_, rfl⟩
  obtain ⟨R25, eR25⟩ : ∃ R25, R25 = setR R24 (MN 2) (fun _ => none) := ⟨_, rfl⟩
  refine mw_newa i_12_12 (MN 2) (by rw [eK23, setK_ne (by simp), eK21, setK_ne (by simp)]; exact (hN 2)) (by decide) (b' := b + 109) (by first | rfl | omega) eK25.symm eI25.symm eR25.symm ?_
  obtain ⟨R26, eR26⟩ : ∃ R26, R26 = up2R R25 MEN 2 (some (MN 2)) := ⟨_, rfl⟩
  refine mw_putR i_12_13 (by rw [eK25, setK_ne (by simp), eK23, setK_ne (by simp), eK21, setK_ne (by simp)]; exact h0) (R' := R26) eR26.symm ?_
  refine mw_aload i_12_14 (L := MEN) rfl ?_
  refine mw_const i_12_15 (v := nI 4) (by decide) ?_
  obtain ⟨K27, eK27⟩ : ∃ K27, K27 = setK K25 (MN 3) (7, 4) := ⟨_, rfl⟩
  obtain ⟨I27, eI27⟩ : ∃ I27, I27 = setI I25 (MN 3) (fun _ => 0) := ⟨_, rfl⟩
  obtain ⟨R27, eR27⟩ : ∃ R27, R27 = setR R26 (MN 3) (fun _ => none) := ⟨_, rfl⟩
  refine mw_newa i_12_16 (MN 3) (by rw [eK25, setK_ne (by simp), eK23, setK_ne (by simp), eK21, setK_ne (by simp)]; exact (hN 3)) (by decide) (b' := b + 104) (by first | rfl | omega) eK27.symm eI27.symm eR27.symm ?_
  obtain ⟨R28, eR28⟩ : ∃ R28, R28 = up2R R27 MEN 3 (some (MN 3)) := ⟨_, rfl⟩
  refine mw_putR i_12_17 (by rw [eK27, setK_ne (by simp), eK25, setK_ne (by simp), eK23, setK_ne (by simp), eK21, setK_ne (by simp)]; exact h0) (R' := R28) eR28.symm ?_
  refine mw_aload i_12_18 (L := MEN) rfl ?_
  refine mw_const i_12_19 (v := nI 4) (by decide) ?_
  obtain ⟨K29, eK29⟩ : ∃ K29, K29 = setK K27 (MN 4) (7, 4) := ⟨_, rfl⟩
  obtain ⟨I29, eI29⟩ : ∃ I29, I29 = setI I27 (MN 4) (fun _ => 0) := ⟨_, rfl⟩
  obtain ⟨R29, eR29⟩ : ∃ R29, R29 = setR R28 (MN 4) (fun _ => none) := ⟨_, rfl⟩
  refine mw_newa i_12_20 (MN 4) (by rw [eK27, setK_ne (by simp), eK25, setK_ne (by simp), eK23, setK_ne (by simp), eK21, setK_ne (by simp)]; exact (hN 4)) (by decide) (b' := b + 99) (by first | rfl | omega) eK29.symm eI29.symm eR29.symm ?_
  obtain ⟨R30, eR30⟩ : ∃ R30, R30 = up2R R29 MEN 4 (some (MN 4)) := ⟨_, rfl⟩
  refine mw_putR i_12_21 (by rw [eK29, setK_ne (by simp), eK27, setK_ne (by simp), eK25, setK_ne (by simp), eK23, setK_ne (by simp), eK21, setK_ne (by simp)]; exact h0) (R' := R30) eR30.symm ?_
  refine mw_aload i_12_22 (L := MEN) rfl ?_
  refine mw_const i_12_23 (v := nI 10) (by decide) ?_
  obtain ⟨K31, eK31⟩ : ∃ K31, K31 = setK K29 (MN 5) (7, 10) := ⟨_, rfl⟩
  obtain ⟨I31, eI31⟩ : ∃ I31, I31 = setI I29 (MN 5) (fun _ => 0) := ⟨_, rfl⟩
  obtain ⟨R31, eR31⟩ : ∃ R31, R31 = setR R30 (MN 5) (fun _ => none) := ⟨_, rfl⟩
  refine mw_newa i_12_24 (MN 5) (by rw [eK29, setK_ne (by simp), eK27, setK_ne (by simp), eK25, setK_ne (by simp), eK23, setK_ne (by simp), eK21, setK_ne (by simp)]; exact (hN 5)) (by decide) (b' := b + 88) (by first | rfl | omega) eK31.symm eI31.symm eR31.symm ?_
  obtain ⟨R32, eR32⟩ : ∃ R32, R32 = up2R R31 MEN 5 (some (MN 5)) := ⟨_, rfl⟩
  refine mw_putR i_12_25 (by rw [eK31, setK_ne (by simp), eK29, setK_ne (by simp), eK27, setK_ne (by simp), eK25, setK_ne (by simp), eK23, setK_ne (by simp), eK21, setK_ne (by simp)]; exact h0) (R' := R32) eR32.symm ?_
  refine mw_aload i_12_26 (L := MEN) rfl ?_
  refine mw_const i_12_27 (v := nI 10) (by decide) ?_
  obtain ⟨K33, eK33⟩ : ∃ K33, K33 = setK K31 (MN 6) (7, 10) := ⟨_, rfl⟩
  obtain ⟨I33, eI33⟩ : ∃ I33, I33 = setI I31 (MN 6) (fun _ => 0) := ⟨_, rfl⟩
  obtain ⟨R33, eR33⟩ : ∃ R33, R33 = setR R32 (MN 6) (fun _ => none) := ⟨_, rfl⟩
  refine mw_newa i_12_28 (MN 6) (by rw [eK31, setK_ne (by simp), eK29, setK_ne (by simp), eK27, setK_ne (by simp), eK25, setK_ne (by simp), eK23, setK_ne (by simp), eK21, setK_ne (by simp)]; exact (hN 6)) (by decide) (b' := b + 77) (by first | rfl | omega) eK33.symm eI33.symm eR33.symm ?_
  obtain ⟨R34, eR34⟩ : ∃ R34, R34 = up2R R33 MEN 6 (some (MN 6)) := ⟨_, rfl⟩
  refine mw_putR i_12_29 (by rw [eK33, setK_ne (by simp), eK31, setK_ne (by simp), eK29, setK_ne (by simp), eK27, setK_ne (by simp), eK25, setK_ne (by simp), eK23, setK_ne (by simp), eK21, setK_ne (by simp)]; exact h0) (R' := R34) eR34.symm ?_
  refine mw_aload i_12_30 (L := MEN) rfl ?_
  refine mw_const i_12_31 (v := nI 10) (by decide) ?_
  obtain ⟨K35, eK35⟩ : ∃ K35, K35 = setK K33 (MN 7) (8, 10) := ⟨_, rfl⟩
  obtain ⟨I35, eI35⟩ : ∃ I35, I35 = setI I33 (MN 7) (fun _ => 0) := ⟨_, rfl⟩
  obtain ⟨R35, eR35⟩ : ∃ R35, R35 = setR R34 (MN 7) (fun _ => none) := ⟨_, rfl⟩
  refine mw_newa i_12_32 (MN 7) (by rw [eK33, setK_ne (by simp), eK31, setK_ne (by simp), eK29, setK_ne (by simp), eK27, setK_ne (by simp), eK25, setK_ne (by simp), eK23, setK_ne (by simp), eK21, setK_ne (by simp)]; exact (hN 7)) (by decide) (b' := b + 66) (by first | rfl | omega) eK35.symm eI35.symm eR35.symm ?_
  obtain ⟨R36, eR36⟩ : ∃ R36, R36 = up2R R35 MEN 7 (some (MN 7)) := ⟨_, rfl⟩
  refine mw_putR i_12_33 (by rw [eK35, setK_ne (by simp), eK33, setK_ne (by simp), eK31, setK_ne (by simp), eK29, setK_ne (by simp), eK27, setK_ne (by simp), eK25, setK_ne (by simp), eK23, setK_ne (by simp), eK21, setK_ne (by simp)]; exact h0) (R' := R36) eR36.symm ?_
  refine mw_aload i_12_34 (L := MEN) rfl ?_
  refine mw_const i_12_35 (v := nI 0) (by decide) ?_
  obtain ⟨K37, eK37⟩ : ∃ K37, K37 = setK K35 RW0 (12, 0) := ⟨_, rfl⟩
  obtain ⟨I37, eI37⟩ : ∃ I37, I37 = setI I35 RW0 (fun _ => 0) := ⟨_, rfl⟩
  obtain ⟨R37, eR37⟩ : ∃ R37, R37 = setR R36 RW0 (fun _ => none) := ⟨_, rfl⟩
  refine mw_newq i_12_36 (RW0) (by rw [eK35, setK_ne (by simp), eK33, setK_ne (by simp), eK31, setK_ne (by simp), eK29, setK_ne (by simp), eK27, setK_ne (by simp), eK25, setK_ne (by simp), eK23, setK_ne (by simp), eK21, setK_ne (by simp)]; exact hW0) (by decide) (b' := b + 65) (by first | rfl | omega) eK37.symm eI37.symm eR37.symm ?_
  obtain ⟨R38, eR38⟩ : ∃ R38, R38 = up2R R37 MEN 8 (some RW0) := ⟨_, rfl⟩
  refine mw_putR i_12_37 (by rw [eK37, setK_ne (by simp), eK35, setK_ne (by simp), eK33, setK_ne (by simp), eK31, setK_ne (by simp), eK29, setK_ne (by simp), eK27, setK_ne (by simp), eK25, setK_ne (by simp), eK23, setK_ne (by simp), eK21, setK_ne (by simp)]; exact h0) (R' := R38) eR38.symm ?_
  refine mw_aload i_12_38 (L := MEN) rfl ?_
  obtain ⟨K39, eK39⟩ : ∃ K39, K39 = setK K37 (CA 1001) (0, 0) := ⟨_, rfl⟩
  obtain ⟨I39, eI39⟩ : ∃ I39, I39 = setI I37 (CA 1001) (fun _ => 0) := ⟨_, rfl⟩
  obtain ⟨R39, eR39⟩ : ∃ R39, R39 = setR R38 (CA 1001) (fun _ => none) := ⟨_, rfl⟩
  refine mw_new i_12_39 (CA 1001) (by rw [eK37, setK_ne (by simp), eK35, setK_ne (by simp), eK33, setK_ne (by simp), eK31, setK_ne (by simp), eK29, setK_ne (by simp), eK27, setK_ne (by simp), eK25, setK_ne (by simp), eK23, setK_ne (by simp), eK21, setK_ne (by simp)]; exact hC) (b' := b + 60) (by first | rfl | omega) eK39.symm eI39.symm eR39.symm ?_
  refine mw_dup i_12_40 trivial ?_
  have hk0 : K39 (CA 1001) = some (0, 0) := (by rw [eK39, setK_at])
  have hfr : ∀ L, NM L → K39 L = K L ∧ I39 L = I L ∧ R39 L = R L := fun L q => ⟨by rw [eK39, setK_ne q.2.2.2.1, eK37, setK_ne (fun e => q.2.2.1 (by rw [e])), eK35, setK_ne (fun e => q.2.1 (by rw [e])), eK33, setK_ne (fun e => q.2.1 (by rw [e])), eK31, setK_ne (fun e => q.2.1 (by rw [e])), eK29, setK_ne (fun e => q.2.1 (by rw [e])), eK27, setK_ne (fun e => q.2.1 (by rw [e])), eK25, setK_ne (fun e => q.2.1 (by rw [e])), eK23, setK_ne (fun e => q.2.1 (by rw [e])), eK21, setK_ne (fun e => q.2.1 (by rw [e]))], by rw [eI39, setI_ne q.2.2.2.1, eI37, setI_ne (fun e => q.2.2.1 (by rw [e])), eI35, setI_ne (fun e => q.2.1 (by rw [e])), eI33, setI_ne (fun e => q.2.1 (by rw [e])), eI31, setI_ne (fun e => q.2.1 (by rw [e])), eI29, setI_ne (fun e => q.2.1 (by rw [e])), eI27, setI_ne (fun e => q.2.1 (by rw [e])), eI25, setI_ne (fun e => q.2.1 (by rw [e])), eI23, setI_ne (fun e => q.2.1 (by rw [e])), eI21, setI_ne (fun e => q.2.1 (by rw [e]))], by rw [eR39, setR_ne q.2.2.2.1, eR38, up2R_ne (fun e => q.1 (by rw [e])), eR37, setR_ne (fun e => q.2.2.1 (by rw [e])), eR36, up2R_ne (fun e => q.1 (by rw [e])), eR35, setR_ne (fun e => q.2.1 (by rw [e])), eR34, up2R_ne (fun e => q.1 (by rw [e])), eR33, setR_ne (fun e => q.2.1 (by rw [e])), eR32, up2R_ne (fun e => q.1 (by rw [e])), eR31, setR_ne (fun e => q.2.1 (by rw [e])), eR30, up2R_ne (fun e => q.1 (by rw [e])), eR29, setR_ne (fun e => q.2.1 (by rw [e])), eR28, up2R_ne (fun e => q.1 (by rw [e])), eR27, setR_ne (fun e => q.2.1 (by rw [e])), eR26, up2R_ne (fun e => q.1 (by rw [e])), eR25, setR_ne (fun e => q.2.1 (by rw [e])), eR24, up2R_ne (fun e => q.1 (by rw [e])), eR23, setR_ne (fun e => q.2.1 (by rw [e])), eR22, up2R_ne (fun e => q.1 (by rw [e])), eR21, setR_ne (fun e => q.2.1 (by rw [e]))]⟩
  have hk7 : K39 MEN = some (2, 0) := (by rw [eK39, setK_ne (by simp), eK37, setK_ne (by simp), eK35, setK_ne (by simp), eK33, setK_ne (by simp), eK31, setK_ne (by simp), eK29, setK_ne (by simp), eK27, setK_ne (by simp), eK25, setK_ne (by simp), eK23, setK_ne (by simp), eK21, setK_ne (by simp)]; exact h0)
  have hm0 : R39 MEN 0 = some (MN 0) ∧ K39 (MN 0) = some (mnk 0, mnl 0) := ⟨(by rw [eR39, setR_ne (by simp), eR38, up2R_slot (by decide), eR37, setR_ne (by simp), eR36, up2R_slot (by decide), eR35, setR_ne (by simp), eR34, up2R_slot (by decide), eR33, setR_ne (by simp), eR32, up2R_slot (by decide), eR31, setR_ne (by simp), eR30, up2R_slot (by decide), eR29, setR_ne (by simp), eR28, up2R_slot (by decide), eR27, setR_ne (by simp), eR26, up2R_slot (by decide), eR25, setR_ne (by simp), eR24, up2R_slot (by decide), eR23, setR_ne (by simp), eR22, up2R_is]), (by rw [eK39, setK_ne (by simp), eK37, setK_ne (by simp), eK35, setK_ne (by simp), eK33, setK_ne (by simp), eK31, setK_ne (by simp), eK29, setK_ne (by simp), eK27, setK_ne (by simp), eK25, setK_ne (by simp), eK23, setK_ne (by simp), eK21, setK_at]; rfl)⟩
  have hm1 : R39 MEN 1 = some (MN 1) ∧ K39 (MN 1) = some (mnk 1, mnl 1) := ⟨(by rw [eR39, setR_ne (by simp), eR38, up2R_slot (by decide), eR37, setR_ne (by simp), eR36, up2R_slot (by decide), eR35, setR_ne (by simp), eR34, up2R_slot (by decide), eR33, setR_ne (by simp), eR32, up2R_slot (by decide), eR31, setR_ne (by simp), eR30, up2R_slot (by decide), eR29, setR_ne (by simp), eR28, up2R_slot (by decide), eR27, setR_ne (by simp), eR26, up2R_slot (by decide), eR25, setR_ne (by simp), eR24, up2R_is]), (by rw [eK39, setK_ne (by simp), eK37, setK_ne (by simp), eK35, setK_ne (by simp), eK33, setK_ne (by simp), eK31, setK_ne (by simp), eK29, setK_ne (by simp), eK27, setK_ne (by simp), eK25, setK_ne (by simp), eK23, setK_at]; rfl)⟩
  have hm2 : R39 MEN 2 = some (MN 2) ∧ K39 (MN 2) = some (mnk 2, mnl 2) := ⟨(by rw [eR39, setR_ne (by simp), eR38, up2R_slot (by decide), eR37, setR_ne (by simp), eR36, up2R_slot (by decide), eR35, setR_ne (by simp), eR34, up2R_slot (by decide), eR33, setR_ne (by simp), eR32, up2R_slot (by decide), eR31, setR_ne (by simp), eR30, up2R_slot (by decide), eR29, setR_ne (by simp), eR28, up2R_slot (by decide), eR27, setR_ne (by simp), eR26, up2R_is]), (by rw [eK39, setK_ne (by simp), eK37, setK_ne (by simp), eK35, setK_ne (by simp), eK33, setK_ne (by simp), eK31, setK_ne (by simp), eK29, setK_ne (by simp), eK27, setK_ne (by simp), eK25, setK_at]; rfl)⟩
  have hm3 : R39 MEN 3 = some (MN 3) ∧ K39 (MN 3) = some (mnk 3, mnl 3) := ⟨(by rw [eR39, setR_ne (by simp), eR38, up2R_slot (by decide), eR37, setR_ne (by simp), eR36, up2R_slot (by decide), eR35, setR_ne (by simp), eR34, up2R_slot (by decide), eR33, setR_ne (by simp), eR32, up2R_slot (by decide), eR31, setR_ne (by simp), eR30, up2R_slot (by decide), eR29, setR_ne (by simp), eR28, up2R_is]), (by rw [eK39, setK_ne (by simp), eK37, setK_ne (by simp), eK35, setK_ne (by simp), eK33, setK_ne (by simp), eK31, setK_ne (by simp), eK29, setK_ne (by simp), eK27, setK_at]; rfl)⟩
  have hm4 : R39 MEN 4 = some (MN 4) ∧ K39 (MN 4) = some (mnk 4, mnl 4) := ⟨(by rw [eR39, setR_ne (by simp), eR38, up2R_slot (by decide), eR37, setR_ne (by simp), eR36, up2R_slot (by decide), eR35, setR_ne (by simp), eR34, up2R_slot (by decide), eR33, setR_ne (by simp), eR32, up2R_slot (by decide), eR31, setR_ne (by simp), eR30, up2R_is]), (by rw [eK39, setK_ne (by simp), eK37, setK_ne (by simp), eK35, setK_ne (by simp), eK33, setK_ne (by simp), eK31, setK_ne (by simp), eK29, setK_at]; rfl)⟩
  have hm5 : R39 MEN 5 = some (MN 5) ∧ K39 (MN 5) = some (mnk 5, mnl 5) := ⟨(by rw [eR39, setR_ne (by simp), eR38, up2R_slot (by decide), eR37, setR_ne (by simp), eR36, up2R_slot (by decide), eR35, setR_ne (by simp), eR34, up2R_slot (by decide), eR33, setR_ne (by simp), eR32, up2R_is]), (by rw [eK39, setK_ne (by simp), eK37, setK_ne (by simp), eK35, setK_ne (by simp), eK33, setK_ne (by simp), eK31, setK_at]; rfl)⟩
  have hm6 : R39 MEN 6 = some (MN 6) ∧ K39 (MN 6) = some (mnk 6, mnl 6) := ⟨(by rw [eR39, setR_ne (by simp), eR38, up2R_slot (by decide), eR37, setR_ne (by simp), eR36, up2R_slot (by decide), eR35, setR_ne (by simp), eR34, up2R_is]), (by rw [eK39, setK_ne (by simp), eK37, setK_ne (by simp), eK35, setK_ne (by simp), eK33, setK_at]; rfl)⟩
  have hm7 : R39 MEN 7 = some (MN 7) ∧ K39 (MN 7) = some (mnk 7, mnl 7) := ⟨(by rw [eR39, setR_ne (by simp), eR38, up2R_slot (by decide), eR37, setR_ne (by simp), eR36, up2R_is]), (by rw [eK39, setK_ne (by simp), eK37, setK_ne (by simp), eK35, setK_at]; rfl)⟩
  refine mw_callI i_12_41 mf_0 (as := []) (rest := [pR (some (CA 1001)), pR (some MEN)]) (d' := d9) (b' := b + 11) (ls0 := [some (pR (some (CA 1001))), none]) rfl rfl rfl (Nat.le_of_ble_eq_true rfl) (by rw [eK39, setK_at]) rfl (by omega) rfl ?_
  refine k_Cinit (b := 0) (c := 1001) (by omega) hk0 (by rw [eK39, setK_ne (by simp), eK37, setK_ne (by simp), eK35, setK_ne (by simp), eK33, setK_ne (by simp), eK31, setK_ne (by simp), eK29, setK_ne (by simp), eK27, setK_ne (by simp), eK25, setK_ne (by simp), eK23, setK_ne (by simp), eK21, setK_ne (by simp)]; exact hM) (fun j => (by rw [eK39, setK_ne (by simp), eK37, setK_ne (by simp), eK35, setK_ne (by simp), eK33, setK_ne (by simp), eK31, setK_ne (by simp), eK29, setK_ne (by simp), eK27, setK_ne (by simp), eK25, setK_ne (by simp), eK23, setK_ne (by simp), eK21, setK_ne (by simp)]; exact (hT j))) (fun K' I' R' hci => ?_)
  have hk9 : K' MEN = some (2, 0) := ((hci.1 MEN (NC_lt (by show 9 < 20; decide))).1).trans hk7
  have hk8 : K' (CA 1001) = some (0, 0) := ((hci.1 (CA 1001) NC_CA).1).trans hk0
  refine ⟨⟨_, rfl⟩, aft_n ?_⟩
  obtain ⟨R40, eR40⟩ : ∃ R40, R40 = up2R R' MEN 9 (some (CA 1001)) := ⟨_, rfl⟩
  refine mw_putR i_12_42 hk9 (R' := R40) eR40.symm ?_
  refine mw_ret i_12_43 ?_
  have hz : ∀ k, k < 8 → (R39 MEN k = some (MN k) ∧ K39 (MN k) = some (mnk k, mnl k)) → R40 MEN k = some (MN k) ∧ K' (MN k) = some (mnk k, mnl k) := fun k hk hm => ⟨by rw [eR40, up2R_slot (by omega), hci.2.1 MEN (NC_lt (by show 9 < 20; decide)) (by simp)]; exact hm.1, ((hci.1 (MN k) (NC_lt (by show 10 < 20; decide))).1).trans hm.2⟩
  refine q K' I' R40 ⟨fun L q => ⟨((hci.1 L q.2.2.2.2).1).trans (hfr L q).1, ((hci.1 L q.2.2.2.2).2).trans (hfr L q).2.1, by rw [eR40, up2R_ne (fun e => q.1 (by rw [e])), hci.2.1 L q.2.2.2.2 q.2.2.2.1]; exact (hfr L q).2.2⟩, hk9, fun k hk => ?_⟩
  match k, hk with
  | 0, _ => exact hz 0 (by omega) hm0
  | 1, _ => exact hz 1 (by omega) hm1
  | 2, _ => exact hz 2 (by omega) hm2
  | 3, _ => exact hz 3 (by omega) hm3
  | 4, _ => exact hz 4 (by omega) hm4
  | 5, _ => exact hz 5 (by omega) hm5
  | 6, _ => exact hz 6 (by omega) hm6
  | 7, _ => exact hz 7 (by omega) hm7
