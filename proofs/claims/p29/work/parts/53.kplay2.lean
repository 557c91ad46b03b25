/-! the class plays a match: titles, the whole match -/
theorem cnt_congr {p q : Nat → Prop} {n : Nat} (h : ∀ k, k < n → (p k ↔ q k)) : cnt p n = cnt q n := by
  induction n with
  | zero => rfl
  | succ n ih =>
    by_cases hp : p n
    · rw [cnt_t hp, cnt_t ((h n (by omega)).mp hp), ih (fun k hk => h k (by omega))]
    · rw [cnt_f hp, cnt_f (fun q2 => hp ((h n (by omega)).mpr q2)), ih (fun k hk => h k (by omega))]
def lnO (σ : ST) (t : Nat) : Nat := (σ 17 t).toNatClampNeg
noncomputable def hnd (σ : ST) (t : Nat) (x0 x1 wn : Int32) : ST := @ite _ ((chO σ t = (-1) ∨ chO σ t = x0 ∨ chO σ t = x1) ∧ ¬ chO σ t = wn) (Classical.propDecidable _) (crn σ t (lnO σ t) wn (σ 0 0)) σ
noncomputable def hndI (σ : ST) (ti x0 x1 wn : Int32) : ST := @ite _ (ti = (-1)) (Classical.propDecidable _) σ (hnd σ ti.toNatClampNeg x0 x1 wn)
noncomputable def trS (σ : ST) (w : Nat) : ST := ups σ 3 w (trn (σ 3 w) (cnt (fun t => nI 50 ≤ σ 4 (10 * t + w)) 4) (cnt (fun t => σ 4 (10 * t + w) ≤ (-50)) 4))
theorem RC_turn {σ : ST} {I : IM} {R : RM} (h : RC σ I R) {w : Nat} (hw : w < 10) : RC (trS σ w) (up2 I (WR w) 5 (trn (I (WR w) 5) (cnt (fun t => nI 50 ≤ I (LV w) t) 4) (cnt (fun t => I (LV w) t ≤ (-50)) 4))) R := by
  have hr := RC_rd h hw
  have e1 : cnt (fun t => nI 50 ≤ I (LV w) t) 4 = cnt (fun t => nI 50 ≤ σ 4 (10 * t + w)) 4 := cnt_congr (fun k hk => by rw [hr.2.2.2.2.2.2.2.2.2.2.1 k hk])
  have e2 : cnt (fun t => I (LV w) t ≤ (-50)) 4 = cnt (fun t => σ 4 (10 * t + w) ≤ (-50)) 4 := cnt_congr (fun k hk => by rw [hr.2.2.2.2.2.2.2.2.2.2.1 k hk])
  rw [e1, e2, hr.2.2.1]
  exact RC_role h _
def adS (σ : ST) (k w : Nat) (v : Int32) : ST := ups σ k w (σ k w + v)
theorem RC_realI {σ : ST} {I : IM} {R : RM} (h : RC σ I R) {w : Nat} (hw : w < 10) (v : Int32) : RC (adS σ 9 w v) (up2 I (WR w) 11 (I (WR w) 11 + v)) R := by
  rw [(RC_rd h hw).2.2.2.2.2.2.2.2.1]; exact RC_real h _
theorem RC_strainI {σ : ST} {I : IM} {R : RM} (h : RC σ I R) {w : Nat} (hw : w < 10) (v : Int32) : RC (adS σ 5 w v) (up2 I (WR w) 6 (I (WR w) 6 + v)) R := by
  rw [(RC_rd h hw).2.2.2.1]; exact RC_strain h _
theorem RC_gateI {σ : ST} {I : IM} {R : RM} (h : RC σ I R) {t : Nat} (ht : t < 4) (v : Int32) : RC (adS σ 23 t v) (up2 I GAT t (I GAT t + v)) R := by
  rw [h.2.1 t ht]; exact RC_gate h _
/-- the lineages are short enough -/
def LN (σ : ST) : Prop := ∀ t, t < 4 → σ 17 t = nI (lnO σ t) ∧ lnO σ t ≤ 512
theorem LN_eq {σ σ' : ST} (h : LN σ) (e : σ' 17 = σ 17) : LN σ' := fun t ht => by
  unfold lnO
  rw [e]
  exact h t ht
set_option maxRecDepth 20000 in
set_option maxHeartbeats 400000 in
theorem k_hand0 {d b : Nat} {K : KM} {I : IM} {R : RM} {Q : QT} {σ : ST} {c j : Nat} (hd : 2 ≤ d) (hS : CS0 K R) (hT : K (MT c j) = some (1, 0)) (hR : RC σ I R) (h4 : I (MT c j) 4 = (-1)) (q : ∀ I', FrT I I' → RC (σ) I' R → Q (.inl none) K I' R) : Mw d b N_X5_handOver 0 [some (pR (some RING)), some (pR (some (MT c j))), none] [] K I R Q := by
  obtain ⟨d9, rfl⟩ : ∃ d9, d = d9 + 1 := ⟨d - 1, by omega⟩
  refine mw_aload i_71_0 (L := MT c j) rfl ?_
  refine mw_get i_71_1 hT (v := (-1)) h4 ?_
  refine mw_const i_71_2 (v := (-1)) (by decide) ?_
  refine mw_ic i_71_3 (p := (-1) = (-1)) Iff.rfl (fun c1 => ?_) (fun c1 => ?_)
  · skip
    refine mw_ret i_71_13 ?_
    exact q _ FrT_rfl hR
  · skip
    exact absurd rfl c1
set_option maxRecDepth 20000 in
set_option maxHeartbeats 400000 in
theorem k_hand1 {d b : Nat} {K : KM} {I : IM} {R : RM} {Q : QT} {σ : ST} {c j t : Nat} {x0 x1 wn : Int32} (hd : 2 ≤ d) (hS : CS0 K R) (hT : K (MT c j) = some (1, 0)) (hR : RC σ I R) (hLN : LN σ) (ht : t < 4) (hl5 : lnO σ t < 512) (h0 : I (MT c j) 0 = x0) (h1 : I (MT c j) 1 = x1) (hwn : (if I (MT c j) 2 = nI 0 then I (MT c j) 1 else I (MT c j) 0) = wn) (h4 : I (MT c j) 4 = nI t) (q : ∀ I', FrT I I' → RC (hnd σ t x0 x1 wn) I' R → Q (.inl none) K I' R) : Mw d b N_X5_handOver 0 [some (pR (some RING)), some (pR (some (MT c j))), none] [] K I R Q := by
  obtain ⟨d9, rfl⟩ : ∃ d9, d = d9 + 1 := ⟨d - 1, by omega⟩
  have hl2 := (hLN t ht).1
  have hl : I (TT t) 2 = nI (lnO σ t) := (hR.2.2.2.1 t ht).1.trans hl2
  have hch : I (TT t) 3 = chO σ t := (hR.2.2.2.1 t ht).2.1
  refine mw_aload i_71_0 (L := MT c j) rfl ?_
  refine mw_get i_71_1 hT (v := nI t) h4 ?_
  refine mw_const i_71_2 (v := (-1)) (by decide) ?_
  refine mw_ic i_71_3 (p := (nI t) = (-1)) Iff.rfl (fun c1 => ?_) (fun c1 => ?_)
  · skip
    exact absurd c1 (nI_nm1 (by omega))
  · skip
    refine mw_aload i_71_4 (L := RING) rfl ?_
    refine mw_aload i_71_5 (L := MT c j) rfl ?_
    refine mw_get i_71_6 hT (v := nI t) h4 ?_
    refine mw_aload i_71_7 (L := MT c j) rfl ?_
    refine mw_get i_71_8 hT (v := x0) h0 ?_
    refine mw_aload i_71_9 (L := MT c j) rfl ?_
    refine mw_get i_71_10 hT (v := x1) h1 ?_
    refine mw_callV i_71_11 mf_65 (as := [pI (nI t), pI x0, pI x1]) (rest := []) (d' := d9) (b' := b) (ls0 := [some (pR (some RING)), some (pI (nI t)), some (pI x0), some (pI x1), none]) rfl rfl rfl (Nat.le_of_ble_eq_true rfl) hS.1.1 rfl rfl rfl ?_
    refine k_stake hS ht ?_
    refine aft_v ?_
    refine mw_neB i_71_12 rfl (fun c2 => ?_) (fun c2 => ?_)
    · skip
      refine mw_aload i_71_14 (L := RING) rfl ?_
      refine mw_getR i_71_15 hS.1.1 (q := some TIT) hS.1.2.2.1 ?_
      refine mw_aload i_71_16 (L := MT c j) rfl ?_
      refine mw_get i_71_17 hT (v := nI t) h4 ?_
      refine mw_aald i_71_18 (jn := t) (n := 4) (by omega) (by omega) hS.2.1.2.1 (by decide) (q := some (TT t)) (hS.2.2.2.1 t (by omega)).1 ?_
      refine mw_astore i_71_19 (ls' := [some (pR (some RING)), some (pR (some (MT c j))), some (pR (some (TT t)))]) rfl (Nat.le_of_ble_eq_true rfl) ?_
      refine mw_aload i_71_20 (L := TT t) rfl ?_
      refine mw_get i_71_21 (hS.2.2.2.1 t (by omega)).2.1 (v := chO σ t) hch ?_
      refine mw_aload i_71_22 (L := MT c j) rfl ?_
      refine mw_callV i_71_23 mf_10 (as := []) (rest := [pI (chO σ t)]) (d' := d9) (b' := b) (ls0 := [some (pR (some (MT c j)))]) rfl rfl rfl (Nat.le_of_ble_eq_true rfl) hT rfl rfl rfl ?_
      refine k_winner hT ?_
      rw [hwn]
      refine aft_v ?_
      refine mw_ic i_71_24 (p := (chO σ t) = wn) Iff.rfl (fun c3 => ?_) (fun c3 => ?_)
      · skip
        refine mw_ret i_71_31 ?_
        refine q _ FrT_rfl ?_
        unfold hnd
        rw [if_neg (fun h => h.2 c3)]
        exact hR
      · skip
        refine mw_aload i_71_25 (L := TT t) rfl ?_
        refine mw_aload i_71_26 (L := MT c j) rfl ?_
        refine mw_callV i_71_27 mf_10 (as := []) (rest := [pR (some (TT t))]) (d' := d9) (b' := b) (ls0 := [some (pR (some (MT c j)))]) rfl rfl rfl (Nat.le_of_ble_eq_true rfl) hT rfl rfl rfl ?_
        refine k_winner hT ?_
        rw [hwn]
        refine aft_v ?_
        refine mw_aload i_71_28 (L := RING) rfl ?_
        refine mw_get i_71_29 hS.1.1 (v := I RING 8) rfl ?_
        refine mw_callV i_71_30 mf_25 (as := [pI wn, pI (I RING 8)]) (rest := []) (d' := d9) (b' := b) (ls0 := [some (pR (some (TT t))), some (pI wn), some (pI (I RING 8))]) rfl rfl rfl (Nat.le_of_ble_eq_true rfl) (hS.2.2.2.1 t (by omega)).2.1 rfl rfl rfl ?_
        refine k_goTo (t := t) (l := lnO σ t) (x := wn) (y := I RING 8) hS ht hl hl5 ?_
        refine aft_n ?_
        refine mw_ret i_71_31 ?_
        refine q _ (FrT_up (FrT_up (FrT_up (FrT_up FrT_rfl (Nat.le_of_ble_eq_true rfl) (Nat.le_of_ble_eq_true rfl)) (Nat.le_of_ble_eq_true rfl) (Nat.le_of_ble_eq_true rfl)) (Nat.le_of_ble_eq_true rfl) (Nat.le_of_ble_eq_true rfl)) (Nat.le_of_ble_eq_true rfl) (Nat.le_of_ble_eq_true rfl)) ?_
        rw [hch] at c2
        unfold hnd
        rw [if_pos ⟨c2, c3⟩, ← hR.1.2.2]
        exact RC_crown hR ht hl2 hl5 (fun q hq => (hLN q hq).2) _ _
    · skip
      refine mw_ret i_71_13 ?_
      refine q _ FrT_rfl ?_
      rw [hch] at c2
      unfold hnd
      rw [if_neg (fun h => c2 h.1)]
      exact hR
theorem k_hand {d b : Nat} {K : KM} {I : IM} {R : RM} {Q : QT} {σ : ST} {c j : Nat} {x0 x1 wn ti : Int32} (hd : 2 ≤ d) (hS : CS0 K R) (hT : K (MT c j) = some (1, 0)) (hR : RC σ I R) (hLN : LN σ) (hti : ti = (-1) ∨ isN ti 4) (hl5 : ∀ t, t < 4 → ti = nI t → lnO σ t < 512) (h0 : I (MT c j) 0 = x0) (h1 : I (MT c j) 1 = x1) (hwn : (if I (MT c j) 2 = nI 0 then I (MT c j) 1 else I (MT c j) 0) = wn) (h4 : I (MT c j) 4 = ti) (q : ∀ I', FrT I I' → RC (hndI σ ti x0 x1 wn) I' R → Q (.inl none) K I' R) : Mw d b N_X5_handOver 0 [some (pR (some RING)), some (pR (some (MT c j))), none] [] K I R Q := by
  rcases hti with rfl | ⟨t, ht, rfl⟩
  · refine k_hand0 hd hS hT hR h4 (fun I' hF hr => q I' hF ?_)
    unfold hndI
    rw [if_pos rfl]
    exact hr
  · refine k_hand1 hd hS hT hR hLN ht (hl5 t ht rfl) h0 h1 hwn h4 (fun I' hF hr => q I' hF ?_)
    unfold hndI
    rw [if_neg (nI_nm1 (by omega)), nI_clamp (by omega)]
    exact hr
def wrt (σ : ST) (t w : Nat) : Int32 := wth (σ 1 w) (σ 4 (10 * t + w)) (σ 5 w)
/-- a match is played, but for the gate -/
noncomputable def pmS (σ : ST) (t f s wi lo : Nat) (m ti re : Int32) : ST :=
  let a := if re = nI 0 then win σ t wi lo else adS (adS σ 9 f (nI 1)) 9 s (nI 1)
  let b := adS (adS a 5 f m) 5 s m
  let c := if re = nI 0 then hndI b ti (nI f) (nI s) (nI wi) else b
  trS (trS c f) s
theorem win_17 {σ : ST} {t wi lo : Nat} : win σ t wi lo 17 = σ 17 := by
  unfold win lov win0
  split
  · rw [ups_ne (by decide), ups_ne (by decide), ups_ne (by decide), ups_ne (by decide)]
  · rw [ups_ne (by decide), ups_ne (by decide), ups_ne (by decide), ups_ne (by decide)]
set_option maxRecDepth 20000 in
set_option maxHeartbeats 400000 in
theorem k_pmR {d b : Nat} {K : KM} {I : IM} {R : RM} {Q : QT} {σ : ST} {c j f s t wi lo : Nat} {m ti : Int32} (hd : 3 ≤ d) (hS : CS0 K R) (hT : K (MT c j) = some (1, 0)) (hR : RC σ I R) (hLN : LN σ) (hf : f < 10) (hs : s < 10) (ht : t < 4) (hwi : wi < 10) (hlo : lo < 10) (hti : ti = (-1) ∨ isN ti 4) (hl5 : ∀ q, q < 4 → ti = nI q → lnO σ q < 512) (h0 : I (MT c j) 0 = nI f) (h1 : I (MT c j) 1 = nI s) (hwn : (if I (MT c j) 2 = nI 0 then I (MT c j) 1 else I (MT c j) 0) = nI wi) (hlx : (if I (MT c j) 2 = nI 0 then I (MT c j) 0 else I (MT c j) 1) = nI lo) (h3 : I (MT c j) 3 = m) (h4 : I (MT c j) 4 = ti) (h5 : I (MT c j) 5 = nI 1) (q : ∀ I' v, FrC I I' → v = wrt σ t f + wrt σ t s → RC (pmS (adS σ 23 t (wrt σ t f + wrt σ t s)) t f s wi lo m ti (nI 1)) I' R → Q (.inl (some (pI v))) K I' R) : Mw d b N_X5_playMatch 0 [some (pR (some RING)), some (pR (some (MT c j))), some (pI (nI t)), none, none, none] [] K I R Q := by
  obtain ⟨d9, rfl⟩ : ∃ d9, d = d9 + 1 := ⟨d - 1, by omega⟩
  refine mw_aload i_69_0 (L := RING) rfl ?_
  refine mw_getR i_69_1 hS.1.1 (q := some ROS) hS.1.2.1 ?_
  refine mw_aload i_69_2 (L := MT c j) rfl ?_
  refine mw_get i_69_3 hT (v := nI f) h0 ?_
  refine mw_aald i_69_4 (jn := f) (n := 10) (by omega) (by omega) hS.2.1.1 (by decide) (q := some (WR f)) (hS.2.2.1 f (by omega)).1 ?_
  refine mw_astore i_69_5 (ls' := [some (pR (some RING)), some (pR (some (MT c j))), some (pI (nI t)), some (pR (some (WR f))), none, none]) rfl (Nat.le_of_ble_eq_true rfl) ?_
  refine mw_aload i_69_6 (L := RING) rfl ?_
  refine mw_getR i_69_7 hS.1.1 (q := some ROS) hS.1.2.1 ?_
  refine mw_aload i_69_8 (L := MT c j) rfl ?_
  refine mw_get i_69_9 hT (v := nI s) h1 ?_
  refine mw_aald i_69_10 (jn := s) (n := 10) (by omega) (by omega) hS.2.1.1 (by decide) (q := some (WR s)) (hS.2.2.1 s (by omega)).1 ?_
  refine mw_astore i_69_11 (ls' := [some (pR (some RING)), some (pR (some (MT c j))), some (pI (nI t)), some (pR (some (WR f))), some (pR (some (WR s))), none]) rfl (Nat.le_of_ble_eq_true rfl) ?_
  refine mw_aload i_69_12 (L := WR f) rfl ?_
  refine mw_iload i_69_13 (x := nI t) rfl ?_
  refine mw_callV i_69_14 mf_29 (as := [pI (nI t)]) (rest := []) (d' := d9) (b' := b) (ls0 := [some (pR (some (WR f))), some (pI (nI t))]) rfl rfl rfl (Nat.le_of_ble_eq_true rfl) (hS.2.2.1 f (by omega)).2.1 rfl rfl rfl ?_
  refine k_worthIn (by omega) hS (by omega) ht ?_
  refine aft_v ?_
  refine mw_aload i_69_15 (L := WR s) rfl ?_
  refine mw_iload i_69_16 (x := nI t) rfl ?_
  refine mw_callV i_69_17 mf_29 (as := [pI (nI t)]) (rest := [pI (wth (I (WR f) 3) (I (LV f) t) (I (WR f) 6))]) (d' := d9) (b' := b) (ls0 := [some (pR (some (WR s))), some (pI (nI t))]) rfl rfl rfl (Nat.le_of_ble_eq_true rfl) (hS.2.2.1 s (by omega)).2.1 rfl rfl rfl ?_
  refine k_worthIn (by omega) hS (by omega) ht ?_
  refine aft_v ?_
  refine mw_iadd i_69_18 (w := ((wth (I (WR f) 3) (I (LV f) t) (I (WR f) 6)) + (wth (I (WR s) 3) (I (LV s) t) (I (WR s) 6)))) rfl ?_
  refine mw_istore i_69_19 (ls' := [some (pR (some RING)), some (pR (some (MT c j))), some (pI (nI t)), some (pR (some (WR f))), some (pR (some (WR s))), some (pI ((wth (I (WR f) 3) (I (LV f) t) (I (WR f) 6)) + (wth (I (WR s) 3) (I (LV s) t) (I (WR s) 6))))]) rfl (Nat.le_of_ble_eq_true rfl) ?_
  refine mw_aload i_69_20 (L := RING) rfl ?_
  refine mw_getR i_69_21 hS.1.1 (q := some GAT) hS.1.2.2.2.2.2.1 ?_
  refine mw_iload i_69_22 (x := nI t) rfl ?_
  refine mw_dup2 i_69_23 trivial trivial ?_
  refine mw_iald i_69_24 (jn := t) (n := 4) (by omega) (by omega) hS.2.1.2.2.2.1 (by decide) (v := I GAT t) rfl ?_
  refine mw_iload i_69_25 (x := ((wth (I (WR f) 3) (I (LV f) t) (I (WR f) 6)) + (wth (I (WR s) 3) (I (LV s) t) (I (WR s) 6)))) rfl ?_
  refine mw_iadd i_69_26 (w := ((I GAT t) + ((wth (I (WR f) 3) (I (LV f) t) (I (WR f) 6)) + (wth (I (WR s) 3) (I (LV s) t) (I (WR s) 6))))) rfl ?_
  obtain ⟨I21, e21⟩ : ∃ I21, I21 = up2 I GAT t ((I GAT t) + ((wth (I (WR f) 3) (I (LV f) t) (I (WR f) 6)) + (wth (I (WR s) 3) (I (LV s) t) (I (WR s) 6)))) := ⟨_, rfl⟩
  refine mw_iast i_69_27 (jn := t) (n := 4) (by omega) (by omega) (x := ((I GAT t) + ((wth (I (WR f) 3) (I (LV f) t) (I (WR f) 6)) + (wth (I (WR s) 3) (I (LV s) t) (I (WR s) 6))))) hS.2.1.2.2.2.1 (I' := I21) e21.symm ?_
  refine mw_aload i_69_28 (L := MT c j) rfl ?_
  refine mw_get i_69_29 hT (v := nI 1) (by rw [e21, up2_ne (by simp)]; exact h5) ?_
  refine mw_ifF i_69_30 (show ¬ (nI 1 = 0) by decide) ?_
  refine mw_aload i_69_31 (L := WR f) rfl ?_
  refine mw_dup i_69_32 trivial ?_
  refine mw_get i_69_33 (hS.2.2.1 f (by omega)).2.1 (v := I21 (WR f) 11) rfl ?_
  refine mw_const i_69_34 (v := nI 1) (by decide) ?_
  refine mw_iadd i_69_35 (w := ((I21 (WR f) 11) + (nI 1))) rfl ?_
  obtain ⟨I22, e22⟩ : ∃ I22, I22 = up2 I21 (WR f) 11 ((I21 (WR f) 11) + (nI 1)) := ⟨_, rfl⟩
  refine mw_put i_69_36 (x := ((I21 (WR f) 11) + (nI 1))) (hS.2.2.1 f (by omega)).2.1 (I' := I22) e22.symm ?_
  refine mw_aload i_69_37 (L := WR s) rfl ?_
  refine mw_dup i_69_38 trivial ?_
  refine mw_get i_69_39 (hS.2.2.1 s (by omega)).2.1 (v := I22 (WR s) 11) rfl ?_
  refine mw_const i_69_40 (v := nI 1) (by decide) ?_
  refine mw_iadd i_69_41 (w := ((I22 (WR s) 11) + (nI 1))) rfl ?_
  obtain ⟨I23, e23⟩ : ∃ I23, I23 = up2 I22 (WR s) 11 ((I22 (WR s) 11) + (nI 1)) := ⟨_, rfl⟩
  refine mw_put i_69_42 (x := ((I22 (WR s) 11) + (nI 1))) (hS.2.2.1 s (by omega)).2.1 (I' := I23) e23.symm ?_
  refine mw_goto i_69_43 ?_
  refine mw_aload i_69_51 (L := WR f) rfl ?_
  refine mw_dup i_69_52 trivial ?_
  refine mw_get i_69_53 (hS.2.2.1 f (by omega)).2.1 (v := I23 (WR f) 6) rfl ?_
  refine mw_aload i_69_54 (L := MT c j) rfl ?_
  refine mw_get i_69_55 hT (v := m) (by rw [e23, up2_ne (by simp), e22, up2_ne (by simp), e21, up2_ne (by simp)]; exact h3) ?_
  refine mw_iadd i_69_56 (w := ((I23 (WR f) 6) + m)) rfl ?_
  obtain ⟨I24, e24⟩ : ∃ I24, I24 = up2 I23 (WR f) 6 ((I23 (WR f) 6) + m) := ⟨_, rfl⟩
  refine mw_put i_69_57 (x := ((I23 (WR f) 6) + m)) (hS.2.2.1 f (by omega)).2.1 (I' := I24) e24.symm ?_
  refine mw_aload i_69_58 (L := WR s) rfl ?_
  refine mw_dup i_69_59 trivial ?_
  refine mw_get i_69_60 (hS.2.2.1 s (by omega)).2.1 (v := I24 (WR s) 6) rfl ?_
  refine mw_aload i_69_61 (L := MT c j) rfl ?_
  refine mw_get i_69_62 hT (v := m) (by rw [e24, up2_ne (by simp), e23, up2_ne (by simp), e22, up2_ne (by simp), e21, up2_ne (by simp)]; exact h3) ?_
  refine mw_iadd i_69_63 (w := ((I24 (WR s) 6) + m)) rfl ?_
  obtain ⟨I25, e25⟩ : ∃ I25, I25 = up2 I24 (WR s) 6 ((I24 (WR s) 6) + m) := ⟨_, rfl⟩
  refine mw_put i_69_64 (x := ((I24 (WR s) 6) + m)) (hS.2.2.1 s (by omega)).2.1 (I' := I25) e25.symm ?_
  refine mw_aload i_69_65 (L := MT c j) rfl ?_
  refine mw_get i_69_66 hT (v := nI 1) (by rw [e25, up2_ne (by simp), e24, up2_ne (by simp), e23, up2_ne (by simp), e22, up2_ne (by simp), e21, up2_ne (by simp)]; exact h5) ?_
  refine mw_ifT i_69_67 (show ¬ nI 1 = 0 by decide) ?_
  refine mw_aload i_69_71 (L := WR f) rfl ?_
  refine mw_callV i_69_72 mf_31 (as := []) (rest := []) (d' := d9) (b' := b) (ls0 := [some (pR (some (WR f))), none, none, none]) rfl rfl rfl (Nat.le_of_ble_eq_true rfl) (hS.2.2.1 f (by omega)).2.1 rfl rfl rfl ?_
  refine k_turn hS (by omega) ?_
  refine aft_n ?_
  refine mw_aload i_69_73 (L := WR s) rfl ?_
  refine mw_callV i_69_74 mf_31 (as := []) (rest := []) (d' := d9) (b' := b) (ls0 := [some (pR (some (WR s))), none, none, none]) rfl rfl rfl (Nat.le_of_ble_eq_true rfl) (hS.2.2.1 s (by omega)).2.1 rfl rfl rfl ?_
  refine k_turn hS (by omega) ?_
  refine aft_n ?_
  refine mw_iload i_69_75 (x := ((wth (I (WR f) 3) (I (LV f) t) (I (WR f) 6)) + (wth (I (WR s) 3) (I (LV s) t) (I (WR s) 6)))) rfl ?_
  refine mw_iretI i_69_76 (x := ((wth (I (WR f) 3) (I (LV f) t) (I (WR f) 6)) + (wth (I (WR s) 3) (I (LV s) t) (I (WR s) 6)))) rt_69 ?_
  have et : wth (I (WR f) 3) (I (LV f) t) (I (WR f) 6) + wth (I (WR s) 3) (I (LV s) t) (I (WR s) 6) = wrt σ t f + wrt σ t s := by
    have a := RC_rd hR hf
    have b := RC_rd hR hs
    unfold wrt
    rw [a.1, a.2.2.2.1, a.2.2.2.2.2.2.2.2.2.2.1 t ht, b.1, b.2.2.2.1, b.2.2.2.2.2.2.2.2.2.2.1 t ht]
  have r1 := RC_gateI hR ht (wth (I (WR f) 3) (I (LV f) t) (I (WR f) 6) + wth (I (WR s) 3) (I (LV s) t) (I (WR s) 6))
  rw [← e21] at r1
  have r2 := RC_realI r1 hf (nI 1)
  rw [← e22] at r2
  have r3 := RC_realI r2 hs (nI 1)
  rw [← e23] at r3
  have r4 := RC_strainI r3 hf m
  rw [← e24] at r4
  have r5 := RC_strainI r4 hs m
  rw [← e25] at r5
  have r6 := RC_turn r5 hf
  have r7 := RC_turn r6 hs
  refine q _ _ (FrC_up (FrC_up ((e25.symm ▸ FrC_up ((e24.symm ▸ FrC_up ((e23.symm ▸ FrC_up ((e22.symm ▸ FrC_up ((e21.symm ▸ FrC_up (FrC_rfl) (Nat.le_of_ble_eq_true rfl))) (Nat.le_of_ble_eq_true rfl))) (Nat.le_of_ble_eq_true rfl))) (Nat.le_of_ble_eq_true rfl))) (Nat.le_of_ble_eq_true rfl))) (Nat.le_of_ble_eq_true rfl)) (Nat.le_of_ble_eq_true rfl)) et ?_
  rw [et] at r7
  unfold pmS
  dsimp only
  rw [if_neg (show ¬ nI 1 = nI 0 by decide), if_neg (show ¬ nI 1 = nI 0 by decide)]
  exact r7
set_option maxRecDepth 20000 in
set_option maxHeartbeats 400000 in
theorem k_pmN {d b : Nat} {K : KM} {I : IM} {R : RM} {Q : QT} {σ : ST} {c j f s t wi lo : Nat} {m ti : Int32} (hd : 3 ≤ d) (hS : CS0 K R) (hT : K (MT c j) = some (1, 0)) (hR : RC σ I R) (hLN : LN σ) (hf : f < 10) (hs : s < 10) (ht : t < 4) (hwi : wi < 10) (hlo : lo < 10) (hti : ti = (-1) ∨ isN ti 4) (hl5 : ∀ q, q < 4 → ti = nI q → lnO σ q < 512) (h0 : I (MT c j) 0 = nI f) (h1 : I (MT c j) 1 = nI s) (hwn : (if I (MT c j) 2 = nI 0 then I (MT c j) 1 else I (MT c j) 0) = nI wi) (hlx : (if I (MT c j) 2 = nI 0 then I (MT c j) 0 else I (MT c j) 1) = nI lo) (h3 : I (MT c j) 3 = m) (h4 : I (MT c j) 4 = ti) (h5 : I (MT c j) 5 = nI 0) (q : ∀ I' v, FrC I I' → v = wrt σ t f + wrt σ t s → RC (pmS (adS σ 23 t (wrt σ t f + wrt σ t s)) t f s wi lo m ti (nI 0)) I' R → Q (.inl (some (pI v))) K I' R) : Mw d b N_X5_playMatch 0 [some (pR (some RING)), some (pR (some (MT c j))), some (pI (nI t)), none, none, none] [] K I R Q := by
  obtain ⟨d9, rfl⟩ : ∃ d9, d = d9 + 1 := ⟨d - 1, by omega⟩
  refine mw_aload i_69_0 (L := RING) rfl ?_
  refine mw_getR i_69_1 hS.1.1 (q := some ROS) hS.1.2.1 ?_
  refine mw_aload i_69_2 (L := MT c j) rfl ?_
  refine mw_get i_69_3 hT (v := nI f) h0 ?_
  refine mw_aald i_69_4 (jn := f) (n := 10) (by omega) (by omega) hS.2.1.1 (by decide) (q := some (WR f)) (hS.2.2.1 f (by omega)).1 ?_
  refine mw_astore i_69_5 (ls' := [some (pR (some RING)), some (pR (some (MT c j))), some (pI (nI t)), some (pR (some (WR f))), none, none]) rfl (Nat.le_of_ble_eq_true rfl) ?_
  refine mw_aload i_69_6 (L := RING) rfl ?_
  refine mw_getR i_69_7 hS.1.1 (q := some ROS) hS.1.2.1 ?_
  refine mw_aload i_69_8 (L := MT c j) rfl ?_
  refine mw_get i_69_9 hT (v := nI s) h1 ?_
  refine mw_aald i_69_10 (jn := s) (n := 10) (by omega) (by omega) hS.2.1.1 (by decide) (q := some (WR s)) (hS.2.2.1 s (by omega)).1 ?_
  refine mw_astore i_69_11 (ls' := [some (pR (some RING)), some (pR (some (MT c j))), some (pI (nI t)), some (pR (some (WR f))), some (pR (some (WR s))), none]) rfl (Nat.le_of_ble_eq_true rfl) ?_
  refine mw_aload i_69_12 (L := WR f) rfl ?_
  refine mw_iload i_69_13 (x := nI t) rfl ?_
  refine mw_callV i_69_14 mf_29 (as := [pI (nI t)]) (rest := []) (d' := d9) (b' := b) (ls0 := [some (pR (some (WR f))), some (pI (nI t))]) rfl rfl rfl (Nat.le_of_ble_eq_true rfl) (hS.2.2.1 f (by omega)).2.1 rfl rfl rfl ?_
  refine k_worthIn (by omega) hS (by omega) ht ?_
  refine aft_v ?_
  refine mw_aload i_69_15 (L := WR s) rfl ?_
  refine mw_iload i_69_16 (x := nI t) rfl ?_
  refine mw_callV i_69_17 mf_29 (as := [pI (nI t)]) (rest := [pI (wth (I (WR f) 3) (I (LV f) t) (I (WR f) 6))]) (d' := d9) (b' := b) (ls0 := [some (pR (some (WR s))), some (pI (nI t))]) rfl rfl rfl (Nat.le_of_ble_eq_true rfl) (hS.2.2.1 s (by omega)).2.1 rfl rfl rfl ?_
  refine k_worthIn (by omega) hS (by omega) ht ?_
  refine aft_v ?_
  refine mw_iadd i_69_18 (w := ((wth (I (WR f) 3) (I (LV f) t) (I (WR f) 6)) + (wth (I (WR s) 3) (I (LV s) t) (I (WR s) 6)))) rfl ?_
  refine mw_istore i_69_19 (ls' := [some (pR (some RING)), some (pR (some (MT c j))), some (pI (nI t)), some (pR (some (WR f))), some (pR (some (WR s))), some (pI ((wth (I (WR f) 3) (I (LV f) t) (I (WR f) 6)) + (wth (I (WR s) 3) (I (LV s) t) (I (WR s) 6))))]) rfl (Nat.le_of_ble_eq_true rfl) ?_
  refine mw_aload i_69_20 (L := RING) rfl ?_
  refine mw_getR i_69_21 hS.1.1 (q := some GAT) hS.1.2.2.2.2.2.1 ?_
  refine mw_iload i_69_22 (x := nI t) rfl ?_
  refine mw_dup2 i_69_23 trivial trivial ?_
  refine mw_iald i_69_24 (jn := t) (n := 4) (by omega) (by omega) hS.2.1.2.2.2.1 (by decide) (v := I GAT t) rfl ?_
  refine mw_iload i_69_25 (x := ((wth (I (WR f) 3) (I (LV f) t) (I (WR f) 6)) + (wth (I (WR s) 3) (I (LV s) t) (I (WR s) 6)))) rfl ?_
  refine mw_iadd i_69_26 (w := ((I GAT t) + ((wth (I (WR f) 3) (I (LV f) t) (I (WR f) 6)) + (wth (I (WR s) 3) (I (LV s) t) (I (WR s) 6))))) rfl ?_
  obtain ⟨I21, e21⟩ : ∃ I21, I21 = up2 I GAT t ((I GAT t) + ((wth (I (WR f) 3) (I (LV f) t) (I (WR f) 6)) + (wth (I (WR s) 3) (I (LV s) t) (I (WR s) 6)))) := ⟨_, rfl⟩
  refine mw_iast i_69_27 (jn := t) (n := 4) (by omega) (by omega) (x := ((I GAT t) + ((wth (I (WR f) 3) (I (LV f) t) (I (WR f) 6)) + (wth (I (WR s) 3) (I (LV s) t) (I (WR s) 6))))) hS.2.1.2.2.2.1 (I' := I21) e21.symm ?_
  refine mw_aload i_69_28 (L := MT c j) rfl ?_
  refine mw_get i_69_29 hT (v := nI 0) (by rw [e21, up2_ne (by simp)]; exact h5) ?_
  refine mw_ifT i_69_30 (show nI 0 = 0 by decide) ?_
  refine mw_aload i_69_44 (L := RING) rfl ?_
  refine mw_aload i_69_45 (L := MT c j) rfl ?_
  refine mw_callV i_69_46 mf_10 (as := []) (rest := [pR (some RING)]) (d' := d9) (b' := b) (ls0 := [some (pR (some (MT c j)))]) rfl rfl rfl (Nat.le_of_ble_eq_true rfl) hT rfl rfl rfl ?_
  refine k_winner hT ?_
  rw [show (if I21 (MT c j) 2 = nI 0 then I21 (MT c j) 1 else I21 (MT c j) 0) = nI wi from by rw [e21, up2_ne (by simp)]; exact hwn]
  refine aft_v ?_
  refine mw_aload i_69_47 (L := MT c j) rfl ?_
  refine mw_callV i_69_48 mf_11 (as := []) (rest := [pI (nI wi), pR (some RING)]) (d' := d9) (b' := b) (ls0 := [some (pR (some (MT c j)))]) rfl rfl rfl (Nat.le_of_ble_eq_true rfl) hT rfl rfl rfl ?_
  refine k_loser hT ?_
  rw [show (if I21 (MT c j) 2 = nI 0 then I21 (MT c j) 0 else I21 (MT c j) 1) = nI lo from by rw [e21, up2_ne (by simp)]; exact hlx]
  refine aft_v ?_
  refine mw_iload i_69_49 (x := nI t) rfl ?_
  have r1 := RC_gateI hR ht (wth (I (WR f) 3) (I (LV f) t) (I (WR f) 6) + wth (I (WR s) 3) (I (LV s) t) (I (WR s) 6))
  rw [← e21] at r1
  refine mw_callV i_69_50 mf_70 (as := [pI (nI wi), pI (nI lo), pI (nI t)]) (rest := []) (d' := d9) (b' := b) (ls0 := [some (pR (some RING)), some (pI (nI wi)), some (pI (nI lo)), some (pI (nI t)), none, none]) rfl rfl rfl (Nat.le_of_ble_eq_true rfl) hS.1.1 rfl rfl rfl ?_
  refine k_decide (by omega) hS r1 hwi hlo ht ?_
  intro I1 hF1 r2
  refine aft_n ?_
  refine mw_aload i_69_51 (L := WR f) rfl ?_
  refine mw_dup i_69_52 trivial ?_
  refine mw_get i_69_53 (hS.2.2.1 f (by omega)).2.1 (v := I1 (WR f) 6) rfl ?_
  refine mw_aload i_69_54 (L := MT c j) rfl ?_
  refine mw_get i_69_55 hT (v := m) (by rw [hF1 (MT c j) (Or.inr (Nat.le_of_ble_eq_true rfl)), e21, up2_ne (by simp)]; exact h3) ?_
  refine mw_iadd i_69_56 (w := ((I1 (WR f) 6) + m)) rfl ?_
  obtain ⟨I22, e22⟩ : ∃ I22, I22 = up2 I1 (WR f) 6 ((I1 (WR f) 6) + m) := ⟨_, rfl⟩
  refine mw_put i_69_57 (x := ((I1 (WR f) 6) + m)) (hS.2.2.1 f (by omega)).2.1 (I' := I22) e22.symm ?_
  refine mw_aload i_69_58 (L := WR s) rfl ?_
  refine mw_dup i_69_59 trivial ?_
  refine mw_get i_69_60 (hS.2.2.1 s (by omega)).2.1 (v := I22 (WR s) 6) rfl ?_
  refine mw_aload i_69_61 (L := MT c j) rfl ?_
  refine mw_get i_69_62 hT (v := m) (by rw [e22, up2_ne (by simp), hF1 (MT c j) (Or.inr (Nat.le_of_ble_eq_true rfl)), e21, up2_ne (by simp)]; exact h3) ?_
  refine mw_iadd i_69_63 (w := ((I22 (WR s) 6) + m)) rfl ?_
  obtain ⟨I23, e23⟩ : ∃ I23, I23 = up2 I22 (WR s) 6 ((I22 (WR s) 6) + m) := ⟨_, rfl⟩
  refine mw_put i_69_64 (x := ((I22 (WR s) 6) + m)) (hS.2.2.1 s (by omega)).2.1 (I' := I23) e23.symm ?_
  refine mw_aload i_69_65 (L := MT c j) rfl ?_
  refine mw_get i_69_66 hT (v := nI 0) (by rw [e23, up2_ne (by simp), e22, up2_ne (by simp), hF1 (MT c j) (Or.inr (Nat.le_of_ble_eq_true rfl)), e21, up2_ne (by simp)]; exact h5) ?_
  refine mw_ifF i_69_67 (show ¬ (¬ nI 0 = 0) by decide) ?_
  refine mw_aload i_69_68 (L := RING) rfl ?_
  refine mw_aload i_69_69 (L := MT c j) rfl ?_
  have r3 := RC_strainI r2 hf m
  rw [← e22] at r3
  have r4 := RC_strainI r3 hs m
  rw [← e23] at r4
  refine mw_callV i_69_70 mf_71 (as := [pR (some (MT c j))]) (rest := []) (d' := d9) (b' := b) (ls0 := [some (pR (some RING)), some (pR (some (MT c j))), none]) rfl rfl rfl (Nat.le_of_ble_eq_true rfl) hS.1.1 rfl rfl rfl ?_
  refine k_hand (by omega) hS hT r4 (LN_eq hLN (by unfold adS; rw [ups_ne (by decide), ups_ne (by decide), win_17, ups_ne (by decide)])) hti (fun q hq hq2 => by unfold lnO adS; rw [ups_ne (by decide), ups_ne (by decide), win_17, ups_ne (by decide)]; exact hl5 q hq hq2) (x0 := nI f) (x1 := nI s) (wn := nI wi) (by rw [e23, up2_ne (by simp), e22, up2_ne (by simp), hF1 (MT c j) (Or.inr (Nat.le_of_ble_eq_true rfl)), e21, up2_ne (by simp)]; exact h0) (by rw [e23, up2_ne (by simp), e22, up2_ne (by simp), hF1 (MT c j) (Or.inr (Nat.le_of_ble_eq_true rfl)), e21, up2_ne (by simp)]; exact h1) (by rw [e23, up2_ne (by simp), e22, up2_ne (by simp), hF1 (MT c j) (Or.inr (Nat.le_of_ble_eq_true rfl)), e21, up2_ne (by simp)]; exact hwn) (by rw [e23, up2_ne (by simp), e22, up2_ne (by simp), hF1 (MT c j) (Or.inr (Nat.le_of_ble_eq_true rfl)), e21, up2_ne (by simp)]; exact h4) ?_
  intro I2 hF2 r5
  refine aft_n ?_
  refine mw_aload i_69_71 (L := WR f) rfl ?_
  refine mw_callV i_69_72 mf_31 (as := []) (rest := []) (d' := d9) (b' := b) (ls0 := [some (pR (some (WR f))), none, none, none]) rfl rfl rfl (Nat.le_of_ble_eq_true rfl) (hS.2.2.1 f (by omega)).2.1 rfl rfl rfl ?_
  refine k_turn hS (by omega) ?_
  refine aft_n ?_
  refine mw_aload i_69_73 (L := WR s) rfl ?_
  refine mw_callV i_69_74 mf_31 (as := []) (rest := []) (d' := d9) (b' := b) (ls0 := [some (pR (some (WR s))), none, none, none]) rfl rfl rfl (Nat.le_of_ble_eq_true rfl) (hS.2.2.1 s (by omega)).2.1 rfl rfl rfl ?_
  refine k_turn hS (by omega) ?_
  refine aft_n ?_
  refine mw_iload i_69_75 (x := ((wth (I (WR f) 3) (I (LV f) t) (I (WR f) 6)) + (wth (I (WR s) 3) (I (LV s) t) (I (WR s) 6)))) rfl ?_
  refine mw_iretI i_69_76 (x := ((wth (I (WR f) 3) (I (LV f) t) (I (WR f) 6)) + (wth (I (WR s) 3) (I (LV s) t) (I (WR s) 6)))) rt_69 ?_
  have et : wth (I (WR f) 3) (I (LV f) t) (I (WR f) 6) + wth (I (WR s) 3) (I (LV s) t) (I (WR s) 6) = wrt σ t f + wrt σ t s := by
    have a := RC_rd hR hf
    have b := RC_rd hR hs
    unfold wrt
    rw [a.1, a.2.2.2.1, a.2.2.2.2.2.2.2.2.2.2.1 t ht, b.1, b.2.2.2.1, b.2.2.2.2.2.2.2.2.2.2.1 t ht]
  have r6 := RC_turn r5 hf
  have r7 := RC_turn r6 hs
  refine q _ _ (FrC_up (FrC_up (FrC_tr ((e23.symm ▸ FrC_up ((e22.symm ▸ FrC_up (FrC_tr ((e21.symm ▸ FrC_up (FrC_rfl) (Nat.le_of_ble_eq_true rfl))) (FrC_W hF1)) (Nat.le_of_ble_eq_true rfl))) (Nat.le_of_ble_eq_true rfl))) (FrC_T hF2)) (Nat.le_of_ble_eq_true rfl)) (Nat.le_of_ble_eq_true rfl)) et ?_
  rw [et] at r7
  unfold pmS
  dsimp only
  rw [if_pos rfl, if_pos rfl]
  exact r7
