/-! the reference: pass, book -/
def rsk (σ : ST) (k : Nat) : ST := fun q => if q = 5 then (fun w => if w < k then rst (σ 5 w) else σ 5 w) else if q = 10 then (fun w => if w < k then nI 0 else σ 10 w) else σ q
theorem rsk_o {σ : ST} {k q : Nat} (h : q ≠ 5) (h2 : q ≠ 10) : rsk σ k q = σ q := by
  unfold rsk
  rw [if_neg h, if_neg h2]
theorem rsk_5 {σ : ST} {k w : Nat} : rsk σ k 5 w = if w < k then rst (σ 5 w) else σ 5 w := rfl
theorem rsk_10 {σ : ST} {k w : Nat} : rsk σ k 10 w = if w < k then nI 0 else σ 10 w := rfl
theorem rsk_0 {σ : ST} : rsk σ 0 = σ := by
  funext q w
  by_cases h : q = 5
  · subst h; rw [rsk_5, if_neg (Nat.not_lt_zero _)]
  · by_cases h2 : q = 10
    · subst h2; rw [rsk_10, if_neg (Nat.not_lt_zero _)]
    · rw [rsk_o h h2]
theorem rsk_s {σ : ST} {k : Nat} : rsk σ (k + 1) = ups (ups (rsk σ k) 5 k (rst (σ 5 k))) 10 k (nI 0) := by
  funext q w
  by_cases h2 : q = 10
  · subst h2
    rw [ups_at, rsk_10]
    by_cases e : w = k
    · rw [e, upd_at, if_pos (by omega)]
    · rw [upd_ne e, ups_ne (by decide), rsk_10]
      by_cases e2 : w < k
      · rw [if_pos e2, if_pos (by omega)]
      · rw [if_neg e2, if_neg (by omega)]
  · rw [ups_ne h2]
    by_cases h : q = 5
    · subst h
      rw [ups_at, rsk_5]
      by_cases e : w = k
      · rw [e, upd_at, if_pos (by omega)]
      · rw [upd_ne e, rsk_5]
        by_cases e2 : w < k
        · rw [if_pos e2, if_pos (by omega)]
        · rw [if_neg e2, if_neg (by omega)]
    · rw [ups_ne h, rsk_o h h2, rsk_o h h2]
theorem ps_ref {σ : ST} : sets (rsk (cdS σ) (pn σ)) 0 (nI (dn σ + 1)) = psS σ := by
  unfold psS
  rw [ps_pn]
  funext q w
  by_cases h0 : q = 0
  · subst h0
    unfold sets dyS
    rw [if_pos rfl, if_pos rfl, ps_dn]
  · unfold dyS
    rw [sets_ne h0, if_neg h0]
    by_cases h2 : q = 10
    · subst h2
      rw [if_pos rfl, rsk_10, ps_pn2, reS_o (by decide)]
    · rw [if_neg h2]
      by_cases h : q = 5
      · subst h; rw [rsk_5, reS_5]
      · rw [rsk_o h h2, reS_o h]
theorem ups_self {σ : ST} {k j : Nat} {v : Int32} (h : σ k j = v) : ups σ k j v = σ := by
  funext q w
  by_cases e : q = k
  · rw [e, ups_at]
    by_cases e2 : w = j
    · rw [e2, upd_at, h]
    · rw [upd_ne e2]
  · rw [ups_ne e]
theorem rst_n {s : Nat} (h : s < 1073741824) : rst (nI s) = if s ≤ 10 then nI 0 else nI (s - 10) := by
  unfold rst
  by_cases e : s ≤ 10
  · rw [if_pos e, if_neg]
    have e3 := pk_sub_toInt (a := s) (b := 10) (by omega) (by decide)
    rw [Int32.lt_iff_toInt_lt, e3, nI_toInt (by decide)]
    omega
  · rw [if_neg e, pk_sub (by omega), if_pos]
    rw [Int32.lt_iff_toInt_lt, nI_toInt (by decide), nI_toInt (by omega)]
    omega
set_option maxRecDepth 20000 in
set_option maxHeartbeats 400000 in
theorem m_rest_lp {d : Nat} {b : Nat} {K : KM} {R : RM} {Q : QT} {n0 : Nat} {σ : ST} {I0 : IM} (hM : MK K R) (hV : IV n0 σ) (hn9 : n0 < 512) (q : ∀ I', FrA I0 I' → mv I' = rsk (cdS σ) (pn σ) → Mw d b N_X6_pass 63 [some (pR (some MO)), some (pI (nI (pn σ)))] [] K I' R Q) : ∀ (n k : Nat) (I : IM), pn σ - k < n → k ≤ pn σ → (FrA I0 I) → (mv I = rsk (cdS σ) k) → Mw d b N_X6_pass 34 [some (pR (some MO)), some (pI (nI k))] [] K I R Q := by
  intro n
  induction n with
  | zero => intro k I  hn; exact absurd hn (Nat.not_lt_zero _)
  | succ n ih =>
    intro k I  hn hi hF hmk
    have hpp := hV.1.2
    have htt := hV.2.1.2
    have hdd := hV.2.2.1.2
    refine mw_iload i_115_34 (x := nI k) rfl ?_
    refine mw_aload i_115_35 (L := MO) rfl ?_
    refine mw_get i_115_36 (MK_o hM) (v := nI (pn σ)) ((rs hmk (by decide)).trans (by rw [rsk_o (by decide) (by decide), cd_o (by decide)]; exact hV.1.1)) ?_
    refine mw_ic i_115_37 (p := (pn σ) ≤ k) (nI_leI (by omega) (by omega)) (fun c1 => ?_) (fun c1 => ?_)
    · skip
      obtain rfl : k = pn σ := by omega
      exact q I hF hmk
    · skip
      obtain ⟨st9, hst, est⟩ := (hV.2.2.2.1 k (by omega)).2.2.2.1
      refine mw_aload i_115_38 (L := MO) rfl ?_
      refine mw_getR i_115_39 (MK_o hM) (q := some (MA 5)) (MK_r hM 5 (by decide)) ?_
      refine mw_iload i_115_40 (x := nI k) rfl ?_
      refine mw_aload i_115_41 (L := MO) rfl ?_
      refine mw_getR i_115_42 (MK_o hM) (q := some (MA 5)) (MK_r hM 5 (by decide)) ?_
      refine mw_iload i_115_43 (x := nI k) rfl ?_
      refine mw_iald i_115_44 (jn := k) (n := 10) (by omega) (by omega) (show K (MA 5) = some (7, 10) from MK_k hM 5 (by decide)) (by decide) (v := nI st9) ((rm hmk (by decide) _).trans (by rw [rsk_5, if_neg (Nat.lt_irrefl _), cd_o (by decide)]; exact est)) ?_
      refine mw_const i_115_45 (v := nI 10) (by decide) ?_
      refine mw_ic i_115_46 (p := st9 ≤ 10) (nI_leI (by omega) (by omega)) (fun c2 => ?_) (fun c2 => ?_)
      · skip
        refine mw_const i_115_54 (v := nI 0) (by decide) ?_
        obtain ⟨I23, e23⟩ : ∃ I23, I23 = up2 I (MA 5) k (nI 0) := ⟨_, rfl⟩
        refine mw_iast i_115_55 (jn := k) (n := 10) (by omega) (by omega) (x := nI 0) (show K (MA 5) = some (7, 10) from MK_k hM 5 (by decide)) (I' := I23) e23.symm ?_
        refine mw_aload i_115_56 (L := MO) rfl ?_
        refine mw_getR i_115_57 (MK_o hM) (q := some (MA 10)) (MK_r hM 10 (by decide)) ?_
        refine mw_iload i_115_58 (x := nI k) rfl ?_
        refine mw_const i_115_59 (v := nI 0) (by decide) ?_
        obtain ⟨I24, e24⟩ : ∃ I24, I24 = up2 I23 (MA 10) k (nI 0) := ⟨_, rfl⟩
        refine mw_bast i_115_60 (jn := k) (n := 10) (by omega) (by omega) (x := nI 0) (show K (MA 10) = some (8, 10) from MK_k hM 10 (by decide)) (by decide) (I' := I24) e24.symm ?_
        refine mw_iinc i_115_61 (x := nI k) (v := nI (k + 1)) (ls' := [some (pR (some MO)), some (pI (nI (k + 1)))]) rfl (nI_add _ _) rfl ?_
        refine mw_goto i_115_62 ?_
        have er : nI 0 = rst (cdS σ 5 k) := by rw [cd_o (by decide), est, rst_n (by omega)]; first | exact (if_pos (by omega)).symm | exact (if_neg (by omega)).symm
        exact ih (k + 1) I24 (by omega) (by omega) (FrA_tr hF ((e24.symm ▸ FrA_up ((e23.symm ▸ FrA_up (FrA_rfl) rfl)) rfl))) (by rw [rsk_s, ← er, e24, mv_a (by decide) (by decide) (by decide) (by decide), e23, mv_a (by decide) (by decide) (by decide) (by decide), hmk])
      · skip
        refine mw_aload i_115_47 (L := MO) rfl ?_
        refine mw_getR i_115_48 (MK_o hM) (q := some (MA 5)) (MK_r hM 5 (by decide)) ?_
        refine mw_iload i_115_49 (x := nI k) rfl ?_
        refine mw_iald i_115_50 (jn := k) (n := 10) (by omega) (by omega) (show K (MA 5) = some (7, 10) from MK_k hM 5 (by decide)) (by decide) (v := nI st9) ((rm hmk (by decide) _).trans (by rw [rsk_5, if_neg (Nat.lt_irrefl _), cd_o (by decide)]; exact est)) ?_
        refine mw_const i_115_51 (v := nI 10) (by decide) ?_
        refine mw_isub i_115_52 (w := nI (st9 - 10)) (pk_sub (by omega)) ?_
        refine mw_goto i_115_53 ?_
        obtain ⟨I25, e25⟩ : ∃ I25, I25 = up2 I (MA 5) k (nI (st9 - 10)) := ⟨_, rfl⟩
        refine mw_iast i_115_55 (jn := k) (n := 10) (by omega) (by omega) (x := nI (st9 - 10)) (show K (MA 5) = some (7, 10) from MK_k hM 5 (by decide)) (I' := I25) e25.symm ?_
        refine mw_aload i_115_56 (L := MO) rfl ?_
        refine mw_getR i_115_57 (MK_o hM) (q := some (MA 10)) (MK_r hM 10 (by decide)) ?_
        refine mw_iload i_115_58 (x := nI k) rfl ?_
        refine mw_const i_115_59 (v := nI 0) (by decide) ?_
        obtain ⟨I26, e26⟩ : ∃ I26, I26 = up2 I25 (MA 10) k (nI 0) := ⟨_, rfl⟩
        refine mw_bast i_115_60 (jn := k) (n := 10) (by omega) (by omega) (x := nI 0) (show K (MA 10) = some (8, 10) from MK_k hM 10 (by decide)) (by decide) (I' := I26) e26.symm ?_
        refine mw_iinc i_115_61 (x := nI k) (v := nI (k + 1)) (ls' := [some (pR (some MO)), some (pI (nI (k + 1)))]) rfl (nI_add _ _) rfl ?_
        refine mw_goto i_115_62 ?_
        have er : nI (st9 - 10) = rst (cdS σ 5 k) := by rw [cd_o (by decide), est, rst_n (by omega)]; first | exact (if_pos (by omega)).symm | exact (if_neg (by omega)).symm
        exact ih (k + 1) I26 (by omega) (by omega) (FrA_tr hF ((e26.symm ▸ FrA_up ((e25.symm ▸ FrA_up (FrA_rfl) rfl)) rfl))) (by rw [rsk_s, ← er, e26, mv_a (by decide) (by decide) (by decide) (by decide), e25, mv_a (by decide) (by decide) (by decide) (by decide), hmk])
set_option maxRecDepth 20000 in
set_option maxHeartbeats 400000 in
theorem m_pass63 {d b : Nat} {K : KM} {I : IM} {R : RM} {Q : QT} {n0 j : Nat} {σ : ST} (hM : MK K R) (hV : IV n0 σ) (hmk : mv I = rsk (cdS σ) (pn σ)) (q : ∀ I', FrM I I' → I' MO 28 = I MO 28 → mv I' = psS σ → Q (.inl (some (pI (nI (dn σ + 1))))) K I' R) : Mw d b N_X6_pass 63 [some (pR (some MO)), some (pI (nI j))] [] K I R Q := by
  refine mw_aload i_115_63 (L := MO) rfl ?_
  refine mw_dup i_115_64 trivial ?_
  refine mw_get i_115_65 (MK_o hM) (v := nI (dn σ)) ((rs hmk (by decide)).trans (by rw [rsk_o (by decide) (by decide), cd_o (by decide)]; exact hV.2.2.1.1)) ?_
  refine mw_const i_115_66 (v := nI 1) (by decide) ?_
  refine mw_iadd i_115_67 (w := nI (dn σ + 1)) (nI_add _ _) ?_
  obtain ⟨I21, e21⟩ : ∃ I21, I21 = up2 I MO 0 (nI (dn σ + 1)) := ⟨_, rfl⟩
  refine mw_put i_115_68 (x := nI (dn σ + 1)) (MK_o hM) (I' := I21) e21.symm ?_
  refine mw_aload i_115_69 (L := MO) rfl ?_
  refine mw_get i_115_70 (MK_o hM) (v := nI (dn σ + 1)) (by rw [e21, up2_at, upd_at]) ?_
  refine mw_iretI i_115_71 (x := nI (dn σ + 1)) rt_115 ?_
  exact q _ ((e21.symm ▸ FrM_up (FrM_rfl) (by decide))) (by rw [e21, up2_at, upd_ne (by decide)]) (by rw [e21, mv_s (by decide), hmk, ps_ref])
set_option maxRecDepth 20000 in
set_option maxHeartbeats 400000 in
theorem m_pass {d b : Nat} {K : KM} {I : IM} {R : RM} {Q : QT} {n0 : Nat} {σ : ST}  (hd : 2 ≤ d) (hM : MK K R) (hm : mv I = σ) (hV : IV n0 σ) (hn9 : n0 < 512) (q1 : ¬ (dn σ < 999) → ∀ I', FrM I I' → I' MO 28 = nI 1 → mv I' = σ → Q (.inl (some (pI (nI 0)))) K I' R) (q0 : dn σ < 999 → ∀ I', FrM I I' → I' MO 28 = nI 0 → mv I' = psS σ → ∀ v, v = nI (dn σ + 1) → Q (.inl (some (pI v))) K I' R) : Mw d b N_X6_pass 0 [some (pR (some MO)), none] [] K I R Q := by
  obtain ⟨d9, rfl⟩ : ∃ d9, d = d9 + 1 := ⟨d - 1, by omega⟩
  have hpp := hV.1.2
  have htt := hV.2.1.2
  have hdd := hV.2.2.1.2
  refine mw_aload i_115_0 (L := MO) rfl ?_
  have J1 : Mw (d9 + 1) b 115 8 [some (pR (some MO)), none] [pI (bI (dn σ < 999)), pR (some MO)] K I R Q := by
    refine mw_const i_115_8 (v := nI 1) (by decide) ?_
    refine mw_const i_115_9 (v := nI 1) (by decide) ?_
    refine mw_callV i_115_10 mf_76 (as := [pI (bI (dn σ < 999)), pI (nI 1), pI (nI 1)]) (rest := []) (d' := d9) (b' := b) (ls0 := [some (pR (some MO)), some (pI (bI (dn σ < 999))), some (pI (nI 1)), some (pI (nI 1))]) rfl rfl rfl (Nat.le_of_ble_eq_true rfl) (MK_o hM) rfl rfl rfl ?_
    refine m_goes hM ?_
    rw [show gz (bI (dn σ < 999)) (nI 1) (nI 1) = gn (dn σ < 999) True True from by unfold gn; rw [bI_T]]
    obtain ⟨Ig2, eIg2⟩ : ∃ Ig2, Ig2 = up2 I MO 28 (nI (gn (dn σ < 999) True True)) := ⟨_, rfl⟩
    rw [← eIg2]
    refine aft_v ?_
    refine mw_neB i_115_11 rfl (fun c3 => ?_) (fun c3 => ?_)
    · skip
      obtain ⟨p1, p2, p3⟩ := gn_0.mp c3
      refine mw_aload i_115_14 (L := MO) rfl ?_
      refine mw_getR i_115_15 (MK_o hM) (q := some (MA 20)) (MK_r hM 20 (by decide)) ?_
      refine mw_aload i_115_16 (L := MO) rfl ?_
      refine mw_get i_115_17 (MK_o hM) (v := nI (dn σ)) (by rw [eIg2, up2_slot (by decide)]; exact ((rs hm (by decide)).trans hV.2.2.1.1)) ?_
      refine mw_aload i_115_18 (L := MO) rfl ?_
      refine mw_getR i_115_19 (MK_o hM) (q := some (MA 22)) (MK_r hM 22 (by decide)) ?_
      refine mw_aload i_115_20 (L := MO) rfl ?_
      refine mw_get i_115_21 (MK_o hM) (v := nI (dn σ)) (by rw [eIg2, up2_slot (by decide)]; exact ((rs hm (by decide)).trans hV.2.2.1.1)) ?_
      refine mw_bald i_115_22 (jn := dn σ) (n := 1000) (by omega) (by omega) (show K (MA 22) = some (8, 1000) from MK_k hM 22 (by decide)) (v := σ 22 (dn σ)) (by rw [eIg2, up2_ne (by simp)]; exact (rm hm (by decide) (dn σ))) ?_
      refine mw_if i_115_23 (p := (σ 22 (dn σ)) = nI 0) Iff.rfl (fun c4 => ?_) (fun c4 => ?_)
      · skip
        refine mw_const i_115_30 (v := nI 0) (by decide) ?_
        obtain ⟨I25, e25⟩ : ∃ I25, I25 = up2 Ig2 (MA 20) (dn σ) (nI 0) := ⟨_, rfl⟩
        refine mw_iast i_115_31 (jn := dn σ) (n := 1000) (by omega) (by omega) (x := nI 0) (show K (MA 20) = some (7, 1000) from MK_k hM 20 (by decide)) (I' := I25) e25.symm ?_
        refine mw_const i_115_32 (v := nI 0) (by decide) ?_
        refine mw_istore i_115_33 (ls' := [some (pR (some MO)), some (pI (nI 0))]) rfl (Nat.le_of_ble_eq_true rfl) ?_
        have ecd : mv I25 = cdS σ := by
          rw [e25, mv_a (by decide) (by decide) (by decide) (by decide), eIg2, mv_o (by decide), hm]
          unfold cdS
          rw [if_pos c4]
        exact m_rest_lp (I0 := I25) hM hV hn9 (fun I8 hF8 hm8 => m_pass63 hM hV hm8 (fun I7 hF7 h287 hm7 => q0 p1 I7 (FrM_tr ((e25.symm ▸ FrM_up ((eIg2.symm ▸ FrM_up (FrM_rfl) (by decide))) (by decide))) (FrM_tr (FrM_A hF8) hF7)) (h287.trans (by rw [hF8 MO (by decide)]; exact (by rw [e25, up2_ne (by simp), eIg2, up2_at, upd_at, c3]))) hm7 _ rfl)) (pn σ + 1) 0 I25 (by omega) (by omega) FrA_rfl (by rw [ecd, rsk_0])
      · skip
        refine mw_aload i_115_24 (L := MO) rfl ?_
        refine mw_getR i_115_25 (MK_o hM) (q := some (MA 20)) (MK_r hM 20 (by decide)) ?_
        refine mw_aload i_115_26 (L := MO) rfl ?_
        refine mw_get i_115_27 (MK_o hM) (v := nI (dn σ)) (by rw [eIg2, up2_slot (by decide)]; exact ((rs hm (by decide)).trans hV.2.2.1.1)) ?_
        refine mw_iald i_115_28 (jn := dn σ) (n := 1000) (by omega) (by omega) (show K (MA 20) = some (7, 1000) from MK_k hM 20 (by decide)) (by decide) (v := nI (mn σ (dn σ))) (by rw [eIg2, up2_ne (by simp)]; exact ((rm hm (by decide) (dn σ)).trans (hV.2.2.2.2.2.1 (dn σ) (by omega)).1)) ?_
        refine mw_goto i_115_29 ?_
        obtain ⟨I26, e26⟩ : ∃ I26, I26 = up2 Ig2 (MA 20) (dn σ) (nI (mn σ (dn σ))) := ⟨_, rfl⟩
        refine mw_iast i_115_31 (jn := dn σ) (n := 1000) (by omega) (by omega) (x := nI (mn σ (dn σ))) (show K (MA 20) = some (7, 1000) from MK_k hM 20 (by decide)) (I' := I26) e26.symm ?_
        refine mw_const i_115_32 (v := nI 0) (by decide) ?_
        refine mw_istore i_115_33 (ls' := [some (pR (some MO)), some (pI (nI 0))]) rfl (Nat.le_of_ble_eq_true rfl) ?_
        have ecd : mv I26 = cdS σ := by
          rw [e26, mv_a (by decide) (by decide) (by decide) (by decide), eIg2, mv_o (by decide), hm]
          unfold cdS
          rw [if_neg c4]
          exact ups_self (hV.2.2.2.2.2.1 (dn σ) (by omega)).1
        exact m_rest_lp (I0 := I26) hM hV hn9 (fun I8 hF8 hm8 => m_pass63 hM hV hm8 (fun I7 hF7 h287 hm7 => q0 p1 I7 (FrM_tr ((e26.symm ▸ FrM_up ((eIg2.symm ▸ FrM_up (FrM_rfl) (by decide))) (by decide))) (FrM_tr (FrM_A hF8) hF7)) (h287.trans (by rw [hF8 MO (by decide)]; exact (by rw [e26, up2_ne (by simp), eIg2, up2_at, upd_at, c3]))) hm7 _ rfl)) (pn σ + 1) 0 I26 (by omega) (by omega) FrA_rfl (by rw [ecd, rsk_0])
    · skip
      refine mw_const i_115_12 (v := nI 0) (by decide) ?_
      refine mw_iretI i_115_13 (x := nI 0) rt_115 ?_
      have h28 : Ig2 MO 28 = nI (gn (dn σ < 999) True True) := by rw [eIg2, up2_at, upd_at]
      have hmv : mv Ig2 = σ := by rw [eIg2, mv_o (by decide), hm]
      have hfr : FrM I Ig2 := (eIg2.symm ▸ FrM_up (FrM_rfl) (by decide))
      by_cases p19 : dn σ < 999
      rotate_left
      · exact q1 p19 Ig2 hfr (h28.trans (by rw [gn_1 p19])) hmv
      exact absurd (gn_t p19 trivial trivial) c3
  refine mw_aload i_115_1 (L := MO) rfl ?_
  refine mw_get i_115_2 (MK_o hM) (v := nI (dn σ)) ((rs hm (by decide)).trans hV.2.2.1.1) ?_
  refine mw_const i_115_3 (v := nI 999) (by decide) ?_
  refine mw_ic i_115_4 (p := 999 ≤ (dn σ)) (nI_leI (by omega) (by omega)) (fun c7 => ?_) (fun c7 => ?_)
  · skip
    refine mw_const i_115_7 (v := nI 0) (by decide) ?_
    rw [show nI 0 = bI (dn σ < 999) from (bI_f ((by omega))).symm]
    exact J1
  · skip
    refine mw_const i_115_5 (v := nI 1) (by decide) ?_
    refine mw_goto i_115_6 ?_
    rw [show nI 1 = bI (dn σ < 999) from (bI_t ((by omega))).symm]
    exact J1
set_option maxRecDepth 20000 in
theorem m_fits_lp {d b : Nat} {K : KM} {I : IM} {R : RM} {Q : QT} {n0 : Nat} {σ : ST} {x t f s : Nat} {mi ti : Int32} (hd : 2 ≤ d) (hM : MK K R) (hm : mv I = σ) (hV : IV n0 σ) (hx : x < 1000) (q : Mw d b N_X6_fits 59 [some (pR (some MO)), some (pI (nI x)), some (pI (nI t)), some (pI (nI f)), some (pI (nI s)), some (pI mi), some (pI ti), some (pI (bI (rom σ x t mi ∧ ¬ hTi σ x ti))), some (pI (nI (mn σ x)))] [] K I R Q) : ∀ (n i : Nat), mn σ x - i < n → i ≤ mn σ x → Mw d b N_X6_fits 35 [some (pR (some MO)), some (pI (nI x)), some (pI (nI t)), some (pI (nI f)), some (pI (nI s)), some (pI mi), some (pI ti), some (pI (bI (rom σ x t mi ∧ ¬ Ex (fun j => ¬ ti = (-1) ∧ σ 19 (36 * x + 6 * j + 4) = ti) i))), some (pI (nI i))] [] K I R Q := by
  obtain ⟨d9, rfl⟩ : ∃ d9, d = d9 + 1 := ⟨d - 1, by omega⟩
  intro n
  induction n with
  | zero => intro i hn; exact absurd hn (Nat.not_lt_zero _)
  | succ n ih =>
    intro i hn hi
    have hpp := hV.1.2
    have htt := hV.2.1.2
    have hdd := hV.2.2.1.2
    have h6 := (hV.2.2.2.2.2.1 x hx).2.1
    refine mw_iload i_92_35 (x := nI i) rfl ?_
    refine mw_aload i_92_36 (L := MO) rfl ?_
    refine mw_getR i_92_37 (MK_o hM) (q := some (MA 20)) (MK_r hM 20 (by decide)) ?_
    refine mw_iload i_92_38 (x := nI x) rfl ?_
    refine mw_iald i_92_39 (jn := x) (n := 1000) (by omega) (by omega) (show K (MA 20) = some (7, 1000) from MK_k hM 20 (by decide)) (by decide) (v := nI (mn σ x)) ((rm hm (by decide) x).trans (hV.2.2.2.2.2.1 x (by omega)).1) ?_
    refine mw_ic i_92_40 (p := (mn σ x) ≤ i) (nI_leI (by omega) (by omega)) (fun c1 => ?_) (fun c1 => ?_)
    · skip
      obtain rfl : i = mn σ x := by omega
      exact q
    · skip
      have J2 : Mw (d9 + 1) b 92 56 [some (pR (some MO)), some (pI (nI x)), some (pI (nI t)), some (pI (nI f)), some (pI (nI s)), some (pI mi), some (pI ti), some (pI (bI (rom σ x t mi ∧ ¬ Ex (fun j => ¬ ti = (-1) ∧ σ 19 (36 * x + 6 * j + 4) = ti) i))), some (pI (nI i))] [pI (bI (rom σ x t mi ∧ ¬ Ex (fun j => ¬ ti = (-1) ∧ σ 19 (36 * x + 6 * j + 4) = ti) (i + 1)))] K I R Q := by
        refine mw_istore i_92_56 (ls' := [some (pR (some MO)), some (pI (nI x)), some (pI (nI t)), some (pI (nI f)), some (pI (nI s)), some (pI mi), some (pI ti), some (pI (bI (rom σ x t mi ∧ ¬ Ex (fun j => ¬ ti = (-1) ∧ σ 19 (36 * x + 6 * j + 4) = ti) (i + 1)))), some (pI (nI i))]) rfl (Nat.le_of_ble_eq_true rfl) ?_
        refine mw_iinc i_92_57 (x := nI i) (v := nI (i + 1)) (ls' := [some (pR (some MO)), some (pI (nI x)), some (pI (nI t)), some (pI (nI f)), some (pI (nI s)), some (pI mi), some (pI ti), some (pI (bI (rom σ x t mi ∧ ¬ Ex (fun j => ¬ ti = (-1) ∧ σ 19 (36 * x + 6 * j + 4) = ti) (i + 1)))), some (pI (nI (i + 1)))]) rfl (nI_add _ _) rfl ?_
        refine mw_goto i_92_58 ?_
        exact ih (i + 1) (by omega) (by omega)
      refine mw_iload i_92_41 (x := bI (rom σ x t mi ∧ ¬ Ex (fun j => ¬ ti = (-1) ∧ σ 19 (36 * x + 6 * j + 4) = ti) i)) rfl ?_
      refine mw_eqB i_92_42 rfl (fun c3 => ?_) (fun c3 => ?_)
      · skip
        refine mw_const i_92_55 (v := nI 0) (by decide) ?_
        rw [show nI 0 = bI (rom σ x t mi ∧ ¬ Ex (fun j => ¬ ti = (-1) ∧ σ 19 (36 * x + 6 * j + 4) = ti) (i + 1)) from (bI_f ((fun h => c3 ⟨h.1, fun e => h.2 (Ex_u e)⟩))).symm]
        exact J2
      · skip
        refine mw_iload i_92_43 (x := ti) rfl ?_
        refine mw_const i_92_44 (v := (-1)) (by decide) ?_
        refine mw_ic i_92_45 (p := ti = (-1)) Iff.rfl (fun c4 => ?_) (fun c4 => ?_)
        · skip
          refine mw_const i_92_53 (v := nI 1) (by decide) ?_
          refine mw_goto i_92_54 ?_
          rw [show nI 1 = bI (rom σ x t mi ∧ ¬ Ex (fun j => ¬ ti = (-1) ∧ σ 19 (36 * x + 6 * j + 4) = ti) (i + 1)) from (bI_t (⟨c3.1, Ex_s c3.2 (fun h => h.1 c4)⟩)).symm]
          exact J2
        · skip
          refine mw_aload i_92_46 (L := MO) rfl ?_
          refine mw_iload i_92_47 (x := nI x) rfl ?_
          refine mw_iload i_92_48 (x := nI i) rfl ?_
          refine mw_const i_92_49 (v := nI 4) (by decide) ?_
          refine mw_callV i_92_50 mf_81 (as := [pI (nI x), pI (nI i), pI (nI 4)]) (rest := []) (d' := d9) (b' := b) (ls0 := [some (pR (some MO)), some (pI (nI x)), some (pI (nI i)), some (pI (nI 4))]) rfl rfl rfl (Nat.le_of_ble_eq_true rfl) (MK_o hM) rfl rfl rfl ?_
          refine m_of hM (by omega) (by omega) (by omega) ?_
          rw [show I (MA 19) (36 * x + 6 * i + 4) = σ 19 (36 * x + 6 * i + 4) from rm hm (by decide) _]
          refine aft_v ?_
          refine mw_iload i_92_51 (x := ti) rfl ?_
          refine mw_ic i_92_52 (p := (σ 19 (36 * x + 6 * i + 4)) = ti) Iff.rfl (fun c5 => ?_) (fun c5 => ?_)
          · skip
            refine mw_const i_92_55 (v := nI 0) (by decide) ?_
            rw [show nI 0 = bI (rom σ x t mi ∧ ¬ Ex (fun j => ¬ ti = (-1) ∧ σ 19 (36 * x + 6 * j + 4) = ti) (i + 1)) from (bI_f ((fun h => h.2 (Ex_n ⟨c4, c5⟩)))).symm]
            exact J2
          · skip
            refine mw_const i_92_53 (v := nI 1) (by decide) ?_
            refine mw_goto i_92_54 ?_
            rw [show nI 1 = bI (rom σ x t mi ∧ ¬ Ex (fun j => ¬ ti = (-1) ∧ σ 19 (36 * x + 6 * j + 4) = ti) (i + 1)) from (bI_t (⟨c3.1, Ex_s c3.2 (fun h => c5 h.2)⟩)).symm]
            exact J2
set_option maxRecDepth 20000 in
set_option maxHeartbeats 400000 in
theorem m_fits68 {d b : Nat} {K : KM} {I : IM} {R : RM} {Q : QT} {n0 : Nat} {σ : ST} {x t f s : Nat} {mi ti : Int32} {ch : Int32} (hd : 2 ≤ d) (hM : MK K R) (hm : mv I = σ) (hV : IV n0 σ) (hx : x < 1000) (hf : f < 10) (hs : s < 10) (hst : (ch = (-1) ∨ ch = nI f ∨ ch = nI s) ↔ stk σ ti f s) (q : Q (.inl (some (pI (bI ((rom σ x t mi ∧ ¬ hTi σ x ti) ∧ ¬ onC σ x (nI f) ∧ ¬ onC σ x (nI s) ∧ ¬ nI x < σ 6 f ∧ ¬ nI x < σ 6 s ∧ stk σ ti f s))))) K I R) : Mw d b N_X6_fits 68 [some (pR (some MO)), some (pI (nI x)), some (pI (nI t)), some (pI (nI f)), some (pI (nI s)), some (pI mi), some (pI ti), some (pI (bI (rom σ x t mi ∧ ¬ hTi σ x ti))), some (pI ch)] [] K I R Q := by
  obtain ⟨d9, rfl⟩ : ∃ d9, d = d9 + 1 := ⟨d - 1, by omega⟩
  have hpp := hV.1.2
  have htt := hV.2.1.2
  have hdd := hV.2.2.1.2
  refine mw_iload i_92_68 (x := bI (rom σ x t mi ∧ ¬ hTi σ x ti)) rfl ?_
  refine mw_eqB i_92_69 rfl (fun c1 => ?_) (fun c1 => ?_)
  · skip
    refine mw_const i_92_101 (v := nI 0) (by decide) ?_
    refine mw_iret i_92_102 (x := nI 0) (fun _ => (by decide)) ?_
    rw [show nI 0 = bI ((rom σ x t mi ∧ ¬ hTi σ x ti) ∧ ¬ onC σ x (nI f) ∧ ¬ onC σ x (nI s) ∧ ¬ nI x < σ 6 f ∧ ¬ nI x < σ 6 s ∧ stk σ ti f s) from (bI_f (fun h => c1 h.1)).symm]
    exact q
  · skip
    refine mw_aload i_92_70 (L := MO) rfl ?_
    refine mw_iload i_92_71 (x := nI x) rfl ?_
    refine mw_iload i_92_72 (x := nI f) rfl ?_
    refine mw_callV i_92_73 mf_90 (as := [pI (nI x), pI (nI f)]) (rest := []) (d' := d9) (b' := b) (ls0 := [some (pR (some MO)), some (pI (nI x)), some (pI (nI f)), none, none]) rfl rfl rfl (Nat.le_of_ble_eq_true rfl) (MK_o hM) rfl rfl rfl ?_
    refine m_onCard (by omega) hM hm hV hx ?_
    refine aft_v ?_
    refine mw_neB i_92_74 rfl (fun c2 => ?_) (fun c2 => ?_)
    · skip
      refine mw_const i_92_101 (v := nI 0) (by decide) ?_
      refine mw_iret i_92_102 (x := nI 0) (fun _ => (by decide)) ?_
      rw [show nI 0 = bI ((rom σ x t mi ∧ ¬ hTi σ x ti) ∧ ¬ onC σ x (nI f) ∧ ¬ onC σ x (nI s) ∧ ¬ nI x < σ 6 f ∧ ¬ nI x < σ 6 s ∧ stk σ ti f s) from (bI_f (fun h => h.2.1 c2)).symm]
      exact q
    · skip
      refine mw_aload i_92_75 (L := MO) rfl ?_
      refine mw_iload i_92_76 (x := nI x) rfl ?_
      refine mw_iload i_92_77 (x := nI s) rfl ?_
      refine mw_callV i_92_78 mf_90 (as := [pI (nI x), pI (nI s)]) (rest := []) (d' := d9) (b' := b) (ls0 := [some (pR (some MO)), some (pI (nI x)), some (pI (nI s)), none, none]) rfl rfl rfl (Nat.le_of_ble_eq_true rfl) (MK_o hM) rfl rfl rfl ?_
      refine m_onCard (by omega) hM hm hV hx ?_
      refine aft_v ?_
      refine mw_neB i_92_79 rfl (fun c3 => ?_) (fun c3 => ?_)
      · skip
        refine mw_const i_92_101 (v := nI 0) (by decide) ?_
        refine mw_iret i_92_102 (x := nI 0) (fun _ => (by decide)) ?_
        rw [show nI 0 = bI ((rom σ x t mi ∧ ¬ hTi σ x ti) ∧ ¬ onC σ x (nI f) ∧ ¬ onC σ x (nI s) ∧ ¬ nI x < σ 6 f ∧ ¬ nI x < σ 6 s ∧ stk σ ti f s) from (bI_f (fun h => h.2.2.1 c3)).symm]
        exact q
      · skip
        refine mw_aload i_92_80 (L := MO) rfl ?_
        refine mw_iload i_92_81 (x := nI f) rfl ?_
        refine mw_iload i_92_82 (x := nI x) rfl ?_
        refine mw_callV i_92_83 mf_82 (as := [pI (nI f), pI (nI x)]) (rest := []) (d' := d9) (b' := b) (ls0 := [some (pR (some MO)), some (pI (nI f)), some (pI (nI x))]) rfl rfl rfl (Nat.le_of_ble_eq_true rfl) (MK_o hM) rfl rfl rfl ?_
        refine m_isHurt hM (by omega) ?_
        rw [rm hm (by decide) f]
        refine aft_v ?_
        refine mw_neB i_92_84 rfl (fun c4 => ?_) (fun c4 => ?_)
        · skip
          refine mw_const i_92_101 (v := nI 0) (by decide) ?_
          refine mw_iret i_92_102 (x := nI 0) (fun _ => (by decide)) ?_
          rw [show nI 0 = bI ((rom σ x t mi ∧ ¬ hTi σ x ti) ∧ ¬ onC σ x (nI f) ∧ ¬ onC σ x (nI s) ∧ ¬ nI x < σ 6 f ∧ ¬ nI x < σ 6 s ∧ stk σ ti f s) from (bI_f (fun h => h.2.2.2.1 c4)).symm]
          exact q
        · skip
          refine mw_aload i_92_85 (L := MO) rfl ?_
          refine mw_iload i_92_86 (x := nI s) rfl ?_
          refine mw_iload i_92_87 (x := nI x) rfl ?_
          refine mw_callV i_92_88 mf_82 (as := [pI (nI s), pI (nI x)]) (rest := []) (d' := d9) (b' := b) (ls0 := [some (pR (some MO)), some (pI (nI s)), some (pI (nI x))]) rfl rfl rfl (Nat.le_of_ble_eq_true rfl) (MK_o hM) rfl rfl rfl ?_
          refine m_isHurt hM (by omega) ?_
          rw [rm hm (by decide) s]
          refine aft_v ?_
          refine mw_neB i_92_89 rfl (fun c5 => ?_) (fun c5 => ?_)
          · skip
            refine mw_const i_92_101 (v := nI 0) (by decide) ?_
            refine mw_iret i_92_102 (x := nI 0) (fun _ => (by decide)) ?_
            rw [show nI 0 = bI ((rom σ x t mi ∧ ¬ hTi σ x ti) ∧ ¬ onC σ x (nI f) ∧ ¬ onC σ x (nI s) ∧ ¬ nI x < σ 6 f ∧ ¬ nI x < σ 6 s ∧ stk σ ti f s) from (bI_f (fun h => h.2.2.2.2.1 c5)).symm]
            exact q
          · skip
            refine mw_iload i_92_90 (x := ch) rfl ?_
            refine mw_const i_92_91 (v := (-1)) (by decide) ?_
            refine mw_ic i_92_92 (p := ch = (-1)) Iff.rfl (fun c6 => ?_) (fun c6 => ?_)
            · skip
              refine mw_const i_92_99 (v := nI 1) (by decide) ?_
              refine mw_goto i_92_100 ?_
              refine mw_iret i_92_102 (x := nI 1) (fun _ => (by decide)) ?_
              rw [show nI 1 = bI ((rom σ x t mi ∧ ¬ hTi σ x ti) ∧ ¬ onC σ x (nI f) ∧ ¬ onC σ x (nI s) ∧ ¬ nI x < σ 6 f ∧ ¬ nI x < σ 6 s ∧ stk σ ti f s) from (bI_t (⟨c1, c2, c3, c4, c5, hst.mp (Or.inl c6)⟩)).symm]
              exact q
            · skip
              refine mw_iload i_92_93 (x := ch) rfl ?_
              refine mw_iload i_92_94 (x := nI f) rfl ?_
              refine mw_ic i_92_95 (p := ch = (nI f)) Iff.rfl (fun c7 => ?_) (fun c7 => ?_)
              · skip
                refine mw_const i_92_99 (v := nI 1) (by decide) ?_
                refine mw_goto i_92_100 ?_
                refine mw_iret i_92_102 (x := nI 1) (fun _ => (by decide)) ?_
                rw [show nI 1 = bI ((rom σ x t mi ∧ ¬ hTi σ x ti) ∧ ¬ onC σ x (nI f) ∧ ¬ onC σ x (nI s) ∧ ¬ nI x < σ 6 f ∧ ¬ nI x < σ 6 s ∧ stk σ ti f s) from (bI_t (⟨c1, c2, c3, c4, c5, hst.mp (Or.inr (Or.inl c7))⟩)).symm]
                exact q
              · skip
                refine mw_iload i_92_96 (x := ch) rfl ?_
                refine mw_iload i_92_97 (x := nI s) rfl ?_
                refine mw_ic i_92_98 (p := ¬ ch = (nI s)) Iff.rfl (fun c8 => ?_) (fun c8 => ?_)
                · skip
                  refine mw_const i_92_101 (v := nI 0) (by decide) ?_
                  refine mw_iret i_92_102 (x := nI 0) (fun _ => (by decide)) ?_
                  rw [show nI 0 = bI ((rom σ x t mi ∧ ¬ hTi σ x ti) ∧ ¬ onC σ x (nI f) ∧ ¬ onC σ x (nI s) ∧ ¬ nI x < σ 6 f ∧ ¬ nI x < σ 6 s ∧ stk σ ti f s) from (bI_f (fun h => (hst.mpr h.2.2.2.2.2).elim c6 (fun e => e.elim c7 c8))).symm]
                  exact q
                · skip
                  refine mw_const i_92_99 (v := nI 1) (by decide) ?_
                  refine mw_goto i_92_100 ?_
                  refine mw_iret i_92_102 (x := nI 1) (fun _ => (by decide)) ?_
                  rw [show nI 1 = bI ((rom σ x t mi ∧ ¬ hTi σ x ti) ∧ ¬ onC σ x (nI f) ∧ ¬ onC σ x (nI s) ∧ ¬ nI x < σ 6 f ∧ ¬ nI x < σ 6 s ∧ stk σ ti f s) from (bI_t (⟨c1, c2, c3, c4, c5, hst.mp (Or.inr (Or.inr (Classical.not_not.mp c8)))⟩)).symm]
                  exact q
set_option maxRecDepth 20000 in
set_option maxHeartbeats 400000 in
theorem m_fits59m {d b : Nat} {K : KM} {I : IM} {R : RM} {Q : QT} {n0 : Nat} {σ : ST} {x t f s : Nat} {mi : Int32} {j : Nat} (hd : 2 ≤ d) (hM : MK K R) (hm : mv I = σ) (hV : IV n0 σ) (hx : x < 1000) (hf : f < 10) (hs : s < 10) (hn9 : n0 ≤ 512) (q : Q (.inl (some (pI (bI ((rom σ x t mi ∧ ¬ hTi σ x (-1)) ∧ ¬ onC σ x (nI f) ∧ ¬ onC σ x (nI s) ∧ ¬ nI x < σ 6 f ∧ ¬ nI x < σ 6 s ∧ stk σ (-1) f s))))) K I R) : Mw d b N_X6_fits 59 [some (pR (some MO)), some (pI (nI x)), some (pI (nI t)), some (pI (nI f)), some (pI (nI s)), some (pI mi), some (pI (-1)), some (pI (bI (rom σ x t mi ∧ ¬ hTi σ x (-1)))), some (pI (nI j))] [] K I R Q := by
  obtain ⟨d9, rfl⟩ : ∃ d9, d = d9 + 1 := ⟨d - 1, by omega⟩
  have hpp := hV.1.2
  have htt := hV.2.1.2
  have hdd := hV.2.2.1.2
  refine mw_iload i_92_59 (x := (-1)) rfl ?_
  refine mw_const i_92_60 (v := (-1)) (by decide) ?_
  refine mw_ic i_92_61 (p := ¬ (-1) = (-1)) Iff.rfl (fun c1 => ?_) (fun c1 => ?_)
  · skip
    exact absurd rfl c1
  · skip
    refine mw_const i_92_62 (v := (-1)) (by decide) ?_
    refine mw_goto i_92_63 ?_
    refine mw_istore i_92_67 (ls' := [some (pR (some MO)), some (pI (nI x)), some (pI (nI t)), some (pI (nI f)), some (pI (nI s)), some (pI mi), some (pI (-1)), some (pI (bI (rom σ x t mi ∧ ¬ hTi σ x (-1)))), some (pI (-1))]) rfl (Nat.le_of_ble_eq_true rfl) ?_
    exact m_fits68 (by omega) hM hm hV hx hf hs ⟨fun _ => Or.inl rfl, fun _ => Or.inl rfl⟩ q
set_option maxRecDepth 20000 in
set_option maxHeartbeats 400000 in
theorem m_fits59u {d b : Nat} {K : KM} {I : IM} {R : RM} {Q : QT} {n0 : Nat} {σ : ST} {x t f s : Nat} {mi : Int32} {j : Nat} {u : Nat} (hd : 2 ≤ d) (hM : MK K R) (hm : mv I = σ) (hV : IV n0 σ) (hx : x < 1000) (hf : f < 10) (hs : s < 10) (hu : u < tn σ) (hn9 : n0 ≤ 512) (q : Q (.inl (some (pI (bI ((rom σ x t mi ∧ ¬ hTi σ x (nI u)) ∧ ¬ onC σ x (nI f) ∧ ¬ onC σ x (nI s) ∧ ¬ nI x < σ 6 f ∧ ¬ nI x < σ 6 s ∧ stk σ (nI u) f s))))) K I R) : Mw d b N_X6_fits 59 [some (pR (some MO)), some (pI (nI x)), some (pI (nI t)), some (pI (nI f)), some (pI (nI s)), some (pI mi), some (pI (nI u)), some (pI (bI (rom σ x t mi ∧ ¬ hTi σ x (nI u)))), some (pI (nI j))] [] K I R Q := by
  obtain ⟨d9, rfl⟩ : ∃ d9, d = d9 + 1 := ⟨d - 1, by omega⟩
  have hpp := hV.1.2
  have htt := hV.2.1.2
  have hdd := hV.2.2.1.2
  refine mw_iload i_92_59 (x := nI u) rfl ?_
  refine mw_const i_92_60 (v := (-1)) (by decide) ?_
  refine mw_ic i_92_61 (p := ¬ (nI u) = (-1)) Iff.rfl (fun c1 => ?_) (fun c1 => ?_)
  · skip
    refine mw_aload i_92_64 (L := MO) rfl ?_
    refine mw_iload i_92_65 (x := nI u) rfl ?_
    refine mw_callV i_92_66 mf_88 (as := [pI (nI u)]) (rest := []) (d' := d9) (b' := b) (ls0 := [some (pR (some MO)), some (pI (nI u))]) rfl rfl rfl (Nat.le_of_ble_eq_true rfl) (MK_o hM) rfl rfl rfl ?_
    refine m_champ hM hm hV (by omega) hn9 ?_
    refine aft_v ?_
    refine mw_istore i_92_67 (ls' := [some (pR (some MO)), some (pI (nI x)), some (pI (nI t)), some (pI (nI f)), some (pI (nI s)), some (pI mi), some (pI (nI u)), some (pI (bI (rom σ x t mi ∧ ¬ hTi σ x (nI u)))), some (pI (chO σ u))]) rfl (Nat.le_of_ble_eq_true rfl) ?_
    exact m_fits68 (by omega) hM hm hV hx hf hs ⟨fun h => Or.inr ⟨u, by omega, rfl, h⟩, fun h => h.elim (fun e => absurd e (nI_nm1 (by omega))) (fun ⟨u2, hu2, e2, h2⟩ => by have := nI_inj e2 (by omega) (by omega); subst this; exact h2)⟩ q
  · skip
    exact absurd (Classical.not_not.mp c1) (nI_nm1 (by omega))
set_option maxRecDepth 20000 in
set_option maxHeartbeats 400000 in
theorem m_fits {d b : Nat} {K : KM} {I : IM} {R : RM} {Q : QT} {n0 : Nat} {σ : ST} {x t f s : Nat} {mi ti : Int32} (hd : 2 ≤ d) (hM : MK K R) (hm : mv I = σ) (hV : IV n0 σ) (hx : x < 1000) (hf : f < 10) (hs : s < 10) (hti : ti = (-1) ∨ isN ti (tn σ)) (hn9 : n0 ≤ 512) (q : Q (.inl (some (pI (bI ((rom σ x t mi ∧ ¬ hTi σ x ti) ∧ ¬ onC σ x (nI f) ∧ ¬ onC σ x (nI s) ∧ ¬ nI x < σ 6 f ∧ ¬ nI x < σ 6 s ∧ stk σ ti f s))))) K I R) : Mw d b N_X6_fits 0 [some (pR (some MO)), some (pI (nI x)), some (pI (nI t)), some (pI (nI f)), some (pI (nI s)), some (pI mi), some (pI ti), none, none] [] K I R Q := by
  obtain ⟨d9, rfl⟩ : ∃ d9, d = d9 + 1 := ⟨d - 1, by omega⟩
  have hpp := hV.1.2
  have htt := hV.2.1.2
  have hdd := hV.2.2.1.2
  have h6 := (hV.2.2.2.2.2.1 x hx).2.1
  have J1 : Mw (d9 + 1) b 92 32 [some (pR (some MO)), some (pI (nI x)), some (pI (nI t)), some (pI (nI f)), some (pI (nI s)), some (pI mi), some (pI ti), none, none] [pI (bI (rom σ x t mi))] K I R Q := by
    refine mw_istore i_92_32 (ls' := [some (pR (some MO)), some (pI (nI x)), some (pI (nI t)), some (pI (nI f)), some (pI (nI s)), some (pI mi), some (pI ti), some (pI (bI (rom σ x t mi))), none]) rfl (Nat.le_of_ble_eq_true rfl) ?_
    refine mw_const i_92_33 (v := nI 0) (by decide) ?_
    refine mw_istore i_92_34 (ls' := [some (pR (some MO)), some (pI (nI x)), some (pI (nI t)), some (pI (nI f)), some (pI (nI s)), some (pI mi), some (pI ti), some (pI (bI (rom σ x t mi))), some (pI (nI 0))]) rfl (Nat.le_of_ble_eq_true rfl) ?_
    have z := m_fits_lp (b := b) (f := f) (s := s) (mi := mi) (t := t) (ti := ti) (d := d9 + 1) (Q := Q) (by omega) hM hm hV hx (by
      rcases hti with rfl | ⟨u, hu, rfl⟩
      · exact m_fits59m (by omega) hM hm hV hx hf hs hn9 q
      · exact m_fits59u (by omega) hM hm hV hx hf hs hu hn9 q) (mn σ x + 1) 0 (by omega) (by omega)
    rw [show bI (rom σ x t mi ∧ ¬ Ex (fun j => ¬ ti = (-1) ∧ σ 19 (36 * x + 6 * j + 4) = ti) 0) = bI (rom σ x t mi) from bI_congr ⟨fun h => h.1, fun h => ⟨h, Ex_0⟩⟩] at z
    exact z
  refine mw_aload i_92_0 (L := MO) rfl ?_
  refine mw_getR i_92_1 (MK_o hM) (q := some (MA 22)) (MK_r hM 22 (by decide)) ?_
  refine mw_iload i_92_2 (x := nI x) rfl ?_
  refine mw_bald i_92_3 (jn := x) (n := 1000) (by omega) (by omega) (show K (MA 22) = some (8, 1000) from MK_k hM 22 (by decide)) (v := σ 22 x) (rm hm (by decide) x) ?_
  refine mw_if i_92_4 (p := ¬ (σ 22 x) = nI 0) Iff.rfl (fun c2 => ?_) (fun c2 => ?_)
  · skip
    refine mw_const i_92_31 (v := nI 0) (by decide) ?_
    rw [show nI 0 = bI (rom σ x t mi) from (bI_f ((fun h => c2 h.1))).symm]
    exact J1
  · skip
    refine mw_aload i_92_5 (L := MO) rfl ?_
    refine mw_getR i_92_6 (MK_o hM) (q := some (MA 20)) (MK_r hM 20 (by decide)) ?_
    refine mw_iload i_92_7 (x := nI x) rfl ?_
    refine mw_iald i_92_8 (jn := x) (n := 1000) (by omega) (by omega) (show K (MA 20) = some (7, 1000) from MK_k hM 20 (by decide)) (by decide) (v := nI (mn σ x)) ((rm hm (by decide) x).trans (hV.2.2.2.2.2.1 x (by omega)).1) ?_
    refine mw_if i_92_9 (p := (nI (mn σ x)) = nI 0) Iff.rfl (fun c3 => ?_) (fun c3 => ?_)
    · skip
      refine mw_aload i_92_16 (L := MO) rfl ?_
      refine mw_getR i_92_17 (MK_o hM) (q := some (MA 20)) (MK_r hM 20 (by decide)) ?_
      refine mw_iload i_92_18 (x := nI x) rfl ?_
      refine mw_iald i_92_19 (jn := x) (n := 1000) (by omega) (by omega) (show K (MA 20) = some (7, 1000) from MK_k hM 20 (by decide)) (by decide) (v := nI (mn σ x)) ((rm hm (by decide) x).trans (hV.2.2.2.2.2.1 x (by omega)).1) ?_
      refine mw_const i_92_20 (v := nI 6) (by decide) ?_
      refine mw_ic i_92_21 (p := 6 ≤ (mn σ x)) (nI_leI (by omega) (by omega)) (fun c4 => ?_) (fun c4 => ?_)
      · skip
        refine mw_const i_92_31 (v := nI 0) (by decide) ?_
        rw [show nI 0 = bI (rom σ x t mi) from (bI_f ((fun h => absurd h.2.1 (by omega)))).symm]
        exact J1
      · skip
        refine mw_aload i_92_22 (L := MO) rfl ?_
        refine mw_iload i_92_23 (x := nI x) rfl ?_
        refine mw_callV i_92_24 mf_91 (as := [pI (nI x)]) (rest := []) (d' := d9) (b' := b) (ls0 := [some (pR (some MO)), some (pI (nI x)), none, none]) rfl rfl rfl (Nat.le_of_ble_eq_true rfl) (MK_o hM) rfl rfl rfl ?_
        refine m_minutes (by omega) hM hm hV hx ?_
        refine aft_v ?_
        refine mw_iload i_92_25 (x := mi) rfl ?_
        refine mw_iadd i_92_26 (w := ((smI (fun j => σ 19 (36 * x + 6 * j + 3)) (mn σ x)) + mi)) rfl ?_
        refine mw_const i_92_27 (v := nI 120) (by decide) ?_
        refine mw_ic i_92_28 (p := (nI 120) < ((smI (fun j => σ 19 (36 * x + 6 * j + 3)) (mn σ x)) + mi)) Iff.rfl (fun c5 => ?_) (fun c5 => ?_)
        · skip
          refine mw_const i_92_31 (v := nI 0) (by decide) ?_
          rw [show nI 0 = bI (rom σ x t mi) from (bI_f ((fun h => absurd h.2.2.1 (Int32.not_le.mpr c5)))).symm]
          exact J1
        · skip
          refine mw_const i_92_29 (v := nI 1) (by decide) ?_
          refine mw_goto i_92_30 ?_
          rw [show nI 1 = bI (rom σ x t mi) from (bI_t (⟨Classical.not_not.mp c2, by omega, Int32.not_lt.mp c5, Or.inl (nI_inj c3 (by omega) (by omega))⟩)).symm]
          exact J1
    · skip
      refine mw_aload i_92_10 (L := MO) rfl ?_
      refine mw_getR i_92_11 (MK_o hM) (q := some (MA 21)) (MK_r hM 21 (by decide)) ?_
      refine mw_iload i_92_12 (x := nI x) rfl ?_
      refine mw_iald i_92_13 (jn := x) (n := 1000) (by omega) (by omega) (show K (MA 21) = some (7, 1000) from MK_k hM 21 (by decide)) (by decide) (v := σ 21 x) (rm hm (by decide) x) ?_
      refine mw_iload i_92_14 (x := nI t) rfl ?_
      refine mw_ic i_92_15 (p := ¬ (σ 21 x) = (nI t)) Iff.rfl (fun c6 => ?_) (fun c6 => ?_)
      · skip
        refine mw_const i_92_31 (v := nI 0) (by decide) ?_
        rw [show nI 0 = bI (rom σ x t mi) from (bI_f ((fun h => h.2.2.2.elim (fun e => c3 (by rw [e])) c6))).symm]
        exact J1
      · skip
        refine mw_aload i_92_16 (L := MO) rfl ?_
        refine mw_getR i_92_17 (MK_o hM) (q := some (MA 20)) (MK_r hM 20 (by decide)) ?_
        refine mw_iload i_92_18 (x := nI x) rfl ?_
        refine mw_iald i_92_19 (jn := x) (n := 1000) (by omega) (by omega) (show K (MA 20) = some (7, 1000) from MK_k hM 20 (by decide)) (by decide) (v := nI (mn σ x)) ((rm hm (by decide) x).trans (hV.2.2.2.2.2.1 x (by omega)).1) ?_
        refine mw_const i_92_20 (v := nI 6) (by decide) ?_
        refine mw_ic i_92_21 (p := 6 ≤ (mn σ x)) (nI_leI (by omega) (by omega)) (fun c7 => ?_) (fun c7 => ?_)
        · skip
          refine mw_const i_92_31 (v := nI 0) (by decide) ?_
          rw [show nI 0 = bI (rom σ x t mi) from (bI_f ((fun h => absurd h.2.1 (by omega)))).symm]
          exact J1
        · skip
          refine mw_aload i_92_22 (L := MO) rfl ?_
          refine mw_iload i_92_23 (x := nI x) rfl ?_
          refine mw_callV i_92_24 mf_91 (as := [pI (nI x)]) (rest := []) (d' := d9) (b' := b) (ls0 := [some (pR (some MO)), some (pI (nI x)), none, none]) rfl rfl rfl (Nat.le_of_ble_eq_true rfl) (MK_o hM) rfl rfl rfl ?_
          refine m_minutes (by omega) hM hm hV hx ?_
          refine aft_v ?_
          refine mw_iload i_92_25 (x := mi) rfl ?_
          refine mw_iadd i_92_26 (w := ((smI (fun j => σ 19 (36 * x + 6 * j + 3)) (mn σ x)) + mi)) rfl ?_
          refine mw_const i_92_27 (v := nI 120) (by decide) ?_
          refine mw_ic i_92_28 (p := (nI 120) < ((smI (fun j => σ 19 (36 * x + 6 * j + 3)) (mn σ x)) + mi)) Iff.rfl (fun c8 => ?_) (fun c8 => ?_)
          · skip
            refine mw_const i_92_31 (v := nI 0) (by decide) ?_
            rw [show nI 0 = bI (rom σ x t mi) from (bI_f ((fun h => absurd h.2.2.1 (Int32.not_le.mpr c8)))).symm]
            exact J1
          · skip
            refine mw_const i_92_29 (v := nI 1) (by decide) ?_
            refine mw_goto i_92_30 ?_
            rw [show nI 1 = bI (rom σ x t mi) from (bI_t (⟨Classical.not_not.mp c2, by omega, Int32.not_lt.mp c8, Or.inr (Classical.not_not.mp c6)⟩)).symm]
            exact J1
