/-! the reference plays a match -/
noncomputable def pB (τ : ST) (t f s wi lo : Nat) (m : Int32) : ST := adS (adS (win τ t wi lo) 5 f m) 5 s m
theorem pm_R {τ : ST} {t f s wi lo : Nat} {m ti : Int32} : pmS τ t f s wi lo m ti (nI 1) = trS (trS (adS (adS (adS (adS τ 9 f (nI 1)) 9 s (nI 1)) 5 f m) 5 s m) f) s := by
  unfold pmS
  dsimp only
  rw [if_neg (show ¬ nI 1 = nI 0 by decide), if_neg (show ¬ nI 1 = nI 0 by decide)]
theorem pm_N0 {τ : ST} {t f s wi lo : Nat} {m : Int32} : pmS τ t f s wi lo m (-1) (nI 0) = trS (trS (pB τ t f s wi lo m) f) s := by
  unfold pmS hndI pB
  dsimp only
  rw [if_pos rfl, if_pos rfl, if_pos rfl]
theorem pm_Ny {τ : ST} {t f s wi lo u : Nat} {m : Int32} (hu : u < 4) (h : (chO (pB τ t f s wi lo m) u = (-1) ∨ chO (pB τ t f s wi lo m) u = nI f ∨ chO (pB τ t f s wi lo m) u = nI s) ∧ ¬ chO (pB τ t f s wi lo m) u = nI wi) : pmS τ t f s wi lo m (nI u) (nI 0) = trS (trS (crn (pB τ t f s wi lo m) u (lnO (pB τ t f s wi lo m) u) (nI wi) (pB τ t f s wi lo m 0 0)) f) s := by
  have e : hndI (pB τ t f s wi lo m) (nI u) (nI f) (nI s) (nI wi) = crn (pB τ t f s wi lo m) u (lnO (pB τ t f s wi lo m) u) (nI wi) (pB τ t f s wi lo m 0 0) := by
    unfold hndI hnd
    rw [if_neg (nI_nm1 (by omega)), nI_clamp (by omega), if_pos h]
  rw [← e]
  unfold pmS pB
  dsimp only
  rw [if_pos rfl, if_pos rfl]
theorem pm_Nn {τ : ST} {t f s wi lo u : Nat} {m : Int32} (hu : u < 4) (h : ¬ ((chO (pB τ t f s wi lo m) u = (-1) ∨ chO (pB τ t f s wi lo m) u = nI f ∨ chO (pB τ t f s wi lo m) u = nI s) ∧ ¬ chO (pB τ t f s wi lo m) u = nI wi)) : pmS τ t f s wi lo m (nI u) (nI 0) = trS (trS (pB τ t f s wi lo m) f) s := by
  have e : hndI (pB τ t f s wi lo m) (nI u) (nI f) (nI s) (nI wi) = pB τ t f s wi lo m := by
    unfold hndI hnd
    rw [if_neg (nI_nm1 (by omega)), nI_clamp (by omega), if_neg h]
  rw [← e]
  unfold pmS
  rw [e]
  dsimp only
  rw [if_pos rfl, if_pos rfl, show adS (adS (win τ t wi lo) 5 f m) 5 s m = pB τ t f s wi lo m from rfl, e]
theorem trS_o {σ : ST} {w k : Nat} (h : k ≠ 3) : trS σ w k = σ k := ups_ne h
theorem pB_17 {τ : ST} {t f s wi lo : Nat} {m : Int32} : pB τ t f s wi lo m 17 = τ 17 := by
  unfold pB adS
  rw [ups_ne (by decide), ups_ne (by decide), win_17]
set_option maxRecDepth 20000 in
set_option maxHeartbeats 400000 in
theorem m_pmR_m {d b : Nat} {K : KM} {I : IM} {R : RM} {Q : QT} {τ : ST} {x i f s w2 wi lo tw : Nat} {m : Int32} (hd : 3 ≤ d) (hM : MK K R) (hm : mv I = τ) (hx : x < 1000) (hi : i < 6) (h0 : τ 0 0 = nI x) (ht : τ 21 x = nI tw) (htw : tw < 4) (e0 : τ 19 (36 * x + 6 * i) = nI f) (e1 : τ 19 (36 * x + 6 * i + 1) = nI s) (e2 : τ 19 (36 * x + 6 * i + 2) = nI w2) (hw2 : w2 < 2) (ew : τ 19 (36 * x + 6 * i + w2) = nI wi) (e3 : τ 19 (36 * x + 6 * i + 3) = m) (hf : f < 10) (hs : s < 10) (hwi : wi < 10) (hlo : lo = if wi = f then s else f) (hr : ∀ w, w < 10 → τ 3 w = nI 0 ∨ τ 3 w = nI 1) (hLN : LN τ) (e4 : τ 19 (36 * x + 6 * i + 4) = (-1)) (e5 : τ 19 (36 * x + 6 * i + 5) = nI 1) (q : ∀ I', FrA I I' → mv I' = pmS τ tw f s wi lo m (-1) (nI 1) → ∀ v, v = wrt τ tw f + wrt τ tw s → Q (.inl (some (pI v))) K I' R) : Mw d b N_X6_playsMatch 0 [some (pR (some MO)), some (pI (nI i)), none, none, none, none, none, none, none, none, none] [] K I R Q := by
  obtain ⟨d9, rfl⟩ : ∃ d9, d = d9 + 1 := ⟨d - 1, by omega⟩
  refine mw_aload i_112_0 (L := MO) rfl ?_
  refine mw_getR i_112_1 (MK_o hM) (q := some (MA 21)) (MK_r hM 21 (by decide)) ?_
  refine mw_aload i_112_2 (L := MO) rfl ?_
  refine mw_get i_112_3 (MK_o hM) (v := nI x) ((rs hm (by decide)).trans h0) ?_
  refine mw_iald i_112_4 (jn := x) (n := 1000) (by omega) (by omega) (show K (MA 21) = some (7, 1000) from MK_k hM 21 (by decide)) (by decide) (v := nI tw) ((rm hm (by decide) _).trans ht) ?_
  refine mw_istore i_112_5 (ls' := [some (pR (some MO)), some (pI (nI i)), some (pI (nI tw)), none, none, none, none, none, none, none, none]) rfl (Nat.le_of_ble_eq_true rfl) ?_
  refine mw_aload i_112_6 (L := MO) rfl ?_
  refine mw_aload i_112_7 (L := MO) rfl ?_
  refine mw_get i_112_8 (MK_o hM) (v := nI x) ((rs hm (by decide)).trans h0) ?_
  refine mw_iload i_112_9 (x := nI i) rfl ?_
  refine mw_const i_112_10 (v := nI 0) (by decide) ?_
  refine mw_callV i_112_11 mf_81 (as := [pI (nI x), pI (nI i), pI (nI 0)]) (rest := []) (d' := d9) (b' := b) (ls0 := [some (pR (some MO)), some (pI (nI x)), some (pI (nI i)), some (pI (nI 0))]) rfl rfl rfl (Nat.le_of_ble_eq_true rfl) (MK_o hM) rfl rfl rfl ?_
  refine m_of hM (by omega) (by omega) (by omega) ?_
  rw [show I (MA 19) (36 * x + 6 * i + 0) = nI f from ((rm hm (by decide) _).trans e0)]
  refine aft_v ?_
  refine mw_istore i_112_12 (ls' := [some (pR (some MO)), some (pI (nI i)), some (pI (nI tw)), some (pI (nI f)), none, none, none, none, none, none, none]) rfl (Nat.le_of_ble_eq_true rfl) ?_
  refine mw_aload i_112_13 (L := MO) rfl ?_
  refine mw_aload i_112_14 (L := MO) rfl ?_
  refine mw_get i_112_15 (MK_o hM) (v := nI x) ((rs hm (by decide)).trans h0) ?_
  refine mw_iload i_112_16 (x := nI i) rfl ?_
  refine mw_const i_112_17 (v := nI 1) (by decide) ?_
  refine mw_callV i_112_18 mf_81 (as := [pI (nI x), pI (nI i), pI (nI 1)]) (rest := []) (d' := d9) (b' := b) (ls0 := [some (pR (some MO)), some (pI (nI x)), some (pI (nI i)), some (pI (nI 1))]) rfl rfl rfl (Nat.le_of_ble_eq_true rfl) (MK_o hM) rfl rfl rfl ?_
  refine m_of hM (by omega) (by omega) (by omega) ?_
  rw [show I (MA 19) (36 * x + 6 * i + 1) = nI s from ((rm hm (by decide) _).trans e1)]
  refine aft_v ?_
  refine mw_istore i_112_19 (ls' := [some (pR (some MO)), some (pI (nI i)), some (pI (nI tw)), some (pI (nI f)), some (pI (nI s)), none, none, none, none, none, none]) rfl (Nat.le_of_ble_eq_true rfl) ?_
  refine mw_aload i_112_20 (L := MO) rfl ?_
  refine mw_aload i_112_21 (L := MO) rfl ?_
  refine mw_get i_112_22 (MK_o hM) (v := nI x) ((rs hm (by decide)).trans h0) ?_
  refine mw_iload i_112_23 (x := nI i) rfl ?_
  refine mw_aload i_112_24 (L := MO) rfl ?_
  refine mw_aload i_112_25 (L := MO) rfl ?_
  refine mw_get i_112_26 (MK_o hM) (v := nI x) ((rs hm (by decide)).trans h0) ?_
  refine mw_iload i_112_27 (x := nI i) rfl ?_
  refine mw_const i_112_28 (v := nI 2) (by decide) ?_
  refine mw_callV i_112_29 mf_81 (as := [pI (nI x), pI (nI i), pI (nI 2)]) (rest := [pI (nI i), pI (nI x), pR (some MO)]) (d' := d9) (b' := b) (ls0 := [some (pR (some MO)), some (pI (nI x)), some (pI (nI i)), some (pI (nI 2))]) rfl rfl rfl (Nat.le_of_ble_eq_true rfl) (MK_o hM) rfl rfl rfl ?_
  refine m_of hM (by omega) (by omega) (by omega) ?_
  rw [show I (MA 19) (36 * x + 6 * i + 2) = nI w2 from ((rm hm (by decide) _).trans e2)]
  refine aft_v ?_
  refine mw_callV i_112_30 mf_81 (as := [pI (nI x), pI (nI i), pI (nI w2)]) (rest := []) (d' := d9) (b' := b) (ls0 := [some (pR (some MO)), some (pI (nI x)), some (pI (nI i)), some (pI (nI w2))]) rfl rfl rfl (Nat.le_of_ble_eq_true rfl) (MK_o hM) rfl rfl rfl ?_
  refine m_of hM (by omega) (by omega) (by omega) ?_
  rw [show I (MA 19) (36 * x + 6 * i + w2) = nI wi from ((rm hm (by decide) _).trans ew)]
  refine aft_v ?_
  refine mw_istore i_112_31 (ls' := [some (pR (some MO)), some (pI (nI i)), some (pI (nI tw)), some (pI (nI f)), some (pI (nI s)), some (pI (nI wi)), none, none, none, none, none]) rfl (Nat.le_of_ble_eq_true rfl) ?_
  refine mw_aload i_112_32 (L := MO) rfl ?_
  refine mw_aload i_112_33 (L := MO) rfl ?_
  refine mw_get i_112_34 (MK_o hM) (v := nI x) ((rs hm (by decide)).trans h0) ?_
  refine mw_iload i_112_35 (x := nI i) rfl ?_
  refine mw_const i_112_36 (v := nI 4) (by decide) ?_
  refine mw_callV i_112_37 mf_81 (as := [pI (nI x), pI (nI i), pI (nI 4)]) (rest := []) (d' := d9) (b' := b) (ls0 := [some (pR (some MO)), some (pI (nI x)), some (pI (nI i)), some (pI (nI 4))]) rfl rfl rfl (Nat.le_of_ble_eq_true rfl) (MK_o hM) rfl rfl rfl ?_
  refine m_of hM (by omega) (by omega) (by omega) ?_
  rw [show I (MA 19) (36 * x + 6 * i + 4) = (-1) from ((rm hm (by decide) _).trans e4)]
  refine aft_v ?_
  refine mw_istore i_112_38 (ls' := [some (pR (some MO)), some (pI (nI i)), some (pI (nI tw)), some (pI (nI f)), some (pI (nI s)), some (pI (nI wi)), some (pI (-1)), none, none, none, none]) rfl (Nat.le_of_ble_eq_true rfl) ?_
  refine mw_aload i_112_39 (L := MO) rfl ?_
  refine mw_iload i_112_40 (x := nI tw) rfl ?_
  refine mw_iload i_112_41 (x := nI f) rfl ?_
  refine mw_callV i_112_42 mf_110 (as := [pI (nI tw), pI (nI f)]) (rest := []) (d' := d9) (b' := b) (ls0 := [some (pR (some MO)), some (pI (nI tw)), some (pI (nI f)), none, none]) rfl rfl rfl (Nat.le_of_ble_eq_true rfl) (MK_o hM) rfl rfl rfl ?_
  refine m_worth hM hm htw (by omega) ?_
  refine aft_v ?_
  refine mw_aload i_112_43 (L := MO) rfl ?_
  refine mw_iload i_112_44 (x := nI tw) rfl ?_
  refine mw_iload i_112_45 (x := nI s) rfl ?_
  refine mw_callV i_112_46 mf_110 (as := [pI (nI tw), pI (nI s)]) (rest := [pI (wrt τ tw f)]) (d' := d9) (b' := b) (ls0 := [some (pR (some MO)), some (pI (nI tw)), some (pI (nI s)), none, none]) rfl rfl rfl (Nat.le_of_ble_eq_true rfl) (MK_o hM) rfl rfl rfl ?_
  refine m_worth hM hm htw (by omega) ?_
  refine aft_v ?_
  refine mw_iadd i_112_47 (w := ((wrt τ tw f) + (wrt τ tw s))) rfl ?_
  refine mw_istore i_112_48 (ls' := [some (pR (some MO)), some (pI (nI i)), some (pI (nI tw)), some (pI (nI f)), some (pI (nI s)), some (pI (nI wi)), some (pI (-1)), some (pI ((wrt τ tw f) + (wrt τ tw s))), none, none, none]) rfl (Nat.le_of_ble_eq_true rfl) ?_
  have J1 : Mw (d9 + 1) b 112 60 [some (pR (some MO)), some (pI (nI i)), some (pI (nI tw)), some (pI (nI f)), some (pI (nI s)), some (pI (nI wi)), some (pI (-1)), some (pI ((wrt τ tw f) + (wrt τ tw s))), none, none, none] [pI (bI True)] K I R Q := by
    refine mw_istore i_112_60 (ls' := [some (pR (some MO)), some (pI (nI i)), some (pI (nI tw)), some (pI (nI f)), some (pI (nI s)), some (pI (nI wi)), some (pI (-1)), some (pI ((wrt τ tw f) + (wrt τ tw s))), some (pI (bI True)), none, none]) rfl (Nat.le_of_ble_eq_true rfl) ?_
    refine mw_iload i_112_61 (x := bI True) rfl ?_
    refine mw_eqB i_112_62 rfl (fun c2 => ?_) (fun c2 => ?_)
    · skip
      exact absurd trivial c2
    · skip
      refine mw_aload i_112_63 (L := MO) rfl ?_
      refine mw_getR i_112_64 (MK_o hM) (q := some (MA 9)) (MK_r hM 9 (by decide)) ?_
      refine mw_iload i_112_65 (x := nI f) rfl ?_
      refine mw_dup2 i_112_66 trivial trivial ?_
      refine mw_iald i_112_67 (jn := f) (n := 10) (by omega) (by omega) (show K (MA 9) = some (7, 10) from MK_k hM 9 (by decide)) (by decide) (v := τ 9 f) (rm hm (by decide) _) ?_
      refine mw_const i_112_68 (v := nI 1) (by decide) ?_
      refine mw_iadd i_112_69 (w := ((τ 9 f) + (nI 1))) rfl ?_
      obtain ⟨I23, e23⟩ : ∃ I23, I23 = up2 I (MA 9) f ((τ 9 f) + (nI 1)) := ⟨_, rfl⟩
      refine mw_iast i_112_70 (jn := f) (n := 10) (by omega) (by omega) (x := ((τ 9 f) + (nI 1))) (show K (MA 9) = some (7, 10) from MK_k hM 9 (by decide)) (I' := I23) e23.symm ?_
      refine mw_aload i_112_71 (L := MO) rfl ?_
      refine mw_getR i_112_72 (MK_o hM) (q := some (MA 9)) (MK_r hM 9 (by decide)) ?_
      refine mw_iload i_112_73 (x := nI s) rfl ?_
      refine mw_dup2 i_112_74 trivial trivial ?_
      obtain ⟨S24, eS24⟩ : ∃ S24, S24 = ups τ 9 f ((τ 9 f) + (nI 1)) := ⟨_, rfl⟩
      have hm24 : mv I23 = S24 := by rw [e23, mv_a (by decide) (by decide) (by decide) (by decide), hm, eS24]
      refine mw_iald i_112_75 (jn := s) (n := 10) (by omega) (by omega) (show K (MA 9) = some (7, 10) from MK_k hM 9 (by decide)) (by decide) (v := S24 9 s) (rm hm24 (by decide) _) ?_
      refine mw_const i_112_76 (v := nI 1) (by decide) ?_
      refine mw_iadd i_112_77 (w := ((S24 9 s) + (nI 1))) rfl ?_
      obtain ⟨I25, e25⟩ : ∃ I25, I25 = up2 I23 (MA 9) s ((S24 9 s) + (nI 1)) := ⟨_, rfl⟩
      refine mw_iast i_112_78 (jn := s) (n := 10) (by omega) (by omega) (x := ((S24 9 s) + (nI 1))) (show K (MA 9) = some (7, 10) from MK_k hM 9 (by decide)) (I' := I25) e25.symm ?_
      refine mw_goto i_112_79 ?_
      refine mw_aload i_112_90 (L := MO) rfl ?_
      refine mw_getR i_112_91 (MK_o hM) (q := some (MA 5)) (MK_r hM 5 (by decide)) ?_
      refine mw_iload i_112_92 (x := nI f) rfl ?_
      refine mw_dup2 i_112_93 trivial trivial ?_
      obtain ⟨S26, eS26⟩ : ∃ S26, S26 = ups S24 9 s ((S24 9 s) + (nI 1)) := ⟨_, rfl⟩
      have hm26 : mv I25 = S26 := by rw [e25, mv_a (by decide) (by decide) (by decide) (by decide), hm24, eS26]
      refine mw_iald i_112_94 (jn := f) (n := 10) (by omega) (by omega) (show K (MA 5) = some (7, 10) from MK_k hM 5 (by decide)) (by decide) (v := τ 5 f) ((rm hm26 (by decide) _).trans (by rw [eS26, ups_ne (by decide), eS24, ups_ne (by decide)])) ?_
      refine mw_aload i_112_95 (L := MO) rfl ?_
      refine mw_aload i_112_96 (L := MO) rfl ?_
      refine mw_get i_112_97 (MK_o hM) (v := nI x) ((rs hm26 (by decide)).trans (by rw [eS26, ups_ne (by decide), eS24, ups_ne (by decide)]; exact h0)) ?_
      refine mw_iload i_112_98 (x := nI i) rfl ?_
      refine mw_const i_112_99 (v := nI 3) (by decide) ?_
      refine mw_callV i_112_100 mf_81 (as := [pI (nI x), pI (nI i), pI (nI 3)]) (rest := [pI (τ 5 f), pI (nI f), pR (some (MA 5))]) (d' := d9) (b' := b) (ls0 := [some (pR (some MO)), some (pI (nI x)), some (pI (nI i)), some (pI (nI 3))]) rfl rfl rfl (Nat.le_of_ble_eq_true rfl) (MK_o hM) rfl rfl rfl ?_
      refine m_of hM (by omega) (by omega) (by omega) ?_
      rw [show I25 (MA 19) (36 * x + 6 * i + 3) = m from ((rm hm26 (by decide) _).trans (by rw [eS26, ups_ne (by decide), eS24, ups_ne (by decide)]; exact e3))]
      refine aft_v ?_
      refine mw_iadd i_112_101 (w := ((τ 5 f) + m)) rfl ?_
      obtain ⟨I27, e27⟩ : ∃ I27, I27 = up2 I25 (MA 5) f ((τ 5 f) + m) := ⟨_, rfl⟩
      refine mw_iast i_112_102 (jn := f) (n := 10) (by omega) (by omega) (x := ((τ 5 f) + m)) (show K (MA 5) = some (7, 10) from MK_k hM 5 (by decide)) (I' := I27) e27.symm ?_
      refine mw_aload i_112_103 (L := MO) rfl ?_
      refine mw_getR i_112_104 (MK_o hM) (q := some (MA 5)) (MK_r hM 5 (by decide)) ?_
      refine mw_iload i_112_105 (x := nI s) rfl ?_
      refine mw_dup2 i_112_106 trivial trivial ?_
      obtain ⟨S28, eS28⟩ : ∃ S28, S28 = ups S26 5 f ((τ 5 f) + m) := ⟨_, rfl⟩
      have hm28 : mv I27 = S28 := by rw [e27, mv_a (by decide) (by decide) (by decide) (by decide), hm26, eS28]
      refine mw_iald i_112_107 (jn := s) (n := 10) (by omega) (by omega) (show K (MA 5) = some (7, 10) from MK_k hM 5 (by decide)) (by decide) (v := S28 5 s) (rm hm28 (by decide) _) ?_
      refine mw_aload i_112_108 (L := MO) rfl ?_
      refine mw_aload i_112_109 (L := MO) rfl ?_
      refine mw_get i_112_110 (MK_o hM) (v := nI x) ((rs hm28 (by decide)).trans (by rw [eS28, ups_ne (by decide), eS26, ups_ne (by decide), eS24, ups_ne (by decide)]; exact h0)) ?_
      refine mw_iload i_112_111 (x := nI i) rfl ?_
      refine mw_const i_112_112 (v := nI 3) (by decide) ?_
      refine mw_callV i_112_113 mf_81 (as := [pI (nI x), pI (nI i), pI (nI 3)]) (rest := [pI (S28 5 s), pI (nI s), pR (some (MA 5))]) (d' := d9) (b' := b) (ls0 := [some (pR (some MO)), some (pI (nI x)), some (pI (nI i)), some (pI (nI 3))]) rfl rfl rfl (Nat.le_of_ble_eq_true rfl) (MK_o hM) rfl rfl rfl ?_
      refine m_of hM (by omega) (by omega) (by omega) ?_
      rw [show I27 (MA 19) (36 * x + 6 * i + 3) = m from ((rm hm28 (by decide) _).trans (by rw [eS28, ups_ne (by decide), eS26, ups_ne (by decide), eS24, ups_ne (by decide)]; exact e3))]
      refine aft_v ?_
      refine mw_iadd i_112_114 (w := ((S28 5 s) + m)) rfl ?_
      obtain ⟨I29, e29⟩ : ∃ I29, I29 = up2 I27 (MA 5) s ((S28 5 s) + m) := ⟨_, rfl⟩
      refine mw_iast i_112_115 (jn := s) (n := 10) (by omega) (by omega) (x := ((S28 5 s) + m)) (show K (MA 5) = some (7, 10) from MK_k hM 5 (by decide)) (I' := I29) e29.symm ?_
      refine mw_iload i_112_116 (x := (-1)) rfl ?_
      refine mw_const i_112_117 (v := (-1)) (by decide) ?_
      refine mw_ic i_112_118 (p := ¬ (-1) = (-1)) Iff.rfl (fun c10 => ?_) (fun c10 => ?_)
      · skip
        exact absurd rfl c10
      · skip
        refine mw_const i_112_119 (v := (-1)) (by decide) ?_
        refine mw_goto i_112_120 ?_
        refine mw_istore i_112_124 (ls' := [some (pR (some MO)), some (pI (nI i)), some (pI (nI tw)), some (pI (nI f)), some (pI (nI s)), some (pI (nI wi)), some (pI (-1)), some (pI ((wrt τ tw f) + (wrt τ tw s))), some (pI (bI True)), some (pI (-1)), none]) rfl (Nat.le_of_ble_eq_true rfl) ?_
        refine mw_iload i_112_125 (x := (-1)) rfl ?_
        refine mw_const i_112_126 (v := (-1)) (by decide) ?_
        refine mw_ic i_112_127 (p := (-1) = (-1)) Iff.rfl (fun c11 => ?_) (fun c11 => ?_)
        · skip
          refine mw_const i_112_139 (v := nI 0) (by decide) ?_
          refine mw_istore i_112_140 (ls' := [some (pR (some MO)), some (pI (nI i)), some (pI (nI tw)), some (pI (nI f)), some (pI (nI s)), some (pI (nI wi)), some (pI (-1)), some (pI ((wrt τ tw f) + (wrt τ tw s))), some (pI (bI True)), some (pI (-1)), some (pI (nI 0))]) rfl (Nat.le_of_ble_eq_true rfl) ?_
          refine mw_iload i_112_141 (x := bI True) rfl ?_
          refine mw_neB i_112_142 rfl (fun c12 => ?_) (fun c12 => ?_)
          · skip
            refine mw_aload i_112_152 (L := MO) rfl ?_
            refine mw_iload i_112_153 (x := nI f) rfl ?_
            obtain ⟨S33, eS33⟩ : ∃ S33, S33 = ups S28 5 s ((S28 5 s) + m) := ⟨_, rfl⟩
            have hm33 : mv I29 = S33 := by rw [e29, mv_a (by decide) (by decide) (by decide) (by decide), hm28, eS33]
            have hr1 : ∀ w, w < 10 → S33 3 w = nI 0 ∨ S33 3 w = nI 1 := fun w hw => by rw [eS33, ups_ne (by decide), eS28, ups_ne (by decide), eS26, ups_ne (by decide), eS24, ups_ne (by decide)]; exact hr w hw
            refine mw_callV i_112_154 mf_109 (as := [pI (nI f)]) (rest := []) (d' := d9) (b' := b) (ls0 := [some (pR (some MO)), some (pI (nI f)), none, none, none]) rfl rfl rfl (Nat.le_of_ble_eq_true rfl) (MK_o hM) rfl rfl rfl ?_
            refine m_turns hM hm33 (by omega) (hr1 _ (by omega)) ?_
            intro I4 hF4 hmT1
            obtain ⟨S34, eS34⟩ : ∃ S34, S34 = trS S33 f := ⟨_, rfl⟩
            rw [← eS34] at hmT1
            refine aft_n ?_
            refine mw_aload i_112_155 (L := MO) rfl ?_
            refine mw_iload i_112_156 (x := nI s) rfl ?_
            refine mw_callV i_112_157 mf_109 (as := [pI (nI s)]) (rest := []) (d' := d9) (b' := b) (ls0 := [some (pR (some MO)), some (pI (nI s)), none, none, none]) rfl rfl rfl (Nat.le_of_ble_eq_true rfl) (MK_o hM) rfl rfl rfl ?_
            refine m_turns hM hmT1 (by omega) (by rw [eS34]; exact trS_3 hr1 (by omega) (by omega)) ?_
            intro I5 hF5 hmT2
            obtain ⟨S35, eS35⟩ : ∃ S35, S35 = trS S34 s := ⟨_, rfl⟩
            rw [← eS35] at hmT2
            refine aft_n ?_
            refine mw_iload i_112_158 (x := ((wrt τ tw f) + (wrt τ tw s))) rfl ?_
            refine mw_iretI i_112_159 (x := ((wrt τ tw f) + (wrt τ tw s))) rt_112 ?_
            have hSB : S33 = adS (adS (adS (adS τ 9 f (nI 1)) 9 s (nI 1)) 5 f m) 5 s m := by rw [eS33, eS28, eS26, eS24]; unfold adS; rw [ups_ne (show 5 ≠ 9 by decide), ups_ne (show 5 ≠ 9 by decide)]
            refine q _ (FrA_tr (FrA_tr ((e29.symm ▸ FrA_up ((e27.symm ▸ FrA_up ((e25.symm ▸ FrA_up ((e23.symm ▸ FrA_up (FrA_rfl) rfl)) rfl)) rfl)) rfl)) hF4) hF5) ?_ _ rfl
            rw [hmT2, eS35, eS34, hSB, pm_R]
          · skip
            exact absurd trivial c12
        · skip
          exact absurd rfl c11
  refine mw_aload i_112_49 (L := MO) rfl ?_
  refine mw_aload i_112_50 (L := MO) rfl ?_
  refine mw_get i_112_51 (MK_o hM) (v := nI x) ((rs hm (by decide)).trans h0) ?_
  refine mw_iload i_112_52 (x := nI i) rfl ?_
  refine mw_const i_112_53 (v := nI 5) (by decide) ?_
  refine mw_callV i_112_54 mf_81 (as := [pI (nI x), pI (nI i), pI (nI 5)]) (rest := []) (d' := d9) (b' := b) (ls0 := [some (pR (some MO)), some (pI (nI x)), some (pI (nI i)), some (pI (nI 5))]) rfl rfl rfl (Nat.le_of_ble_eq_true rfl) (MK_o hM) rfl rfl rfl ?_
  refine m_of hM (by omega) (by omega) (by omega) ?_
  rw [show I (MA 19) (36 * x + 6 * i + 5) = nI 1 from ((rm hm (by decide) _).trans e5)]
  refine aft_v ?_
  refine mw_const i_112_55 (v := nI 1) (by decide) ?_
  refine mw_icF i_112_56 (show ¬ (¬ nI 1 = nI 1) by decide) ?_
  refine mw_const i_112_57 (v := nI 1) (by decide) ?_
  refine mw_goto i_112_58 ?_
  rw [show nI 1 = bI (True) from (bI_t (trivial)).symm]
  exact J1
set_option maxRecDepth 20000 in
set_option maxHeartbeats 400000 in
theorem m_pmR_u {d b : Nat} {K : KM} {I : IM} {R : RM} {Q : QT} {τ : ST} {x i f s w2 wi lo tw : Nat} {m : Int32} {u : Nat} (hd : 3 ≤ d) (hM : MK K R) (hm : mv I = τ) (hx : x < 1000) (hi : i < 6) (h0 : τ 0 0 = nI x) (ht : τ 21 x = nI tw) (htw : tw < 4) (e0 : τ 19 (36 * x + 6 * i) = nI f) (e1 : τ 19 (36 * x + 6 * i + 1) = nI s) (e2 : τ 19 (36 * x + 6 * i + 2) = nI w2) (hw2 : w2 < 2) (ew : τ 19 (36 * x + 6 * i + w2) = nI wi) (e3 : τ 19 (36 * x + 6 * i + 3) = m) (hf : f < 10) (hs : s < 10) (hwi : wi < 10) (hlo : lo = if wi = f then s else f) (hr : ∀ w, w < 10 → τ 3 w = nI 0 ∨ τ 3 w = nI 1) (hLN : LN τ) (hu : u < 4) (e4 : τ 19 (36 * x + 6 * i + 4) = nI u) (e5 : τ 19 (36 * x + 6 * i + 5) = nI 1) (q : ∀ I', FrA I I' → mv I' = pmS τ tw f s wi lo m (nI u) (nI 1) → ∀ v, v = wrt τ tw f + wrt τ tw s → Q (.inl (some (pI v))) K I' R) : Mw d b N_X6_playsMatch 0 [some (pR (some MO)), some (pI (nI i)), none, none, none, none, none, none, none, none, none] [] K I R Q := by
  obtain ⟨d9, rfl⟩ : ∃ d9, d = d9 + 1 := ⟨d - 1, by omega⟩
  refine mw_aload i_112_0 (L := MO) rfl ?_
  refine mw_getR i_112_1 (MK_o hM) (q := some (MA 21)) (MK_r hM 21 (by decide)) ?_
  refine mw_aload i_112_2 (L := MO) rfl ?_
  refine mw_get i_112_3 (MK_o hM) (v := nI x) ((rs hm (by decide)).trans h0) ?_
  refine mw_iald i_112_4 (jn := x) (n := 1000) (by omega) (by omega) (show K (MA 21) = some (7, 1000) from MK_k hM 21 (by decide)) (by decide) (v := nI tw) ((rm hm (by decide) _).trans ht) ?_
  refine mw_istore i_112_5 (ls' := [some (pR (some MO)), some (pI (nI i)), some (pI (nI tw)), none, none, none, none, none, none, none, none]) rfl (Nat.le_of_ble_eq_true rfl) ?_
  refine mw_aload i_112_6 (L := MO) rfl ?_
  refine mw_aload i_112_7 (L := MO) rfl ?_
  refine mw_get i_112_8 (MK_o hM) (v := nI x) ((rs hm (by decide)).trans h0) ?_
  refine mw_iload i_112_9 (x := nI i) rfl ?_
  refine mw_const i_112_10 (v := nI 0) (by decide) ?_
  refine mw_callV i_112_11 mf_81 (as := [pI (nI x), pI (nI i), pI (nI 0)]) (rest := []) (d' := d9) (b' := b) (ls0 := [some (pR (some MO)), some (pI (nI x)), some (pI (nI i)), some (pI (nI 0))]) rfl rfl rfl (Nat.le_of_ble_eq_true rfl) (MK_o hM) rfl rfl rfl ?_
  refine m_of hM (by omega) (by omega) (by omega) ?_
  rw [show I (MA 19) (36 * x + 6 * i + 0) = nI f from ((rm hm (by decide) _).trans e0)]
  refine aft_v ?_
  refine mw_istore i_112_12 (ls' := [some (pR (some MO)), some (pI (nI i)), some (pI (nI tw)), some (pI (nI f)), none, none, none, none, none, none, none]) rfl (Nat.le_of_ble_eq_true rfl) ?_
  refine mw_aload i_112_13 (L := MO) rfl ?_
  refine mw_aload i_112_14 (L := MO) rfl ?_
  refine mw_get i_112_15 (MK_o hM) (v := nI x) ((rs hm (by decide)).trans h0) ?_
  refine mw_iload i_112_16 (x := nI i) rfl ?_
  refine mw_const i_112_17 (v := nI 1) (by decide) ?_
  refine mw_callV i_112_18 mf_81 (as := [pI (nI x), pI (nI i), pI (nI 1)]) (rest := []) (d' := d9) (b' := b) (ls0 := [some (pR (some MO)), some (pI (nI x)), some (pI (nI i)), some (pI (nI 1))]) rfl rfl rfl (Nat.le_of_ble_eq_true rfl) (MK_o hM) rfl rfl rfl ?_
  refine m_of hM (by omega) (by omega) (by omega) ?_
  rw [show I (MA 19) (36 * x + 6 * i + 1) = nI s from ((rm hm (by decide) _).trans e1)]
  refine aft_v ?_
  refine mw_istore i_112_19 (ls' := [some (pR (some MO)), some (pI (nI i)), some (pI (nI tw)), some (pI (nI f)), some (pI (nI s)), none, none, none, none, none, none]) rfl (Nat.le_of_ble_eq_true rfl) ?_
  refine mw_aload i_112_20 (L := MO) rfl ?_
  refine mw_aload i_112_21 (L := MO) rfl ?_
  refine mw_get i_112_22 (MK_o hM) (v := nI x) ((rs hm (by decide)).trans h0) ?_
  refine mw_iload i_112_23 (x := nI i) rfl ?_
  refine mw_aload i_112_24 (L := MO) rfl ?_
  refine mw_aload i_112_25 (L := MO) rfl ?_
  refine mw_get i_112_26 (MK_o hM) (v := nI x) ((rs hm (by decide)).trans h0) ?_
  refine mw_iload i_112_27 (x := nI i) rfl ?_
  refine mw_const i_112_28 (v := nI 2) (by decide) ?_
  refine mw_callV i_112_29 mf_81 (as := [pI (nI x), pI (nI i), pI (nI 2)]) (rest := [pI (nI i), pI (nI x), pR (some MO)]) (d' := d9) (b' := b) (ls0 := [some (pR (some MO)), some (pI (nI x)), some (pI (nI i)), some (pI (nI 2))]) rfl rfl rfl (Nat.le_of_ble_eq_true rfl) (MK_o hM) rfl rfl rfl ?_
  refine m_of hM (by omega) (by omega) (by omega) ?_
  rw [show I (MA 19) (36 * x + 6 * i + 2) = nI w2 from ((rm hm (by decide) _).trans e2)]
  refine aft_v ?_
  refine mw_callV i_112_30 mf_81 (as := [pI (nI x), pI (nI i), pI (nI w2)]) (rest := []) (d' := d9) (b' := b) (ls0 := [some (pR (some MO)), some (pI (nI x)), some (pI (nI i)), some (pI (nI w2))]) rfl rfl rfl (Nat.le_of_ble_eq_true rfl) (MK_o hM) rfl rfl rfl ?_
  refine m_of hM (by omega) (by omega) (by omega) ?_
  rw [show I (MA 19) (36 * x + 6 * i + w2) = nI wi from ((rm hm (by decide) _).trans ew)]
  refine aft_v ?_
  refine mw_istore i_112_31 (ls' := [some (pR (some MO)), some (pI (nI i)), some (pI (nI tw)), some (pI (nI f)), some (pI (nI s)), some (pI (nI wi)), none, none, none, none, none]) rfl (Nat.le_of_ble_eq_true rfl) ?_
  refine mw_aload i_112_32 (L := MO) rfl ?_
  refine mw_aload i_112_33 (L := MO) rfl ?_
  refine mw_get i_112_34 (MK_o hM) (v := nI x) ((rs hm (by decide)).trans h0) ?_
  refine mw_iload i_112_35 (x := nI i) rfl ?_
  refine mw_const i_112_36 (v := nI 4) (by decide) ?_
  refine mw_callV i_112_37 mf_81 (as := [pI (nI x), pI (nI i), pI (nI 4)]) (rest := []) (d' := d9) (b' := b) (ls0 := [some (pR (some MO)), some (pI (nI x)), some (pI (nI i)), some (pI (nI 4))]) rfl rfl rfl (Nat.le_of_ble_eq_true rfl) (MK_o hM) rfl rfl rfl ?_
  refine m_of hM (by omega) (by omega) (by omega) ?_
  rw [show I (MA 19) (36 * x + 6 * i + 4) = nI u from ((rm hm (by decide) _).trans e4)]
  refine aft_v ?_
  refine mw_istore i_112_38 (ls' := [some (pR (some MO)), some (pI (nI i)), some (pI (nI tw)), some (pI (nI f)), some (pI (nI s)), some (pI (nI wi)), some (pI (nI u)), none, none, none, none]) rfl (Nat.le_of_ble_eq_true rfl) ?_
  refine mw_aload i_112_39 (L := MO) rfl ?_
  refine mw_iload i_112_40 (x := nI tw) rfl ?_
  refine mw_iload i_112_41 (x := nI f) rfl ?_
  refine mw_callV i_112_42 mf_110 (as := [pI (nI tw), pI (nI f)]) (rest := []) (d' := d9) (b' := b) (ls0 := [some (pR (some MO)), some (pI (nI tw)), some (pI (nI f)), none, none]) rfl rfl rfl (Nat.le_of_ble_eq_true rfl) (MK_o hM) rfl rfl rfl ?_
  refine m_worth hM hm htw (by omega) ?_
  refine aft_v ?_
  refine mw_aload i_112_43 (L := MO) rfl ?_
  refine mw_iload i_112_44 (x := nI tw) rfl ?_
  refine mw_iload i_112_45 (x := nI s) rfl ?_
  refine mw_callV i_112_46 mf_110 (as := [pI (nI tw), pI (nI s)]) (rest := [pI (wrt τ tw f)]) (d' := d9) (b' := b) (ls0 := [some (pR (some MO)), some (pI (nI tw)), some (pI (nI s)), none, none]) rfl rfl rfl (Nat.le_of_ble_eq_true rfl) (MK_o hM) rfl rfl rfl ?_
  refine m_worth hM hm htw (by omega) ?_
  refine aft_v ?_
  refine mw_iadd i_112_47 (w := ((wrt τ tw f) + (wrt τ tw s))) rfl ?_
  refine mw_istore i_112_48 (ls' := [some (pR (some MO)), some (pI (nI i)), some (pI (nI tw)), some (pI (nI f)), some (pI (nI s)), some (pI (nI wi)), some (pI (nI u)), some (pI ((wrt τ tw f) + (wrt τ tw s))), none, none, none]) rfl (Nat.le_of_ble_eq_true rfl) ?_
  have J1 : Mw (d9 + 1) b 112 60 [some (pR (some MO)), some (pI (nI i)), some (pI (nI tw)), some (pI (nI f)), some (pI (nI s)), some (pI (nI wi)), some (pI (nI u)), some (pI ((wrt τ tw f) + (wrt τ tw s))), none, none, none] [pI (bI True)] K I R Q := by
    refine mw_istore i_112_60 (ls' := [some (pR (some MO)), some (pI (nI i)), some (pI (nI tw)), some (pI (nI f)), some (pI (nI s)), some (pI (nI wi)), some (pI (nI u)), some (pI ((wrt τ tw f) + (wrt τ tw s))), some (pI (bI True)), none, none]) rfl (Nat.le_of_ble_eq_true rfl) ?_
    refine mw_iload i_112_61 (x := bI True) rfl ?_
    refine mw_eqB i_112_62 rfl (fun c2 => ?_) (fun c2 => ?_)
    · skip
      exact absurd trivial c2
    · skip
      refine mw_aload i_112_63 (L := MO) rfl ?_
      refine mw_getR i_112_64 (MK_o hM) (q := some (MA 9)) (MK_r hM 9 (by decide)) ?_
      refine mw_iload i_112_65 (x := nI f) rfl ?_
      refine mw_dup2 i_112_66 trivial trivial ?_
      refine mw_iald i_112_67 (jn := f) (n := 10) (by omega) (by omega) (show K (MA 9) = some (7, 10) from MK_k hM 9 (by decide)) (by decide) (v := τ 9 f) (rm hm (by decide) _) ?_
      refine mw_const i_112_68 (v := nI 1) (by decide) ?_
      refine mw_iadd i_112_69 (w := ((τ 9 f) + (nI 1))) rfl ?_
      obtain ⟨I23, e23⟩ : ∃ I23, I23 = up2 I (MA 9) f ((τ 9 f) + (nI 1)) := ⟨_, rfl⟩
      refine mw_iast i_112_70 (jn := f) (n := 10) (by omega) (by omega) (x := ((τ 9 f) + (nI 1))) (show K (MA 9) = some (7, 10) from MK_k hM 9 (by decide)) (I' := I23) e23.symm ?_
      refine mw_aload i_112_71 (L := MO) rfl ?_
      refine mw_getR i_112_72 (MK_o hM) (q := some (MA 9)) (MK_r hM 9 (by decide)) ?_
      refine mw_iload i_112_73 (x := nI s) rfl ?_
      refine mw_dup2 i_112_74 trivial trivial ?_
      obtain ⟨S24, eS24⟩ : ∃ S24, S24 = ups τ 9 f ((τ 9 f) + (nI 1)) := ⟨_, rfl⟩
      have hm24 : mv I23 = S24 := by rw [e23, mv_a (by decide) (by decide) (by decide) (by decide), hm, eS24]
      refine mw_iald i_112_75 (jn := s) (n := 10) (by omega) (by omega) (show K (MA 9) = some (7, 10) from MK_k hM 9 (by decide)) (by decide) (v := S24 9 s) (rm hm24 (by decide) _) ?_
      refine mw_const i_112_76 (v := nI 1) (by decide) ?_
      refine mw_iadd i_112_77 (w := ((S24 9 s) + (nI 1))) rfl ?_
      obtain ⟨I25, e25⟩ : ∃ I25, I25 = up2 I23 (MA 9) s ((S24 9 s) + (nI 1)) := ⟨_, rfl⟩
      refine mw_iast i_112_78 (jn := s) (n := 10) (by omega) (by omega) (x := ((S24 9 s) + (nI 1))) (show K (MA 9) = some (7, 10) from MK_k hM 9 (by decide)) (I' := I25) e25.symm ?_
      refine mw_goto i_112_79 ?_
      refine mw_aload i_112_90 (L := MO) rfl ?_
      refine mw_getR i_112_91 (MK_o hM) (q := some (MA 5)) (MK_r hM 5 (by decide)) ?_
      refine mw_iload i_112_92 (x := nI f) rfl ?_
      refine mw_dup2 i_112_93 trivial trivial ?_
      obtain ⟨S26, eS26⟩ : ∃ S26, S26 = ups S24 9 s ((S24 9 s) + (nI 1)) := ⟨_, rfl⟩
      have hm26 : mv I25 = S26 := by rw [e25, mv_a (by decide) (by decide) (by decide) (by decide), hm24, eS26]
      refine mw_iald i_112_94 (jn := f) (n := 10) (by omega) (by omega) (show K (MA 5) = some (7, 10) from MK_k hM 5 (by decide)) (by decide) (v := τ 5 f) ((rm hm26 (by decide) _).trans (by rw [eS26, ups_ne (by decide), eS24, ups_ne (by decide)])) ?_
      refine mw_aload i_112_95 (L := MO) rfl ?_
      refine mw_aload i_112_96 (L := MO) rfl ?_
      refine mw_get i_112_97 (MK_o hM) (v := nI x) ((rs hm26 (by decide)).trans (by rw [eS26, ups_ne (by decide), eS24, ups_ne (by decide)]; exact h0)) ?_
      refine mw_iload i_112_98 (x := nI i) rfl ?_
      refine mw_const i_112_99 (v := nI 3) (by decide) ?_
      refine mw_callV i_112_100 mf_81 (as := [pI (nI x), pI (nI i), pI (nI 3)]) (rest := [pI (τ 5 f), pI (nI f), pR (some (MA 5))]) (d' := d9) (b' := b) (ls0 := [some (pR (some MO)), some (pI (nI x)), some (pI (nI i)), some (pI (nI 3))]) rfl rfl rfl (Nat.le_of_ble_eq_true rfl) (MK_o hM) rfl rfl rfl ?_
      refine m_of hM (by omega) (by omega) (by omega) ?_
      rw [show I25 (MA 19) (36 * x + 6 * i + 3) = m from ((rm hm26 (by decide) _).trans (by rw [eS26, ups_ne (by decide), eS24, ups_ne (by decide)]; exact e3))]
      refine aft_v ?_
      refine mw_iadd i_112_101 (w := ((τ 5 f) + m)) rfl ?_
      obtain ⟨I27, e27⟩ : ∃ I27, I27 = up2 I25 (MA 5) f ((τ 5 f) + m) := ⟨_, rfl⟩
      refine mw_iast i_112_102 (jn := f) (n := 10) (by omega) (by omega) (x := ((τ 5 f) + m)) (show K (MA 5) = some (7, 10) from MK_k hM 5 (by decide)) (I' := I27) e27.symm ?_
      refine mw_aload i_112_103 (L := MO) rfl ?_
      refine mw_getR i_112_104 (MK_o hM) (q := some (MA 5)) (MK_r hM 5 (by decide)) ?_
      refine mw_iload i_112_105 (x := nI s) rfl ?_
      refine mw_dup2 i_112_106 trivial trivial ?_
      obtain ⟨S28, eS28⟩ : ∃ S28, S28 = ups S26 5 f ((τ 5 f) + m) := ⟨_, rfl⟩
      have hm28 : mv I27 = S28 := by rw [e27, mv_a (by decide) (by decide) (by decide) (by decide), hm26, eS28]
      refine mw_iald i_112_107 (jn := s) (n := 10) (by omega) (by omega) (show K (MA 5) = some (7, 10) from MK_k hM 5 (by decide)) (by decide) (v := S28 5 s) (rm hm28 (by decide) _) ?_
      refine mw_aload i_112_108 (L := MO) rfl ?_
      refine mw_aload i_112_109 (L := MO) rfl ?_
      refine mw_get i_112_110 (MK_o hM) (v := nI x) ((rs hm28 (by decide)).trans (by rw [eS28, ups_ne (by decide), eS26, ups_ne (by decide), eS24, ups_ne (by decide)]; exact h0)) ?_
      refine mw_iload i_112_111 (x := nI i) rfl ?_
      refine mw_const i_112_112 (v := nI 3) (by decide) ?_
      refine mw_callV i_112_113 mf_81 (as := [pI (nI x), pI (nI i), pI (nI 3)]) (rest := [pI (S28 5 s), pI (nI s), pR (some (MA 5))]) (d' := d9) (b' := b) (ls0 := [some (pR (some MO)), some (pI (nI x)), some (pI (nI i)), some (pI (nI 3))]) rfl rfl rfl (Nat.le_of_ble_eq_true rfl) (MK_o hM) rfl rfl rfl ?_
      refine m_of hM (by omega) (by omega) (by omega) ?_
      rw [show I27 (MA 19) (36 * x + 6 * i + 3) = m from ((rm hm28 (by decide) _).trans (by rw [eS28, ups_ne (by decide), eS26, ups_ne (by decide), eS24, ups_ne (by decide)]; exact e3))]
      refine aft_v ?_
      refine mw_iadd i_112_114 (w := ((S28 5 s) + m)) rfl ?_
      obtain ⟨I29, e29⟩ : ∃ I29, I29 = up2 I27 (MA 5) s ((S28 5 s) + m) := ⟨_, rfl⟩
      refine mw_iast i_112_115 (jn := s) (n := 10) (by omega) (by omega) (x := ((S28 5 s) + m)) (show K (MA 5) = some (7, 10) from MK_k hM 5 (by decide)) (I' := I29) e29.symm ?_
      refine mw_iload i_112_116 (x := nI u) rfl ?_
      refine mw_const i_112_117 (v := (-1)) (by decide) ?_
      refine mw_ic i_112_118 (p := ¬ (nI u) = (-1)) Iff.rfl (fun c10 => ?_) (fun c10 => ?_)
      · skip
        refine mw_aload i_112_121 (L := MO) rfl ?_
        refine mw_iload i_112_122 (x := nI u) rfl ?_
        obtain ⟨S31, eS31⟩ : ∃ S31, S31 = ups S28 5 s ((S28 5 s) + m) := ⟨_, rfl⟩
        have hm31 : mv I29 = S31 := by rw [e29, mv_a (by decide) (by decide) (by decide) (by decide), hm28, eS31]
        have h17 : S31 17 = τ 17 := by rw [eS31, ups_ne (by decide), eS28, ups_ne (by decide), eS26, ups_ne (by decide), eS24, ups_ne (by decide)]
        have eln : lnO S31 u = lnO τ u := by unfold lnO; rw [h17]
        refine mw_callV i_112_123 mf_88 (as := [pI (nI u)]) (rest := []) (d' := d9) (b' := b) (ls0 := [some (pR (some MO)), some (pI (nI u))]) rfl rfl rfl (Nat.le_of_ble_eq_true rfl) (MK_o hM) rfl rfl rfl ?_
        refine m_champG hM hm31 hu (by rw [h17, eln]; exact (hLN u hu).1) (by rw [eln]; have := (hLN u hu).2; omega) ?_
        refine aft_v ?_
        refine mw_istore i_112_124 (ls' := [some (pR (some MO)), some (pI (nI i)), some (pI (nI tw)), some (pI (nI f)), some (pI (nI s)), some (pI (nI wi)), some (pI (nI u)), some (pI ((wrt τ tw f) + (wrt τ tw s))), some (pI (bI True)), some (pI (chO S31 u)), none]) rfl (Nat.le_of_ble_eq_true rfl) ?_
        refine mw_iload i_112_125 (x := nI u) rfl ?_
        refine mw_const i_112_126 (v := (-1)) (by decide) ?_
        refine mw_ic i_112_127 (p := (nI u) = (-1)) Iff.rfl (fun c12 => ?_) (fun c12 => ?_)
        · skip
          exact absurd c12 (nI_nm1 (by omega))
        · skip
          have J13 : Mw (d9 + 1) b 112 140 [some (pR (some MO)), some (pI (nI i)), some (pI (nI tw)), some (pI (nI f)), some (pI (nI s)), some (pI (nI wi)), some (pI (nI u)), some (pI ((wrt τ tw f) + (wrt τ tw s))), some (pI (bI True)), some (pI (chO S31 u)), none] [pI (bI (chO S31 u = (-1) ∨ chO S31 u = nI f ∨ chO S31 u = nI s))] K I29 R Q := by
            refine mw_istore i_112_140 (ls' := [some (pR (some MO)), some (pI (nI i)), some (pI (nI tw)), some (pI (nI f)), some (pI (nI s)), some (pI (nI wi)), some (pI (nI u)), some (pI ((wrt τ tw f) + (wrt τ tw s))), some (pI (bI True)), some (pI (chO S31 u)), some (pI (bI (chO S31 u = (-1) ∨ chO S31 u = nI f ∨ chO S31 u = nI s)))]) rfl (Nat.le_of_ble_eq_true rfl) ?_
            refine mw_iload i_112_141 (x := bI True) rfl ?_
            refine mw_neB i_112_142 rfl (fun c14 => ?_) (fun c14 => ?_)
            · skip
              refine mw_aload i_112_152 (L := MO) rfl ?_
              refine mw_iload i_112_153 (x := nI f) rfl ?_
              have hr1 : ∀ w, w < 10 → S31 3 w = nI 0 ∨ S31 3 w = nI 1 := fun w hw => by rw [eS31, ups_ne (by decide), eS28, ups_ne (by decide), eS26, ups_ne (by decide), eS24, ups_ne (by decide)]; exact hr w hw
              refine mw_callV i_112_154 mf_109 (as := [pI (nI f)]) (rest := []) (d' := d9) (b' := b) (ls0 := [some (pR (some MO)), some (pI (nI f)), none, none, none]) rfl rfl rfl (Nat.le_of_ble_eq_true rfl) (MK_o hM) rfl rfl rfl ?_
              refine m_turns hM hm31 (by omega) (hr1 _ (by omega)) ?_
              intro I4 hF4 hmT1
              obtain ⟨S35, eS35⟩ : ∃ S35, S35 = trS S31 f := ⟨_, rfl⟩
              rw [← eS35] at hmT1
              refine aft_n ?_
              refine mw_aload i_112_155 (L := MO) rfl ?_
              refine mw_iload i_112_156 (x := nI s) rfl ?_
              refine mw_callV i_112_157 mf_109 (as := [pI (nI s)]) (rest := []) (d' := d9) (b' := b) (ls0 := [some (pR (some MO)), some (pI (nI s)), none, none, none]) rfl rfl rfl (Nat.le_of_ble_eq_true rfl) (MK_o hM) rfl rfl rfl ?_
              refine m_turns hM hmT1 (by omega) (by rw [eS35]; exact trS_3 hr1 (by omega) (by omega)) ?_
              intro I5 hF5 hmT2
              obtain ⟨S36, eS36⟩ : ∃ S36, S36 = trS S35 s := ⟨_, rfl⟩
              rw [← eS36] at hmT2
              refine aft_n ?_
              refine mw_iload i_112_158 (x := ((wrt τ tw f) + (wrt τ tw s))) rfl ?_
              refine mw_iretI i_112_159 (x := ((wrt τ tw f) + (wrt τ tw s))) rt_112 ?_
              have hSB : S31 = adS (adS (adS (adS τ 9 f (nI 1)) 9 s (nI 1)) 5 f m) 5 s m := by rw [eS31, eS28, eS26, eS24]; unfold adS; rw [ups_ne (show 5 ≠ 9 by decide), ups_ne (show 5 ≠ 9 by decide)]
              refine q _ (FrA_tr (FrA_tr ((e29.symm ▸ FrA_up ((e27.symm ▸ FrA_up ((e25.symm ▸ FrA_up ((e23.symm ▸ FrA_up (FrA_rfl) rfl)) rfl)) rfl)) rfl)) hF4) hF5) ?_ _ rfl
              rw [hmT2, eS36, eS35, hSB, pm_R]
            · skip
              exact absurd trivial c14
          refine mw_iload i_112_128 (x := chO S31 u) rfl ?_
          refine mw_const i_112_129 (v := (-1)) (by decide) ?_
          refine mw_ic i_112_130 (p := (chO S31 u) = (-1)) Iff.rfl (fun c17 => ?_) (fun c17 => ?_)
          · skip
            refine mw_const i_112_137 (v := nI 1) (by decide) ?_
            refine mw_goto i_112_138 ?_
            rw [show nI 1 = bI (chO S31 u = (-1) ∨ chO S31 u = nI f ∨ chO S31 u = nI s) from (bI_t ((Or.inl c17))).symm]
            exact J13
          · skip
            refine mw_iload i_112_131 (x := chO S31 u) rfl ?_
            refine mw_iload i_112_132 (x := nI f) rfl ?_
            refine mw_ic i_112_133 (p := (chO S31 u) = (nI f)) Iff.rfl (fun c18 => ?_) (fun c18 => ?_)
            · skip
              refine mw_const i_112_137 (v := nI 1) (by decide) ?_
              refine mw_goto i_112_138 ?_
              rw [show nI 1 = bI (chO S31 u = (-1) ∨ chO S31 u = nI f ∨ chO S31 u = nI s) from (bI_t ((Or.inr (Or.inl c18)))).symm]
              exact J13
            · skip
              refine mw_iload i_112_134 (x := chO S31 u) rfl ?_
              refine mw_iload i_112_135 (x := nI s) rfl ?_
              refine mw_ic i_112_136 (p := ¬ (chO S31 u) = (nI s)) Iff.rfl (fun c19 => ?_) (fun c19 => ?_)
              · skip
                refine mw_const i_112_139 (v := nI 0) (by decide) ?_
                rw [show nI 0 = bI (chO S31 u = (-1) ∨ chO S31 u = nI f ∨ chO S31 u = nI s) from (bI_f ((fun h => h.elim c17 (fun h => h.elim c18 c19)))).symm]
                exact J13
              · skip
                refine mw_const i_112_137 (v := nI 1) (by decide) ?_
                refine mw_goto i_112_138 ?_
                rw [show nI 1 = bI (chO S31 u = (-1) ∨ chO S31 u = nI f ∨ chO S31 u = nI s) from (bI_t ((Or.inr (Or.inr (Classical.not_not.mp c19))))).symm]
                exact J13
      · skip
        exact absurd (Classical.not_not.mp c10) (nI_nm1 (by omega))
  refine mw_aload i_112_49 (L := MO) rfl ?_
  refine mw_aload i_112_50 (L := MO) rfl ?_
  refine mw_get i_112_51 (MK_o hM) (v := nI x) ((rs hm (by decide)).trans h0) ?_
  refine mw_iload i_112_52 (x := nI i) rfl ?_
  refine mw_const i_112_53 (v := nI 5) (by decide) ?_
  refine mw_callV i_112_54 mf_81 (as := [pI (nI x), pI (nI i), pI (nI 5)]) (rest := []) (d' := d9) (b' := b) (ls0 := [some (pR (some MO)), some (pI (nI x)), some (pI (nI i)), some (pI (nI 5))]) rfl rfl rfl (Nat.le_of_ble_eq_true rfl) (MK_o hM) rfl rfl rfl ?_
  refine m_of hM (by omega) (by omega) (by omega) ?_
  rw [show I (MA 19) (36 * x + 6 * i + 5) = nI 1 from ((rm hm (by decide) _).trans e5)]
  refine aft_v ?_
  refine mw_const i_112_55 (v := nI 1) (by decide) ?_
  refine mw_icF i_112_56 (show ¬ (¬ nI 1 = nI 1) by decide) ?_
  refine mw_const i_112_57 (v := nI 1) (by decide) ?_
  refine mw_goto i_112_58 ?_
  rw [show nI 1 = bI (True) from (bI_t (trivial)).symm]
  exact J1
set_option maxRecDepth 20000 in
set_option maxHeartbeats 400000 in
theorem m_pmN_m {d b : Nat} {K : KM} {I : IM} {R : RM} {Q : QT} {τ : ST} {x i f s w2 wi lo tw : Nat} {m : Int32} (hd : 3 ≤ d) (hM : MK K R) (hm : mv I = τ) (hx : x < 1000) (hi : i < 6) (h0 : τ 0 0 = nI x) (ht : τ 21 x = nI tw) (htw : tw < 4) (e0 : τ 19 (36 * x + 6 * i) = nI f) (e1 : τ 19 (36 * x + 6 * i + 1) = nI s) (e2 : τ 19 (36 * x + 6 * i + 2) = nI w2) (hw2 : w2 < 2) (ew : τ 19 (36 * x + 6 * i + w2) = nI wi) (e3 : τ 19 (36 * x + 6 * i + 3) = m) (hf : f < 10) (hs : s < 10) (hwi : wi < 10) (hlo : lo = if wi = f then s else f) (hr : ∀ w, w < 10 → τ 3 w = nI 0 ∨ τ 3 w = nI 1) (hLN : LN τ) (e4 : τ 19 (36 * x + 6 * i + 4) = (-1)) (e5 : τ 19 (36 * x + 6 * i + 5) = nI 0) (q : ∀ I', FrA I I' → mv I' = pmS τ tw f s wi lo m (-1) (nI 0) → ∀ v, v = wrt τ tw f + wrt τ tw s → Q (.inl (some (pI v))) K I' R) : Mw d b N_X6_playsMatch 0 [some (pR (some MO)), some (pI (nI i)), none, none, none, none, none, none, none, none, none] [] K I R Q := by
  obtain ⟨d9, rfl⟩ : ∃ d9, d = d9 + 1 := ⟨d - 1, by omega⟩
  refine mw_aload i_112_0 (L := MO) rfl ?_
  refine mw_getR i_112_1 (MK_o hM) (q := some (MA 21)) (MK_r hM 21 (by decide)) ?_
  refine mw_aload i_112_2 (L := MO) rfl ?_
  refine mw_get i_112_3 (MK_o hM) (v := nI x) ((rs hm (by decide)).trans h0) ?_
  refine mw_iald i_112_4 (jn := x) (n := 1000) (by omega) (by omega) (show K (MA 21) = some (7, 1000) from MK_k hM 21 (by decide)) (by decide) (v := nI tw) ((rm hm (by decide) _).trans ht) ?_
  refine mw_istore i_112_5 (ls' := [some (pR (some MO)), some (pI (nI i)), some (pI (nI tw)), none, none, none, none, none, none, none, none]) rfl (Nat.le_of_ble_eq_true rfl) ?_
  refine mw_aload i_112_6 (L := MO) rfl ?_
  refine mw_aload i_112_7 (L := MO) rfl ?_
  refine mw_get i_112_8 (MK_o hM) (v := nI x) ((rs hm (by decide)).trans h0) ?_
  refine mw_iload i_112_9 (x := nI i) rfl ?_
  refine mw_const i_112_10 (v := nI 0) (by decide) ?_
  refine mw_callV i_112_11 mf_81 (as := [pI (nI x), pI (nI i), pI (nI 0)]) (rest := []) (d' := d9) (b' := b) (ls0 := [some (pR (some MO)), some (pI (nI x)), some (pI (nI i)), some (pI (nI 0))]) rfl rfl rfl (Nat.le_of_ble_eq_true rfl) (MK_o hM) rfl rfl rfl ?_
  refine m_of hM (by omega) (by omega) (by omega) ?_
  rw [show I (MA 19) (36 * x + 6 * i + 0) = nI f from ((rm hm (by decide) _).trans e0)]
  refine aft_v ?_
  refine mw_istore i_112_12 (ls' := [some (pR (some MO)), some (pI (nI i)), some (pI (nI tw)), some (pI (nI f)), none, none, none, none, none, none, none]) rfl (Nat.le_of_ble_eq_true rfl) ?_
  refine mw_aload i_112_13 (L := MO) rfl ?_
  refine mw_aload i_112_14 (L := MO) rfl ?_
  refine mw_get i_112_15 (MK_o hM) (v := nI x) ((rs hm (by decide)).trans h0) ?_
  refine mw_iload i_112_16 (x := nI i) rfl ?_
  refine mw_const i_112_17 (v := nI 1) (by decide) ?_
  refine mw_callV i_112_18 mf_81 (as := [pI (nI x), pI (nI i), pI (nI 1)]) (rest := []) (d' := d9) (b' := b) (ls0 := [some (pR (some MO)), some (pI (nI x)), some (pI (nI i)), some (pI (nI 1))]) rfl rfl rfl (Nat.le_of_ble_eq_true rfl) (MK_o hM) rfl rfl rfl ?_
  refine m_of hM (by omega) (by omega) (by omega) ?_
  rw [show I (MA 19) (36 * x + 6 * i + 1) = nI s from ((rm hm (by decide) _).trans e1)]
  refine aft_v ?_
  refine mw_istore i_112_19 (ls' := [some (pR (some MO)), some (pI (nI i)), some (pI (nI tw)), some (pI (nI f)), some (pI (nI s)), none, none, none, none, none, none]) rfl (Nat.le_of_ble_eq_true rfl) ?_
  refine mw_aload i_112_20 (L := MO) rfl ?_
  refine mw_aload i_112_21 (L := MO) rfl ?_
  refine mw_get i_112_22 (MK_o hM) (v := nI x) ((rs hm (by decide)).trans h0) ?_
  refine mw_iload i_112_23 (x := nI i) rfl ?_
  refine mw_aload i_112_24 (L := MO) rfl ?_
  refine mw_aload i_112_25 (L := MO) rfl ?_
  refine mw_get i_112_26 (MK_o hM) (v := nI x) ((rs hm (by decide)).trans h0) ?_
  refine mw_iload i_112_27 (x := nI i) rfl ?_
  refine mw_const i_112_28 (v := nI 2) (by decide) ?_
  refine mw_callV i_112_29 mf_81 (as := [pI (nI x), pI (nI i), pI (nI 2)]) (rest := [pI (nI i), pI (nI x), pR (some MO)]) (d' := d9) (b' := b) (ls0 := [some (pR (some MO)), some (pI (nI x)), some (pI (nI i)), some (pI (nI 2))]) rfl rfl rfl (Nat.le_of_ble_eq_true rfl) (MK_o hM) rfl rfl rfl ?_
  refine m_of hM (by omega) (by omega) (by omega) ?_
  rw [show I (MA 19) (36 * x + 6 * i + 2) = nI w2 from ((rm hm (by decide) _).trans e2)]
  refine aft_v ?_
  refine mw_callV i_112_30 mf_81 (as := [pI (nI x), pI (nI i), pI (nI w2)]) (rest := []) (d' := d9) (b' := b) (ls0 := [some (pR (some MO)), some (pI (nI x)), some (pI (nI i)), some (pI (nI w2))]) rfl rfl rfl (Nat.le_of_ble_eq_true rfl) (MK_o hM) rfl rfl rfl ?_
  refine m_of hM (by omega) (by omega) (by omega) ?_
  rw [show I (MA 19) (36 * x + 6 * i + w2) = nI wi from ((rm hm (by decide) _).trans ew)]
  refine aft_v ?_
  refine mw_istore i_112_31 (ls' := [some (pR (some MO)), some (pI (nI i)), some (pI (nI tw)), some (pI (nI f)), some (pI (nI s)), some (pI (nI wi)), none, none, none, none, none]) rfl (Nat.le_of_ble_eq_true rfl) ?_
  refine mw_aload i_112_32 (L := MO) rfl ?_
  refine mw_aload i_112_33 (L := MO) rfl ?_
  refine mw_get i_112_34 (MK_o hM) (v := nI x) ((rs hm (by decide)).trans h0) ?_
  refine mw_iload i_112_35 (x := nI i) rfl ?_
  refine mw_const i_112_36 (v := nI 4) (by decide) ?_
  refine mw_callV i_112_37 mf_81 (as := [pI (nI x), pI (nI i), pI (nI 4)]) (rest := []) (d' := d9) (b' := b) (ls0 := [some (pR (some MO)), some (pI (nI x)), some (pI (nI i)), some (pI (nI 4))]) rfl rfl rfl (Nat.le_of_ble_eq_true rfl) (MK_o hM) rfl rfl rfl ?_
  refine m_of hM (by omega) (by omega) (by omega) ?_
  rw [show I (MA 19) (36 * x + 6 * i + 4) = (-1) from ((rm hm (by decide) _).trans e4)]
  refine aft_v ?_
  refine mw_istore i_112_38 (ls' := [some (pR (some MO)), some (pI (nI i)), some (pI (nI tw)), some (pI (nI f)), some (pI (nI s)), some (pI (nI wi)), some (pI (-1)), none, none, none, none]) rfl (Nat.le_of_ble_eq_true rfl) ?_
  refine mw_aload i_112_39 (L := MO) rfl ?_
  refine mw_iload i_112_40 (x := nI tw) rfl ?_
  refine mw_iload i_112_41 (x := nI f) rfl ?_
  refine mw_callV i_112_42 mf_110 (as := [pI (nI tw), pI (nI f)]) (rest := []) (d' := d9) (b' := b) (ls0 := [some (pR (some MO)), some (pI (nI tw)), some (pI (nI f)), none, none]) rfl rfl rfl (Nat.le_of_ble_eq_true rfl) (MK_o hM) rfl rfl rfl ?_
  refine m_worth hM hm htw (by omega) ?_
  refine aft_v ?_
  refine mw_aload i_112_43 (L := MO) rfl ?_
  refine mw_iload i_112_44 (x := nI tw) rfl ?_
  refine mw_iload i_112_45 (x := nI s) rfl ?_
  refine mw_callV i_112_46 mf_110 (as := [pI (nI tw), pI (nI s)]) (rest := [pI (wrt τ tw f)]) (d' := d9) (b' := b) (ls0 := [some (pR (some MO)), some (pI (nI tw)), some (pI (nI s)), none, none]) rfl rfl rfl (Nat.le_of_ble_eq_true rfl) (MK_o hM) rfl rfl rfl ?_
  refine m_worth hM hm htw (by omega) ?_
  refine aft_v ?_
  refine mw_iadd i_112_47 (w := ((wrt τ tw f) + (wrt τ tw s))) rfl ?_
  refine mw_istore i_112_48 (ls' := [some (pR (some MO)), some (pI (nI i)), some (pI (nI tw)), some (pI (nI f)), some (pI (nI s)), some (pI (nI wi)), some (pI (-1)), some (pI ((wrt τ tw f) + (wrt τ tw s))), none, none, none]) rfl (Nat.le_of_ble_eq_true rfl) ?_
  have J1 : Mw (d9 + 1) b 112 60 [some (pR (some MO)), some (pI (nI i)), some (pI (nI tw)), some (pI (nI f)), some (pI (nI s)), some (pI (nI wi)), some (pI (-1)), some (pI ((wrt τ tw f) + (wrt τ tw s))), none, none, none] [pI (bI False)] K I R Q := by
    refine mw_istore i_112_60 (ls' := [some (pR (some MO)), some (pI (nI i)), some (pI (nI tw)), some (pI (nI f)), some (pI (nI s)), some (pI (nI wi)), some (pI (-1)), some (pI ((wrt τ tw f) + (wrt τ tw s))), some (pI (bI False)), none, none]) rfl (Nat.le_of_ble_eq_true rfl) ?_
    refine mw_iload i_112_61 (x := bI False) rfl ?_
    refine mw_eqB i_112_62 rfl (fun c2 => ?_) (fun c2 => ?_)
    · skip
      refine mw_aload i_112_80 (L := MO) rfl ?_
      refine mw_iload i_112_81 (x := nI tw) rfl ?_
      refine mw_iload i_112_82 (x := nI wi) rfl ?_
      refine mw_iload i_112_83 (x := nI wi) rfl ?_
      refine mw_iload i_112_84 (x := nI f) rfl ?_
      refine mw_ic i_112_85 (p := ¬ wi = f) (not_congr (nI_eq (by omega) (by omega))) (fun c3 => ?_) (fun c3 => ?_)
      · skip
        refine mw_iload i_112_88 (x := nI f) rfl ?_
        have elo : f = lo := by rw [hlo]; first | exact (if_pos (Classical.not_not.mp c3)).symm | exact (if_neg c3).symm | exact (if_pos (by omega)).symm | exact (if_neg (by omega)).symm
        refine mw_callV i_112_89 mf_111 (as := [pI (nI tw), pI (nI wi), pI (nI f)]) (rest := []) (d' := d9) (b' := b) (ls0 := [some (pR (some MO)), some (pI (nI tw)), some (pI (nI wi)), some (pI (nI f))]) rfl rfl rfl (Nat.le_of_ble_eq_true rfl) (MK_o hM) rfl rfl rfl ?_
        refine m_wins (lo := f) (by omega) hM hm htw hwi (by omega) ?_
        intro I7 hF7 hmW
        rw [elo] at hmW
        obtain ⟨S24, eS24⟩ : ∃ S24, S24 = win τ tw wi lo := ⟨_, rfl⟩
        rw [← eS24] at hmW
        refine aft_n ?_
        refine mw_aload i_112_90 (L := MO) rfl ?_
        refine mw_getR i_112_91 (MK_o hM) (q := some (MA 5)) (MK_r hM 5 (by decide)) ?_
        refine mw_iload i_112_92 (x := nI f) rfl ?_
        refine mw_dup2 i_112_93 trivial trivial ?_
        refine mw_iald i_112_94 (jn := f) (n := 10) (by omega) (by omega) (show K (MA 5) = some (7, 10) from MK_k hM 5 (by decide)) (by decide) (v := τ 5 f) ((rm hmW (by decide) _).trans (by rw [eS24, win_o (by decide) (by decide) (by decide)])) ?_
        refine mw_aload i_112_95 (L := MO) rfl ?_
        refine mw_aload i_112_96 (L := MO) rfl ?_
        refine mw_get i_112_97 (MK_o hM) (v := nI x) ((rs hmW (by decide)).trans (by rw [eS24, win_o (by decide) (by decide) (by decide)]; exact h0)) ?_
        refine mw_iload i_112_98 (x := nI i) rfl ?_
        refine mw_const i_112_99 (v := nI 3) (by decide) ?_
        refine mw_callV i_112_100 mf_81 (as := [pI (nI x), pI (nI i), pI (nI 3)]) (rest := [pI (τ 5 f), pI (nI f), pR (some (MA 5))]) (d' := d9) (b' := b) (ls0 := [some (pR (some MO)), some (pI (nI x)), some (pI (nI i)), some (pI (nI 3))]) rfl rfl rfl (Nat.le_of_ble_eq_true rfl) (MK_o hM) rfl rfl rfl ?_
        refine m_of hM (by omega) (by omega) (by omega) ?_
        rw [show I7 (MA 19) (36 * x + 6 * i + 3) = m from ((rm hmW (by decide) _).trans (by rw [eS24, win_o (by decide) (by decide) (by decide)]; exact e3))]
        refine aft_v ?_
        refine mw_iadd i_112_101 (w := ((τ 5 f) + m)) rfl ?_
        obtain ⟨I25, e25⟩ : ∃ I25, I25 = up2 I7 (MA 5) f ((τ 5 f) + m) := ⟨_, rfl⟩
        refine mw_iast i_112_102 (jn := f) (n := 10) (by omega) (by omega) (x := ((τ 5 f) + m)) (show K (MA 5) = some (7, 10) from MK_k hM 5 (by decide)) (I' := I25) e25.symm ?_
        refine mw_aload i_112_103 (L := MO) rfl ?_
        refine mw_getR i_112_104 (MK_o hM) (q := some (MA 5)) (MK_r hM 5 (by decide)) ?_
        refine mw_iload i_112_105 (x := nI s) rfl ?_
        refine mw_dup2 i_112_106 trivial trivial ?_
        obtain ⟨S26, eS26⟩ : ∃ S26, S26 = ups S24 5 f ((τ 5 f) + m) := ⟨_, rfl⟩
        have hm26 : mv I25 = S26 := by rw [e25, mv_a (by decide) (by decide) (by decide) (by decide), hmW, eS26]
        refine mw_iald i_112_107 (jn := s) (n := 10) (by omega) (by omega) (show K (MA 5) = some (7, 10) from MK_k hM 5 (by decide)) (by decide) (v := S26 5 s) (rm hm26 (by decide) _) ?_
        refine mw_aload i_112_108 (L := MO) rfl ?_
        refine mw_aload i_112_109 (L := MO) rfl ?_
        refine mw_get i_112_110 (MK_o hM) (v := nI x) ((rs hm26 (by decide)).trans (by rw [eS26, ups_ne (by decide), eS24, win_o (by decide) (by decide) (by decide)]; exact h0)) ?_
        refine mw_iload i_112_111 (x := nI i) rfl ?_
        refine mw_const i_112_112 (v := nI 3) (by decide) ?_
        refine mw_callV i_112_113 mf_81 (as := [pI (nI x), pI (nI i), pI (nI 3)]) (rest := [pI (S26 5 s), pI (nI s), pR (some (MA 5))]) (d' := d9) (b' := b) (ls0 := [some (pR (some MO)), some (pI (nI x)), some (pI (nI i)), some (pI (nI 3))]) rfl rfl rfl (Nat.le_of_ble_eq_true rfl) (MK_o hM) rfl rfl rfl ?_
        refine m_of hM (by omega) (by omega) (by omega) ?_
        rw [show I25 (MA 19) (36 * x + 6 * i + 3) = m from ((rm hm26 (by decide) _).trans (by rw [eS26, ups_ne (by decide), eS24, win_o (by decide) (by decide) (by decide)]; exact e3))]
        refine aft_v ?_
        refine mw_iadd i_112_114 (w := ((S26 5 s) + m)) rfl ?_
        obtain ⟨I27, e27⟩ : ∃ I27, I27 = up2 I25 (MA 5) s ((S26 5 s) + m) := ⟨_, rfl⟩
        refine mw_iast i_112_115 (jn := s) (n := 10) (by omega) (by omega) (x := ((S26 5 s) + m)) (show K (MA 5) = some (7, 10) from MK_k hM 5 (by decide)) (I' := I27) e27.symm ?_
        refine mw_iload i_112_116 (x := (-1)) rfl ?_
        refine mw_const i_112_117 (v := (-1)) (by decide) ?_
        refine mw_ic i_112_118 (p := ¬ (-1) = (-1)) Iff.rfl (fun c8 => ?_) (fun c8 => ?_)
        · skip
          exact absurd rfl c8
        · skip
          refine mw_const i_112_119 (v := (-1)) (by decide) ?_
          refine mw_goto i_112_120 ?_
          refine mw_istore i_112_124 (ls' := [some (pR (some MO)), some (pI (nI i)), some (pI (nI tw)), some (pI (nI f)), some (pI (nI s)), some (pI (nI wi)), some (pI (-1)), some (pI ((wrt τ tw f) + (wrt τ tw s))), some (pI (bI False)), some (pI (-1)), none]) rfl (Nat.le_of_ble_eq_true rfl) ?_
          refine mw_iload i_112_125 (x := (-1)) rfl ?_
          refine mw_const i_112_126 (v := (-1)) (by decide) ?_
          refine mw_ic i_112_127 (p := (-1) = (-1)) Iff.rfl (fun c9 => ?_) (fun c9 => ?_)
          · skip
            refine mw_const i_112_139 (v := nI 0) (by decide) ?_
            refine mw_istore i_112_140 (ls' := [some (pR (some MO)), some (pI (nI i)), some (pI (nI tw)), some (pI (nI f)), some (pI (nI s)), some (pI (nI wi)), some (pI (-1)), some (pI ((wrt τ tw f) + (wrt τ tw s))), some (pI (bI False)), some (pI (-1)), some (pI (nI 0))]) rfl (Nat.le_of_ble_eq_true rfl) ?_
            refine mw_iload i_112_141 (x := bI False) rfl ?_
            refine mw_neB i_112_142 rfl (fun c10 => ?_) (fun c10 => ?_)
            · skip
              exact c10.elim
            · skip
              refine mw_iload i_112_143 (x := nI 0) rfl ?_
              refine mw_ifT i_112_144 (show nI 0 = 0 by decide) ?_
              refine mw_aload i_112_152 (L := MO) rfl ?_
              refine mw_iload i_112_153 (x := nI f) rfl ?_
              obtain ⟨S31, eS31⟩ : ∃ S31, S31 = ups S26 5 s ((S26 5 s) + m) := ⟨_, rfl⟩
              have hm31 : mv I27 = S31 := by rw [e27, mv_a (by decide) (by decide) (by decide) (by decide), hm26, eS31]
              have hr1 : ∀ w, w < 10 → S31 3 w = nI 0 ∨ S31 3 w = nI 1 := fun w hw => by rw [eS31, ups_ne (by decide), eS26, ups_ne (by decide), eS24, win_o (by decide) (by decide) (by decide)]; exact hr w hw
              refine mw_callV i_112_154 mf_109 (as := [pI (nI f)]) (rest := []) (d' := d9) (b' := b) (ls0 := [some (pR (some MO)), some (pI (nI f)), none, none, none]) rfl rfl rfl (Nat.le_of_ble_eq_true rfl) (MK_o hM) rfl rfl rfl ?_
              refine m_turns hM hm31 (by omega) (hr1 _ (by omega)) ?_
              intro I4 hF4 hmT1
              obtain ⟨S32, eS32⟩ : ∃ S32, S32 = trS S31 f := ⟨_, rfl⟩
              rw [← eS32] at hmT1
              refine aft_n ?_
              refine mw_aload i_112_155 (L := MO) rfl ?_
              refine mw_iload i_112_156 (x := nI s) rfl ?_
              refine mw_callV i_112_157 mf_109 (as := [pI (nI s)]) (rest := []) (d' := d9) (b' := b) (ls0 := [some (pR (some MO)), some (pI (nI s)), none, none, none]) rfl rfl rfl (Nat.le_of_ble_eq_true rfl) (MK_o hM) rfl rfl rfl ?_
              refine m_turns hM hmT1 (by omega) (by rw [eS32]; exact trS_3 hr1 (by omega) (by omega)) ?_
              intro I5 hF5 hmT2
              obtain ⟨S33, eS33⟩ : ∃ S33, S33 = trS S32 s := ⟨_, rfl⟩
              rw [← eS33] at hmT2
              refine aft_n ?_
              refine mw_iload i_112_158 (x := ((wrt τ tw f) + (wrt τ tw s))) rfl ?_
              refine mw_iretI i_112_159 (x := ((wrt τ tw f) + (wrt τ tw s))) rt_112 ?_
              have hSB : S31 = pB τ tw f s wi lo m := by rw [eS31, eS26, eS24]; unfold pB adS; rw [win_o (by decide) (by decide) (by decide)]
              refine q _ (FrA_tr (FrA_tr ((e27.symm ▸ FrA_up ((e25.symm ▸ FrA_up (FrA_tr (FrA_rfl) hF7) rfl)) rfl)) hF4) hF5) ?_ _ rfl
              rw [hmT2, eS33, eS32, hSB, pm_N0]
          · skip
            exact absurd rfl c9
      · skip
        refine mw_iload i_112_86 (x := nI s) rfl ?_
        refine mw_goto i_112_87 ?_
        have elo : s = lo := by rw [hlo]; first | exact (if_pos (Classical.not_not.mp c3)).symm | exact (if_neg c3).symm | exact (if_pos (by omega)).symm | exact (if_neg (by omega)).symm
        refine mw_callV i_112_89 mf_111 (as := [pI (nI tw), pI (nI wi), pI (nI s)]) (rest := []) (d' := d9) (b' := b) (ls0 := [some (pR (some MO)), some (pI (nI tw)), some (pI (nI wi)), some (pI (nI s))]) rfl rfl rfl (Nat.le_of_ble_eq_true rfl) (MK_o hM) rfl rfl rfl ?_
        refine m_wins (lo := s) (by omega) hM hm htw hwi (by omega) ?_
        intro I7 hF7 hmW
        rw [elo] at hmW
        obtain ⟨S34, eS34⟩ : ∃ S34, S34 = win τ tw wi lo := ⟨_, rfl⟩
        rw [← eS34] at hmW
        refine aft_n ?_
        refine mw_aload i_112_90 (L := MO) rfl ?_
        refine mw_getR i_112_91 (MK_o hM) (q := some (MA 5)) (MK_r hM 5 (by decide)) ?_
        refine mw_iload i_112_92 (x := nI f) rfl ?_
        refine mw_dup2 i_112_93 trivial trivial ?_
        refine mw_iald i_112_94 (jn := f) (n := 10) (by omega) (by omega) (show K (MA 5) = some (7, 10) from MK_k hM 5 (by decide)) (by decide) (v := τ 5 f) ((rm hmW (by decide) _).trans (by rw [eS34, win_o (by decide) (by decide) (by decide)])) ?_
        refine mw_aload i_112_95 (L := MO) rfl ?_
        refine mw_aload i_112_96 (L := MO) rfl ?_
        refine mw_get i_112_97 (MK_o hM) (v := nI x) ((rs hmW (by decide)).trans (by rw [eS34, win_o (by decide) (by decide) (by decide)]; exact h0)) ?_
        refine mw_iload i_112_98 (x := nI i) rfl ?_
        refine mw_const i_112_99 (v := nI 3) (by decide) ?_
        refine mw_callV i_112_100 mf_81 (as := [pI (nI x), pI (nI i), pI (nI 3)]) (rest := [pI (τ 5 f), pI (nI f), pR (some (MA 5))]) (d' := d9) (b' := b) (ls0 := [some (pR (some MO)), some (pI (nI x)), some (pI (nI i)), some (pI (nI 3))]) rfl rfl rfl (Nat.le_of_ble_eq_true rfl) (MK_o hM) rfl rfl rfl ?_
        refine m_of hM (by omega) (by omega) (by omega) ?_
        rw [show I7 (MA 19) (36 * x + 6 * i + 3) = m from ((rm hmW (by decide) _).trans (by rw [eS34, win_o (by decide) (by decide) (by decide)]; exact e3))]
        refine aft_v ?_
        refine mw_iadd i_112_101 (w := ((τ 5 f) + m)) rfl ?_
        obtain ⟨I35, e35⟩ : ∃ I35, I35 = up2 I7 (MA 5) f ((τ 5 f) + m) := ⟨_, rfl⟩
        refine mw_iast i_112_102 (jn := f) (n := 10) (by omega) (by omega) (x := ((τ 5 f) + m)) (show K (MA 5) = some (7, 10) from MK_k hM 5 (by decide)) (I' := I35) e35.symm ?_
        refine mw_aload i_112_103 (L := MO) rfl ?_
        refine mw_getR i_112_104 (MK_o hM) (q := some (MA 5)) (MK_r hM 5 (by decide)) ?_
        refine mw_iload i_112_105 (x := nI s) rfl ?_
        refine mw_dup2 i_112_106 trivial trivial ?_
        obtain ⟨S36, eS36⟩ : ∃ S36, S36 = ups S34 5 f ((τ 5 f) + m) := ⟨_, rfl⟩
        have hm36 : mv I35 = S36 := by rw [e35, mv_a (by decide) (by decide) (by decide) (by decide), hmW, eS36]
        refine mw_iald i_112_107 (jn := s) (n := 10) (by omega) (by omega) (show K (MA 5) = some (7, 10) from MK_k hM 5 (by decide)) (by decide) (v := S36 5 s) (rm hm36 (by decide) _) ?_
        refine mw_aload i_112_108 (L := MO) rfl ?_
        refine mw_aload i_112_109 (L := MO) rfl ?_
        refine mw_get i_112_110 (MK_o hM) (v := nI x) ((rs hm36 (by decide)).trans (by rw [eS36, ups_ne (by decide), eS34, win_o (by decide) (by decide) (by decide)]; exact h0)) ?_
        refine mw_iload i_112_111 (x := nI i) rfl ?_
        refine mw_const i_112_112 (v := nI 3) (by decide) ?_
        refine mw_callV i_112_113 mf_81 (as := [pI (nI x), pI (nI i), pI (nI 3)]) (rest := [pI (S36 5 s), pI (nI s), pR (some (MA 5))]) (d' := d9) (b' := b) (ls0 := [some (pR (some MO)), some (pI (nI x)), some (pI (nI i)), some (pI (nI 3))]) rfl rfl rfl (Nat.le_of_ble_eq_true rfl) (MK_o hM) rfl rfl rfl ?_
        refine m_of hM (by omega) (by omega) (by omega) ?_
        rw [show I35 (MA 19) (36 * x + 6 * i + 3) = m from ((rm hm36 (by decide) _).trans (by rw [eS36, ups_ne (by decide), eS34, win_o (by decide) (by decide) (by decide)]; exact e3))]
        refine aft_v ?_
        refine mw_iadd i_112_114 (w := ((S36 5 s) + m)) rfl ?_
        obtain ⟨I37, e37⟩ : ∃ I37, I37 = up2 I35 (MA 5) s ((S36 5 s) + m) := ⟨_, rfl⟩
        refine mw_iast i_112_115 (jn := s) (n := 10) (by omega) (by omega) (x := ((S36 5 s) + m)) (show K (MA 5) = some (7, 10) from MK_k hM 5 (by decide)) (I' := I37) e37.symm ?_
        refine mw_iload i_112_116 (x := (-1)) rfl ?_
        refine mw_const i_112_117 (v := (-1)) (by decide) ?_
        refine mw_ic i_112_118 (p := ¬ (-1) = (-1)) Iff.rfl (fun c18 => ?_) (fun c18 => ?_)
        · skip
          exact absurd rfl c18
        · skip
          refine mw_const i_112_119 (v := (-1)) (by decide) ?_
          refine mw_goto i_112_120 ?_
          refine mw_istore i_112_124 (ls' := [some (pR (some MO)), some (pI (nI i)), some (pI (nI tw)), some (pI (nI f)), some (pI (nI s)), some (pI (nI wi)), some (pI (-1)), some (pI ((wrt τ tw f) + (wrt τ tw s))), some (pI (bI False)), some (pI (-1)), none]) rfl (Nat.le_of_ble_eq_true rfl) ?_
          refine mw_iload i_112_125 (x := (-1)) rfl ?_
          refine mw_const i_112_126 (v := (-1)) (by decide) ?_
          refine mw_ic i_112_127 (p := (-1) = (-1)) Iff.rfl (fun c19 => ?_) (fun c19 => ?_)
          · skip
            refine mw_const i_112_139 (v := nI 0) (by decide) ?_
            refine mw_istore i_112_140 (ls' := [some (pR (some MO)), some (pI (nI i)), some (pI (nI tw)), some (pI (nI f)), some (pI (nI s)), some (pI (nI wi)), some (pI (-1)), some (pI ((wrt τ tw f) + (wrt τ tw s))), some (pI (bI False)), some (pI (-1)), some (pI (nI 0))]) rfl (Nat.le_of_ble_eq_true rfl) ?_
            refine mw_iload i_112_141 (x := bI False) rfl ?_
            refine mw_neB i_112_142 rfl (fun c20 => ?_) (fun c20 => ?_)
            · skip
              exact c20.elim
            · skip
              refine mw_iload i_112_143 (x := nI 0) rfl ?_
              refine mw_ifT i_112_144 (show nI 0 = 0 by decide) ?_
              refine mw_aload i_112_152 (L := MO) rfl ?_
              refine mw_iload i_112_153 (x := nI f) rfl ?_
              obtain ⟨S41, eS41⟩ : ∃ S41, S41 = ups S36 5 s ((S36 5 s) + m) := ⟨_, rfl⟩
              have hm41 : mv I37 = S41 := by rw [e37, mv_a (by decide) (by decide) (by decide) (by decide), hm36, eS41]
              have hr1 : ∀ w, w < 10 → S41 3 w = nI 0 ∨ S41 3 w = nI 1 := fun w hw => by rw [eS41, ups_ne (by decide), eS36, ups_ne (by decide), eS34, win_o (by decide) (by decide) (by decide)]; exact hr w hw
              refine mw_callV i_112_154 mf_109 (as := [pI (nI f)]) (rest := []) (d' := d9) (b' := b) (ls0 := [some (pR (some MO)), some (pI (nI f)), none, none, none]) rfl rfl rfl (Nat.le_of_ble_eq_true rfl) (MK_o hM) rfl rfl rfl ?_
              refine m_turns hM hm41 (by omega) (hr1 _ (by omega)) ?_
              intro I4 hF4 hmT1
              obtain ⟨S42, eS42⟩ : ∃ S42, S42 = trS S41 f := ⟨_, rfl⟩
              rw [← eS42] at hmT1
              refine aft_n ?_
              refine mw_aload i_112_155 (L := MO) rfl ?_
              refine mw_iload i_112_156 (x := nI s) rfl ?_
              refine mw_callV i_112_157 mf_109 (as := [pI (nI s)]) (rest := []) (d' := d9) (b' := b) (ls0 := [some (pR (some MO)), some (pI (nI s)), none, none, none]) rfl rfl rfl (Nat.le_of_ble_eq_true rfl) (MK_o hM) rfl rfl rfl ?_
              refine m_turns hM hmT1 (by omega) (by rw [eS42]; exact trS_3 hr1 (by omega) (by omega)) ?_
              intro I5 hF5 hmT2
              obtain ⟨S43, eS43⟩ : ∃ S43, S43 = trS S42 s := ⟨_, rfl⟩
              rw [← eS43] at hmT2
              refine aft_n ?_
              refine mw_iload i_112_158 (x := ((wrt τ tw f) + (wrt τ tw s))) rfl ?_
              refine mw_iretI i_112_159 (x := ((wrt τ tw f) + (wrt τ tw s))) rt_112 ?_
              have hSB : S41 = pB τ tw f s wi lo m := by rw [eS41, eS36, eS34]; unfold pB adS; rw [win_o (by decide) (by decide) (by decide)]
              refine q _ (FrA_tr (FrA_tr ((e37.symm ▸ FrA_up ((e35.symm ▸ FrA_up (FrA_tr (FrA_rfl) hF7) rfl)) rfl)) hF4) hF5) ?_ _ rfl
              rw [hmT2, eS43, eS42, hSB, pm_N0]
          · skip
            exact absurd rfl c19
    · skip
      exact c2.elim
  refine mw_aload i_112_49 (L := MO) rfl ?_
  refine mw_aload i_112_50 (L := MO) rfl ?_
  refine mw_get i_112_51 (MK_o hM) (v := nI x) ((rs hm (by decide)).trans h0) ?_
  refine mw_iload i_112_52 (x := nI i) rfl ?_
  refine mw_const i_112_53 (v := nI 5) (by decide) ?_
  refine mw_callV i_112_54 mf_81 (as := [pI (nI x), pI (nI i), pI (nI 5)]) (rest := []) (d' := d9) (b' := b) (ls0 := [some (pR (some MO)), some (pI (nI x)), some (pI (nI i)), some (pI (nI 5))]) rfl rfl rfl (Nat.le_of_ble_eq_true rfl) (MK_o hM) rfl rfl rfl ?_
  refine m_of hM (by omega) (by omega) (by omega) ?_
  rw [show I (MA 19) (36 * x + 6 * i + 5) = nI 0 from ((rm hm (by decide) _).trans e5)]
  refine aft_v ?_
  refine mw_const i_112_55 (v := nI 1) (by decide) ?_
  refine mw_icT i_112_56 (show ¬ nI 0 = nI 1 by decide) ?_
  refine mw_const i_112_59 (v := nI 0) (by decide) ?_
  rw [show nI 0 = bI (False) from (bI_f ((fun h => h))).symm]
  exact J1
set_option maxRecDepth 20000 in
set_option maxHeartbeats 400000 in
theorem m_pmN_u {d b : Nat} {K : KM} {I : IM} {R : RM} {Q : QT} {τ : ST} {x i f s w2 wi lo tw : Nat} {m : Int32} {u : Nat} (hd : 3 ≤ d) (hM : MK K R) (hm : mv I = τ) (hx : x < 1000) (hi : i < 6) (h0 : τ 0 0 = nI x) (ht : τ 21 x = nI tw) (htw : tw < 4) (e0 : τ 19 (36 * x + 6 * i) = nI f) (e1 : τ 19 (36 * x + 6 * i + 1) = nI s) (e2 : τ 19 (36 * x + 6 * i + 2) = nI w2) (hw2 : w2 < 2) (ew : τ 19 (36 * x + 6 * i + w2) = nI wi) (e3 : τ 19 (36 * x + 6 * i + 3) = m) (hf : f < 10) (hs : s < 10) (hwi : wi < 10) (hlo : lo = if wi = f then s else f) (hr : ∀ w, w < 10 → τ 3 w = nI 0 ∨ τ 3 w = nI 1) (hLN : LN τ) (hu : u < 4) (e4 : τ 19 (36 * x + 6 * i + 4) = nI u) (e5 : τ 19 (36 * x + 6 * i + 5) = nI 0) (q : ∀ I', FrA I I' → mv I' = pmS τ tw f s wi lo m (nI u) (nI 0) → ∀ v, v = wrt τ tw f + wrt τ tw s → Q (.inl (some (pI v))) K I' R) : Mw d b N_X6_playsMatch 0 [some (pR (some MO)), some (pI (nI i)), none, none, none, none, none, none, none, none, none] [] K I R Q := by
  obtain ⟨d9, rfl⟩ : ∃ d9, d = d9 + 1 := ⟨d - 1, by omega⟩
  refine mw_aload i_112_0 (L := MO) rfl ?_
  refine mw_getR i_112_1 (MK_o hM) (q := some (MA 21)) (MK_r hM 21 (by decide)) ?_
  refine mw_aload i_112_2 (L := MO) rfl ?_
  refine mw_get i_112_3 (MK_o hM) (v := nI x) ((rs hm (by decide)).trans h0) ?_
  refine mw_iald i_112_4 (jn := x) (n := 1000) (by omega) (by omega) (show K (MA 21) = some (7, 1000) from MK_k hM 21 (by decide)) (by decide) (v := nI tw) ((rm hm (by decide) _).trans ht) ?_
  refine mw_istore i_112_5 (ls' := [some (pR (some MO)), some (pI (nI i)), some (pI (nI tw)), none, none, none, none, none, none, none, none]) rfl (Nat.le_of_ble_eq_true rfl) ?_
  refine mw_aload i_112_6 (L := MO) rfl ?_
  refine mw_aload i_112_7 (L := MO) rfl ?_
  refine mw_get i_112_8 (MK_o hM) (v := nI x) ((rs hm (by decide)).trans h0) ?_
  refine mw_iload i_112_9 (x := nI i) rfl ?_
  refine mw_const i_112_10 (v := nI 0) (by decide) ?_
  refine mw_callV i_112_11 mf_81 (as := [pI (nI x), pI (nI i), pI (nI 0)]) (rest := []) (d' := d9) (b' := b) (ls0 := [some (pR (some MO)), some (pI (nI x)), some (pI (nI i)), some (pI (nI 0))]) rfl rfl rfl (Nat.le_of_ble_eq_true rfl) (MK_o hM) rfl rfl rfl ?_
  refine m_of hM (by omega) (by omega) (by omega) ?_
  rw [show I (MA 19) (36 * x + 6 * i + 0) = nI f from ((rm hm (by decide) _).trans e0)]
  refine aft_v ?_
  refine mw_istore i_112_12 (ls' := [some (pR (some MO)), some (pI (nI i)), some (pI (nI tw)), some (pI (nI f)), none, none, none, none, none, none, none]) rfl (Nat.le_of_ble_eq_true rfl) ?_
  refine mw_aload i_112_13 (L := MO) rfl ?_
  refine mw_aload i_112_14 (L := MO) rfl ?_
  refine mw_get i_112_15 (MK_o hM) (v := nI x) ((rs hm (by decide)).trans h0) ?_
  refine mw_iload i_112_16 (x := nI i) rfl ?_
  refine mw_const i_112_17 (v := nI 1) (by decide) ?_
  refine mw_callV i_112_18 mf_81 (as := [pI (nI x), pI (nI i), pI (nI 1)]) (rest := []) (d' := d9) (b' := b) (ls0 := [some (pR (some MO)), some (pI (nI x)), some (pI (nI i)), some (pI (nI 1))]) rfl rfl rfl (Nat.le_of_ble_eq_true rfl) (MK_o hM) rfl rfl rfl ?_
  refine m_of hM (by omega) (by omega) (by omega) ?_
  rw [show I (MA 19) (36 * x + 6 * i + 1) = nI s from ((rm hm (by decide) _).trans e1)]
  refine aft_v ?_
  refine mw_istore i_112_19 (ls' := [some (pR (some MO)), some (pI (nI i)), some (pI (nI tw)), some (pI (nI f)), some (pI (nI s)), none, none, none, none, none, none]) rfl (Nat.le_of_ble_eq_true rfl) ?_
  refine mw_aload i_112_20 (L := MO) rfl ?_
  refine mw_aload i_112_21 (L := MO) rfl ?_
  refine mw_get i_112_22 (MK_o hM) (v := nI x) ((rs hm (by decide)).trans h0) ?_
  refine mw_iload i_112_23 (x := nI i) rfl ?_
  refine mw_aload i_112_24 (L := MO) rfl ?_
  refine mw_aload i_112_25 (L := MO) rfl ?_
  refine mw_get i_112_26 (MK_o hM) (v := nI x) ((rs hm (by decide)).trans h0) ?_
  refine mw_iload i_112_27 (x := nI i) rfl ?_
  refine mw_const i_112_28 (v := nI 2) (by decide) ?_
  refine mw_callV i_112_29 mf_81 (as := [pI (nI x), pI (nI i), pI (nI 2)]) (rest := [pI (nI i), pI (nI x), pR (some MO)]) (d' := d9) (b' := b) (ls0 := [some (pR (some MO)), some (pI (nI x)), some (pI (nI i)), some (pI (nI 2))]) rfl rfl rfl (Nat.le_of_ble_eq_true rfl) (MK_o hM) rfl rfl rfl ?_
  refine m_of hM (by omega) (by omega) (by omega) ?_
  rw [show I (MA 19) (36 * x + 6 * i + 2) = nI w2 from ((rm hm (by decide) _).trans e2)]
  refine aft_v ?_
  refine mw_callV i_112_30 mf_81 (as := [pI (nI x), pI (nI i), pI (nI w2)]) (rest := []) (d' := d9) (b' := b) (ls0 := [some (pR (some MO)), some (pI (nI x)), some (pI (nI i)), some (pI (nI w2))]) rfl rfl rfl (Nat.le_of_ble_eq_true rfl) (MK_o hM) rfl rfl rfl ?_
  refine m_of hM (by omega) (by omega) (by omega) ?_
  rw [show I (MA 19) (36 * x + 6 * i + w2) = nI wi from ((rm hm (by decide) _).trans ew)]
  refine aft_v ?_
  refine mw_istore i_112_31 (ls' := [some (pR (some MO)), some (pI (nI i)), some (pI (nI tw)), some (pI (nI f)), some (pI (nI s)), some (pI (nI wi)), none, none, none, none, none]) rfl (Nat.le_of_ble_eq_true rfl) ?_
  refine mw_aload i_112_32 (L := MO) rfl ?_
  refine mw_aload i_112_33 (L := MO) rfl ?_
  refine mw_get i_112_34 (MK_o hM) (v := nI x) ((rs hm (by decide)).trans h0) ?_
  refine mw_iload i_112_35 (x := nI i) rfl ?_
  refine mw_const i_112_36 (v := nI 4) (by decide) ?_
  refine mw_callV i_112_37 mf_81 (as := [pI (nI x), pI (nI i), pI (nI 4)]) (rest := []) (d' := d9) (b' := b) (ls0 := [some (pR (some MO)), some (pI (nI x)), some (pI (nI i)), some (pI (nI 4))]) rfl rfl rfl (Nat.le_of_ble_eq_true rfl) (MK_o hM) rfl rfl rfl ?_
  refine m_of hM (by omega) (by omega) (by omega) ?_
  rw [show I (MA 19) (36 * x + 6 * i + 4) = nI u from ((rm hm (by decide) _).trans e4)]
  refine aft_v ?_
  refine mw_istore i_112_38 (ls' := [some (pR (some MO)), some (pI (nI i)), some (pI (nI tw)), some (pI (nI f)), some (pI (nI s)), some (pI (nI wi)), some (pI (nI u)), none, none, none, none]) rfl (Nat.le_of_ble_eq_true rfl) ?_
  refine mw_aload i_112_39 (L := MO) rfl ?_
  refine mw_iload i_112_40 (x := nI tw) rfl ?_
  refine mw_iload i_112_41 (x := nI f) rfl ?_
  refine mw_callV i_112_42 mf_110 (as := [pI (nI tw), pI (nI f)]) (rest := []) (d' := d9) (b' := b) (ls0 := [some (pR (some MO)), some (pI (nI tw)), some (pI (nI f)), none, none]) rfl rfl rfl (Nat.le_of_ble_eq_true rfl) (MK_o hM) rfl rfl rfl ?_
  refine m_worth hM hm htw (by omega) ?_
  refine aft_v ?_
  refine mw_aload i_112_43 (L := MO) rfl ?_
  refine mw_iload i_112_44 (x := nI tw) rfl ?_
  refine mw_iload i_112_45 (x := nI s) rfl ?_
  refine mw_callV i_112_46 mf_110 (as := [pI (nI tw), pI (nI s)]) (rest := [pI (wrt τ tw f)]) (d' := d9) (b' := b) (ls0 := [some (pR (some MO)), some (pI (nI tw)), some (pI (nI s)), none, none]) rfl rfl rfl (Nat.le_of_ble_eq_true rfl) (MK_o hM) rfl rfl rfl ?_
  refine m_worth hM hm htw (by omega) ?_
  refine aft_v ?_
  refine mw_iadd i_112_47 (w := ((wrt τ tw f) + (wrt τ tw s))) rfl ?_
  refine mw_istore i_112_48 (ls' := [some (pR (some MO)), some (pI (nI i)), some (pI (nI tw)), some (pI (nI f)), some (pI (nI s)), some (pI (nI wi)), some (pI (nI u)), some (pI ((wrt τ tw f) + (wrt τ tw s))), none, none, none]) rfl (Nat.le_of_ble_eq_true rfl) ?_
  have J1 : Mw (d9 + 1) b 112 60 [some (pR (some MO)), some (pI (nI i)), some (pI (nI tw)), some (pI (nI f)), some (pI (nI s)), some (pI (nI wi)), some (pI (nI u)), some (pI ((wrt τ tw f) + (wrt τ tw s))), none, none, none] [pI (bI False)] K I R Q := by
    refine mw_istore i_112_60 (ls' := [some (pR (some MO)), some (pI (nI i)), some (pI (nI tw)), some (pI (nI f)), some (pI (nI s)), some (pI (nI wi)), some (pI (nI u)), some (pI ((wrt τ tw f) + (wrt τ tw s))), some (pI (bI False)), none, none]) rfl (Nat.le_of_ble_eq_true rfl) ?_
    refine mw_iload i_112_61 (x := bI False) rfl ?_
    refine mw_eqB i_112_62 rfl (fun c2 => ?_) (fun c2 => ?_)
    · skip
      refine mw_aload i_112_80 (L := MO) rfl ?_
      refine mw_iload i_112_81 (x := nI tw) rfl ?_
      refine mw_iload i_112_82 (x := nI wi) rfl ?_
      refine mw_iload i_112_83 (x := nI wi) rfl ?_
      refine mw_iload i_112_84 (x := nI f) rfl ?_
      refine mw_ic i_112_85 (p := ¬ wi = f) (not_congr (nI_eq (by omega) (by omega))) (fun c3 => ?_) (fun c3 => ?_)
      · skip
        refine mw_iload i_112_88 (x := nI f) rfl ?_
        have elo : f = lo := by rw [hlo]; first | exact (if_pos (Classical.not_not.mp c3)).symm | exact (if_neg c3).symm | exact (if_pos (by omega)).symm | exact (if_neg (by omega)).symm
        refine mw_callV i_112_89 mf_111 (as := [pI (nI tw), pI (nI wi), pI (nI f)]) (rest := []) (d' := d9) (b' := b) (ls0 := [some (pR (some MO)), some (pI (nI tw)), some (pI (nI wi)), some (pI (nI f))]) rfl rfl rfl (Nat.le_of_ble_eq_true rfl) (MK_o hM) rfl rfl rfl ?_
        refine m_wins (lo := f) (by omega) hM hm htw hwi (by omega) ?_
        intro I7 hF7 hmW
        rw [elo] at hmW
        obtain ⟨S24, eS24⟩ : ∃ S24, S24 = win τ tw wi lo := ⟨_, rfl⟩
        rw [← eS24] at hmW
        refine aft_n ?_
        refine mw_aload i_112_90 (L := MO) rfl ?_
        refine mw_getR i_112_91 (MK_o hM) (q := some (MA 5)) (MK_r hM 5 (by decide)) ?_
        refine mw_iload i_112_92 (x := nI f) rfl ?_
        refine mw_dup2 i_112_93 trivial trivial ?_
        refine mw_iald i_112_94 (jn := f) (n := 10) (by omega) (by omega) (show K (MA 5) = some (7, 10) from MK_k hM 5 (by decide)) (by decide) (v := τ 5 f) ((rm hmW (by decide) _).trans (by rw [eS24, win_o (by decide) (by decide) (by decide)])) ?_
        refine mw_aload i_112_95 (L := MO) rfl ?_
        refine mw_aload i_112_96 (L := MO) rfl ?_
        refine mw_get i_112_97 (MK_o hM) (v := nI x) ((rs hmW (by decide)).trans (by rw [eS24, win_o (by decide) (by decide) (by decide)]; exact h0)) ?_
        refine mw_iload i_112_98 (x := nI i) rfl ?_
        refine mw_const i_112_99 (v := nI 3) (by decide) ?_
        refine mw_callV i_112_100 mf_81 (as := [pI (nI x), pI (nI i), pI (nI 3)]) (rest := [pI (τ 5 f), pI (nI f), pR (some (MA 5))]) (d' := d9) (b' := b) (ls0 := [some (pR (some MO)), some (pI (nI x)), some (pI (nI i)), some (pI (nI 3))]) rfl rfl rfl (Nat.le_of_ble_eq_true rfl) (MK_o hM) rfl rfl rfl ?_
        refine m_of hM (by omega) (by omega) (by omega) ?_
        rw [show I7 (MA 19) (36 * x + 6 * i + 3) = m from ((rm hmW (by decide) _).trans (by rw [eS24, win_o (by decide) (by decide) (by decide)]; exact e3))]
        refine aft_v ?_
        refine mw_iadd i_112_101 (w := ((τ 5 f) + m)) rfl ?_
        obtain ⟨I25, e25⟩ : ∃ I25, I25 = up2 I7 (MA 5) f ((τ 5 f) + m) := ⟨_, rfl⟩
        refine mw_iast i_112_102 (jn := f) (n := 10) (by omega) (by omega) (x := ((τ 5 f) + m)) (show K (MA 5) = some (7, 10) from MK_k hM 5 (by decide)) (I' := I25) e25.symm ?_
        refine mw_aload i_112_103 (L := MO) rfl ?_
        refine mw_getR i_112_104 (MK_o hM) (q := some (MA 5)) (MK_r hM 5 (by decide)) ?_
        refine mw_iload i_112_105 (x := nI s) rfl ?_
        refine mw_dup2 i_112_106 trivial trivial ?_
        obtain ⟨S26, eS26⟩ : ∃ S26, S26 = ups S24 5 f ((τ 5 f) + m) := ⟨_, rfl⟩
        have hm26 : mv I25 = S26 := by rw [e25, mv_a (by decide) (by decide) (by decide) (by decide), hmW, eS26]
        refine mw_iald i_112_107 (jn := s) (n := 10) (by omega) (by omega) (show K (MA 5) = some (7, 10) from MK_k hM 5 (by decide)) (by decide) (v := S26 5 s) (rm hm26 (by decide) _) ?_
        refine mw_aload i_112_108 (L := MO) rfl ?_
        refine mw_aload i_112_109 (L := MO) rfl ?_
        refine mw_get i_112_110 (MK_o hM) (v := nI x) ((rs hm26 (by decide)).trans (by rw [eS26, ups_ne (by decide), eS24, win_o (by decide) (by decide) (by decide)]; exact h0)) ?_
        refine mw_iload i_112_111 (x := nI i) rfl ?_
        refine mw_const i_112_112 (v := nI 3) (by decide) ?_
        refine mw_callV i_112_113 mf_81 (as := [pI (nI x), pI (nI i), pI (nI 3)]) (rest := [pI (S26 5 s), pI (nI s), pR (some (MA 5))]) (d' := d9) (b' := b) (ls0 := [some (pR (some MO)), some (pI (nI x)), some (pI (nI i)), some (pI (nI 3))]) rfl rfl rfl (Nat.le_of_ble_eq_true rfl) (MK_o hM) rfl rfl rfl ?_
        refine m_of hM (by omega) (by omega) (by omega) ?_
        rw [show I25 (MA 19) (36 * x + 6 * i + 3) = m from ((rm hm26 (by decide) _).trans (by rw [eS26, ups_ne (by decide), eS24, win_o (by decide) (by decide) (by decide)]; exact e3))]
        refine aft_v ?_
        refine mw_iadd i_112_114 (w := ((S26 5 s) + m)) rfl ?_
        obtain ⟨I27, e27⟩ : ∃ I27, I27 = up2 I25 (MA 5) s ((S26 5 s) + m) := ⟨_, rfl⟩
        refine mw_iast i_112_115 (jn := s) (n := 10) (by omega) (by omega) (x := ((S26 5 s) + m)) (show K (MA 5) = some (7, 10) from MK_k hM 5 (by decide)) (I' := I27) e27.symm ?_
        refine mw_iload i_112_116 (x := nI u) rfl ?_
        refine mw_const i_112_117 (v := (-1)) (by decide) ?_
        refine mw_ic i_112_118 (p := ¬ (nI u) = (-1)) Iff.rfl (fun c8 => ?_) (fun c8 => ?_)
        · skip
          refine mw_aload i_112_121 (L := MO) rfl ?_
          refine mw_iload i_112_122 (x := nI u) rfl ?_
          obtain ⟨S29, eS29⟩ : ∃ S29, S29 = ups S26 5 s ((S26 5 s) + m) := ⟨_, rfl⟩
          have hm29 : mv I27 = S29 := by rw [e27, mv_a (by decide) (by decide) (by decide) (by decide), hm26, eS29]
          have h17 : S29 17 = τ 17 := by rw [eS29, ups_ne (by decide), eS26, ups_ne (by decide), eS24, win_o (by decide) (by decide) (by decide)]
          have eln : lnO S29 u = lnO τ u := by unfold lnO; rw [h17]
          refine mw_callV i_112_123 mf_88 (as := [pI (nI u)]) (rest := []) (d' := d9) (b' := b) (ls0 := [some (pR (some MO)), some (pI (nI u))]) rfl rfl rfl (Nat.le_of_ble_eq_true rfl) (MK_o hM) rfl rfl rfl ?_
          refine m_champG hM hm29 hu (by rw [h17, eln]; exact (hLN u hu).1) (by rw [eln]; have := (hLN u hu).2; omega) ?_
          refine aft_v ?_
          refine mw_istore i_112_124 (ls' := [some (pR (some MO)), some (pI (nI i)), some (pI (nI tw)), some (pI (nI f)), some (pI (nI s)), some (pI (nI wi)), some (pI (nI u)), some (pI ((wrt τ tw f) + (wrt τ tw s))), some (pI (bI False)), some (pI (chO S29 u)), none]) rfl (Nat.le_of_ble_eq_true rfl) ?_
          refine mw_iload i_112_125 (x := nI u) rfl ?_
          refine mw_const i_112_126 (v := (-1)) (by decide) ?_
          refine mw_ic i_112_127 (p := (nI u) = (-1)) Iff.rfl (fun c10 => ?_) (fun c10 => ?_)
          · skip
            exact absurd c10 (nI_nm1 (by omega))
          · skip
            have J11 : Mw (d9 + 1) b 112 140 [some (pR (some MO)), some (pI (nI i)), some (pI (nI tw)), some (pI (nI f)), some (pI (nI s)), some (pI (nI wi)), some (pI (nI u)), some (pI ((wrt τ tw f) + (wrt τ tw s))), some (pI (bI False)), some (pI (chO S29 u)), none] [pI (bI (chO S29 u = (-1) ∨ chO S29 u = nI f ∨ chO S29 u = nI s))] K I27 R Q := by
              refine mw_istore i_112_140 (ls' := [some (pR (some MO)), some (pI (nI i)), some (pI (nI tw)), some (pI (nI f)), some (pI (nI s)), some (pI (nI wi)), some (pI (nI u)), some (pI ((wrt τ tw f) + (wrt τ tw s))), some (pI (bI False)), some (pI (chO S29 u)), some (pI (bI (chO S29 u = (-1) ∨ chO S29 u = nI f ∨ chO S29 u = nI s)))]) rfl (Nat.le_of_ble_eq_true rfl) ?_
              refine mw_iload i_112_141 (x := bI False) rfl ?_
              refine mw_neB i_112_142 rfl (fun c12 => ?_) (fun c12 => ?_)
              · skip
                exact c12.elim
              · skip
                refine mw_iload i_112_143 (x := bI (chO S29 u = (-1) ∨ chO S29 u = nI f ∨ chO S29 u = nI s)) rfl ?_
                refine mw_eqB i_112_144 rfl (fun c13 => ?_) (fun c13 => ?_)
                · skip
                  refine mw_aload i_112_152 (L := MO) rfl ?_
                  refine mw_iload i_112_153 (x := nI f) rfl ?_
                  have hr1 : ∀ w, w < 10 → S29 3 w = nI 0 ∨ S29 3 w = nI 1 := fun w hw => by rw [eS29, ups_ne (by decide), eS26, ups_ne (by decide), eS24, win_o (by decide) (by decide) (by decide)]; exact hr w hw
                  refine mw_callV i_112_154 mf_109 (as := [pI (nI f)]) (rest := []) (d' := d9) (b' := b) (ls0 := [some (pR (some MO)), some (pI (nI f)), none, none, none]) rfl rfl rfl (Nat.le_of_ble_eq_true rfl) (MK_o hM) rfl rfl rfl ?_
                  refine m_turns hM hm29 (by omega) (hr1 _ (by omega)) ?_
                  intro I4 hF4 hmT1
                  obtain ⟨S34, eS34⟩ : ∃ S34, S34 = trS S29 f := ⟨_, rfl⟩
                  rw [← eS34] at hmT1
                  refine aft_n ?_
                  refine mw_aload i_112_155 (L := MO) rfl ?_
                  refine mw_iload i_112_156 (x := nI s) rfl ?_
                  refine mw_callV i_112_157 mf_109 (as := [pI (nI s)]) (rest := []) (d' := d9) (b' := b) (ls0 := [some (pR (some MO)), some (pI (nI s)), none, none, none]) rfl rfl rfl (Nat.le_of_ble_eq_true rfl) (MK_o hM) rfl rfl rfl ?_
                  refine m_turns hM hmT1 (by omega) (by rw [eS34]; exact trS_3 hr1 (by omega) (by omega)) ?_
                  intro I5 hF5 hmT2
                  obtain ⟨S35, eS35⟩ : ∃ S35, S35 = trS S34 s := ⟨_, rfl⟩
                  rw [← eS35] at hmT2
                  refine aft_n ?_
                  refine mw_iload i_112_158 (x := ((wrt τ tw f) + (wrt τ tw s))) rfl ?_
                  refine mw_iretI i_112_159 (x := ((wrt τ tw f) + (wrt τ tw s))) rt_112 ?_
                  have hSB : S29 = pB τ tw f s wi lo m := by rw [eS29, eS26, eS24]; unfold pB adS; rw [win_o (by decide) (by decide) (by decide)]
                  have hcond : ¬ ((chO S29 u = (-1) ∨ chO S29 u = nI f ∨ chO S29 u = nI s) ∧ ¬ chO S29 u = nI wi) := fun h => c13 h.1
                  rw [hSB] at hcond
                  refine q _ (FrA_tr (FrA_tr ((e27.symm ▸ FrA_up ((e25.symm ▸ FrA_up (FrA_tr (FrA_rfl) hF7) rfl)) rfl)) hF4) hF5) ?_ _ rfl
                  rw [hmT2, eS35, eS34, hSB, pm_Nn hu hcond]
                · skip
                  refine mw_iload i_112_145 (x := chO S29 u) rfl ?_
                  refine mw_iload i_112_146 (x := nI wi) rfl ?_
                  refine mw_ic i_112_147 (p := (chO S29 u) = (nI wi)) Iff.rfl (fun c16 => ?_) (fun c16 => ?_)
                  · skip
                    refine mw_aload i_112_152 (L := MO) rfl ?_
                    refine mw_iload i_112_153 (x := nI f) rfl ?_
                    have hr1 : ∀ w, w < 10 → S29 3 w = nI 0 ∨ S29 3 w = nI 1 := fun w hw => by rw [eS29, ups_ne (by decide), eS26, ups_ne (by decide), eS24, win_o (by decide) (by decide) (by decide)]; exact hr w hw
                    refine mw_callV i_112_154 mf_109 (as := [pI (nI f)]) (rest := []) (d' := d9) (b' := b) (ls0 := [some (pR (some MO)), some (pI (nI f)), none, none, none]) rfl rfl rfl (Nat.le_of_ble_eq_true rfl) (MK_o hM) rfl rfl rfl ?_
                    refine m_turns hM hm29 (by omega) (hr1 _ (by omega)) ?_
                    intro I4 hF4 hmT1
                    obtain ⟨S37, eS37⟩ : ∃ S37, S37 = trS S29 f := ⟨_, rfl⟩
                    rw [← eS37] at hmT1
                    refine aft_n ?_
                    refine mw_aload i_112_155 (L := MO) rfl ?_
                    refine mw_iload i_112_156 (x := nI s) rfl ?_
                    refine mw_callV i_112_157 mf_109 (as := [pI (nI s)]) (rest := []) (d' := d9) (b' := b) (ls0 := [some (pR (some MO)), some (pI (nI s)), none, none, none]) rfl rfl rfl (Nat.le_of_ble_eq_true rfl) (MK_o hM) rfl rfl rfl ?_
                    refine m_turns hM hmT1 (by omega) (by rw [eS37]; exact trS_3 hr1 (by omega) (by omega)) ?_
                    intro I5 hF5 hmT2
                    obtain ⟨S38, eS38⟩ : ∃ S38, S38 = trS S37 s := ⟨_, rfl⟩
                    rw [← eS38] at hmT2
                    refine aft_n ?_
                    refine mw_iload i_112_158 (x := ((wrt τ tw f) + (wrt τ tw s))) rfl ?_
                    refine mw_iretI i_112_159 (x := ((wrt τ tw f) + (wrt τ tw s))) rt_112 ?_
                    have hSB : S29 = pB τ tw f s wi lo m := by rw [eS29, eS26, eS24]; unfold pB adS; rw [win_o (by decide) (by decide) (by decide)]
                    have hcond : ¬ ((chO S29 u = (-1) ∨ chO S29 u = nI f ∨ chO S29 u = nI s) ∧ ¬ chO S29 u = nI wi) := fun h => h.2 c16
                    rw [hSB] at hcond
                    refine q _ (FrA_tr (FrA_tr ((e27.symm ▸ FrA_up ((e25.symm ▸ FrA_up (FrA_tr (FrA_rfl) hF7) rfl)) rfl)) hF4) hF5) ?_ _ rfl
                    rw [hmT2, eS38, eS37, hSB, pm_Nn hu hcond]
                  · skip
                    refine mw_aload i_112_148 (L := MO) rfl ?_
                    refine mw_iload i_112_149 (x := nI u) rfl ?_
                    refine mw_iload i_112_150 (x := nI wi) rfl ?_
                    refine mw_callV i_112_151 mf_89 (as := [pI (nI u), pI (nI wi)]) (rest := []) (d' := d9) (b' := b) (ls0 := [some (pR (some MO)), some (pI (nI u)), some (pI (nI wi))]) rfl rfl rfl (Nat.le_of_ble_eq_true rfl) (MK_o hM) rfl rfl rfl ?_
                    refine m_crowns hM hm29 hu (l := lnO S29 u) (by rw [h17, eln]; exact (hLN u hu).1) (by rw [eln]; have := (hLN u hu).2; omega) ?_
                    intro I6 hF6 hmC
                    obtain ⟨S39, eS39⟩ : ∃ S39, S39 = crn S29 u (lnO S29 u) (nI wi) (S29 0 0) := ⟨_, rfl⟩
                    rw [← eS39] at hmC
                    refine aft_n ?_
                    refine mw_aload i_112_152 (L := MO) rfl ?_
                    refine mw_iload i_112_153 (x := nI f) rfl ?_
                    have hr1 : ∀ w, w < 10 → S39 3 w = nI 0 ∨ S39 3 w = nI 1 := fun w hw => by rw [eS39, crn_o (by decide) (by decide) (by decide), eS29, ups_ne (by decide), eS26, ups_ne (by decide), eS24, win_o (by decide) (by decide) (by decide)]; exact hr w hw
                    refine mw_callV i_112_154 mf_109 (as := [pI (nI f)]) (rest := []) (d' := d9) (b' := b) (ls0 := [some (pR (some MO)), some (pI (nI f)), none, none, none]) rfl rfl rfl (Nat.le_of_ble_eq_true rfl) (MK_o hM) rfl rfl rfl ?_
                    refine m_turns hM hmC (by omega) (hr1 _ (by omega)) ?_
                    intro I4 hF4 hmT1
                    obtain ⟨S40, eS40⟩ : ∃ S40, S40 = trS S39 f := ⟨_, rfl⟩
                    rw [← eS40] at hmT1
                    refine aft_n ?_
                    refine mw_aload i_112_155 (L := MO) rfl ?_
                    refine mw_iload i_112_156 (x := nI s) rfl ?_
                    refine mw_callV i_112_157 mf_109 (as := [pI (nI s)]) (rest := []) (d' := d9) (b' := b) (ls0 := [some (pR (some MO)), some (pI (nI s)), none, none, none]) rfl rfl rfl (Nat.le_of_ble_eq_true rfl) (MK_o hM) rfl rfl rfl ?_
                    refine m_turns hM hmT1 (by omega) (by rw [eS40]; exact trS_3 hr1 (by omega) (by omega)) ?_
                    intro I5 hF5 hmT2
                    obtain ⟨S41, eS41⟩ : ∃ S41, S41 = trS S40 s := ⟨_, rfl⟩
                    rw [← eS41] at hmT2
                    refine aft_n ?_
                    refine mw_iload i_112_158 (x := ((wrt τ tw f) + (wrt τ tw s))) rfl ?_
                    refine mw_iretI i_112_159 (x := ((wrt τ tw f) + (wrt τ tw s))) rt_112 ?_
                    have hSB : S29 = pB τ tw f s wi lo m := by rw [eS29, eS26, eS24]; unfold pB adS; rw [win_o (by decide) (by decide) (by decide)]
                    have hcond : ((chO S29 u = (-1) ∨ chO S29 u = nI f ∨ chO S29 u = nI s) ∧ ¬ chO S29 u = nI wi) := ⟨c13, c16⟩
                    rw [hSB] at hcond
                    refine q _ (FrA_tr (FrA_tr (FrA_tr ((e27.symm ▸ FrA_up ((e25.symm ▸ FrA_up (FrA_tr (FrA_rfl) hF7) rfl)) rfl)) hF6) hF4) hF5) ?_ _ rfl
                    rw [hmT2, eS41, eS40, eS39, hSB, pm_Ny hu hcond]
            refine mw_iload i_112_128 (x := chO S29 u) rfl ?_
            refine mw_const i_112_129 (v := (-1)) (by decide) ?_
            refine mw_ic i_112_130 (p := (chO S29 u) = (-1)) Iff.rfl (fun c22 => ?_) (fun c22 => ?_)
            · skip
              refine mw_const i_112_137 (v := nI 1) (by decide) ?_
              refine mw_goto i_112_138 ?_
              rw [show nI 1 = bI (chO S29 u = (-1) ∨ chO S29 u = nI f ∨ chO S29 u = nI s) from (bI_t ((Or.inl c22))).symm]
              exact J11
            · skip
              refine mw_iload i_112_131 (x := chO S29 u) rfl ?_
              refine mw_iload i_112_132 (x := nI f) rfl ?_
              refine mw_ic i_112_133 (p := (chO S29 u) = (nI f)) Iff.rfl (fun c23 => ?_) (fun c23 => ?_)
              · skip
                refine mw_const i_112_137 (v := nI 1) (by decide) ?_
                refine mw_goto i_112_138 ?_
                rw [show nI 1 = bI (chO S29 u = (-1) ∨ chO S29 u = nI f ∨ chO S29 u = nI s) from (bI_t ((Or.inr (Or.inl c23)))).symm]
                exact J11
              · skip
                refine mw_iload i_112_134 (x := chO S29 u) rfl ?_
                refine mw_iload i_112_135 (x := nI s) rfl ?_
                refine mw_ic i_112_136 (p := ¬ (chO S29 u) = (nI s)) Iff.rfl (fun c24 => ?_) (fun c24 => ?_)
                · skip
                  refine mw_const i_112_139 (v := nI 0) (by decide) ?_
                  rw [show nI 0 = bI (chO S29 u = (-1) ∨ chO S29 u = nI f ∨ chO S29 u = nI s) from (bI_f ((fun h => h.elim c22 (fun h => h.elim c23 c24)))).symm]
                  exact J11
                · skip
                  refine mw_const i_112_137 (v := nI 1) (by decide) ?_
                  refine mw_goto i_112_138 ?_
                  rw [show nI 1 = bI (chO S29 u = (-1) ∨ chO S29 u = nI f ∨ chO S29 u = nI s) from (bI_t ((Or.inr (Or.inr (Classical.not_not.mp c24))))).symm]
                  exact J11
        · skip
          exact absurd (Classical.not_not.mp c8) (nI_nm1 (by omega))
      · skip
        refine mw_iload i_112_86 (x := nI s) rfl ?_
        refine mw_goto i_112_87 ?_
        have elo : s = lo := by rw [hlo]; first | exact (if_pos (Classical.not_not.mp c3)).symm | exact (if_neg c3).symm | exact (if_pos (by omega)).symm | exact (if_neg (by omega)).symm
        refine mw_callV i_112_89 mf_111 (as := [pI (nI tw), pI (nI wi), pI (nI s)]) (rest := []) (d' := d9) (b' := b) (ls0 := [some (pR (some MO)), some (pI (nI tw)), some (pI (nI wi)), some (pI (nI s))]) rfl rfl rfl (Nat.le_of_ble_eq_true rfl) (MK_o hM) rfl rfl rfl ?_
        refine m_wins (lo := s) (by omega) hM hm htw hwi (by omega) ?_
        intro I7 hF7 hmW
        rw [elo] at hmW
        obtain ⟨S45, eS45⟩ : ∃ S45, S45 = win τ tw wi lo := ⟨_, rfl⟩
        rw [← eS45] at hmW
        refine aft_n ?_
        refine mw_aload i_112_90 (L := MO) rfl ?_
        refine mw_getR i_112_91 (MK_o hM) (q := some (MA 5)) (MK_r hM 5 (by decide)) ?_
        refine mw_iload i_112_92 (x := nI f) rfl ?_
        refine mw_dup2 i_112_93 trivial trivial ?_
        refine mw_iald i_112_94 (jn := f) (n := 10) (by omega) (by omega) (show K (MA 5) = some (7, 10) from MK_k hM 5 (by decide)) (by decide) (v := τ 5 f) ((rm hmW (by decide) _).trans (by rw [eS45, win_o (by decide) (by decide) (by decide)])) ?_
        refine mw_aload i_112_95 (L := MO) rfl ?_
        refine mw_aload i_112_96 (L := MO) rfl ?_
        refine mw_get i_112_97 (MK_o hM) (v := nI x) ((rs hmW (by decide)).trans (by rw [eS45, win_o (by decide) (by decide) (by decide)]; exact h0)) ?_
        refine mw_iload i_112_98 (x := nI i) rfl ?_
        refine mw_const i_112_99 (v := nI 3) (by decide) ?_
        refine mw_callV i_112_100 mf_81 (as := [pI (nI x), pI (nI i), pI (nI 3)]) (rest := [pI (τ 5 f), pI (nI f), pR (some (MA 5))]) (d' := d9) (b' := b) (ls0 := [some (pR (some MO)), some (pI (nI x)), some (pI (nI i)), some (pI (nI 3))]) rfl rfl rfl (Nat.le_of_ble_eq_true rfl) (MK_o hM) rfl rfl rfl ?_
        refine m_of hM (by omega) (by omega) (by omega) ?_
        rw [show I7 (MA 19) (36 * x + 6 * i + 3) = m from ((rm hmW (by decide) _).trans (by rw [eS45, win_o (by decide) (by decide) (by decide)]; exact e3))]
        refine aft_v ?_
        refine mw_iadd i_112_101 (w := ((τ 5 f) + m)) rfl ?_
        obtain ⟨I46, e46⟩ : ∃ I46, I46 = up2 I7 (MA 5) f ((τ 5 f) + m) := ⟨_, rfl⟩
        refine mw_iast i_112_102 (jn := f) (n := 10) (by omega) (by omega) (x := ((τ 5 f) + m)) (show K (MA 5) = some (7, 10) from MK_k hM 5 (by decide)) (I' := I46) e46.symm ?_
        refine mw_aload i_112_103 (L := MO) rfl ?_
        refine mw_getR i_112_104 (MK_o hM) (q := some (MA 5)) (MK_r hM 5 (by decide)) ?_
        refine mw_iload i_112_105 (x := nI s) rfl ?_
        refine mw_dup2 i_112_106 trivial trivial ?_
        obtain ⟨S47, eS47⟩ : ∃ S47, S47 = ups S45 5 f ((τ 5 f) + m) := ⟨_, rfl⟩
        have hm47 : mv I46 = S47 := by rw [e46, mv_a (by decide) (by decide) (by decide) (by decide), hmW, eS47]
        refine mw_iald i_112_107 (jn := s) (n := 10) (by omega) (by omega) (show K (MA 5) = some (7, 10) from MK_k hM 5 (by decide)) (by decide) (v := S47 5 s) (rm hm47 (by decide) _) ?_
        refine mw_aload i_112_108 (L := MO) rfl ?_
        refine mw_aload i_112_109 (L := MO) rfl ?_
        refine mw_get i_112_110 (MK_o hM) (v := nI x) ((rs hm47 (by decide)).trans (by rw [eS47, ups_ne (by decide), eS45, win_o (by decide) (by decide) (by decide)]; exact h0)) ?_
        refine mw_iload i_112_111 (x := nI i) rfl ?_
        refine mw_const i_112_112 (v := nI 3) (by decide) ?_
        refine mw_callV i_112_113 mf_81 (as := [pI (nI x), pI (nI i), pI (nI 3)]) (rest := [pI (S47 5 s), pI (nI s), pR (some (MA 5))]) (d' := d9) (b' := b) (ls0 := [some (pR (some MO)), some (pI (nI x)), some (pI (nI i)), some (pI (nI 3))]) rfl rfl rfl (Nat.le_of_ble_eq_true rfl) (MK_o hM) rfl rfl rfl ?_
        refine m_of hM (by omega) (by omega) (by omega) ?_
        rw [show I46 (MA 19) (36 * x + 6 * i + 3) = m from ((rm hm47 (by decide) _).trans (by rw [eS47, ups_ne (by decide), eS45, win_o (by decide) (by decide) (by decide)]; exact e3))]
        refine aft_v ?_
        refine mw_iadd i_112_114 (w := ((S47 5 s) + m)) rfl ?_
        obtain ⟨I48, e48⟩ : ∃ I48, I48 = up2 I46 (MA 5) s ((S47 5 s) + m) := ⟨_, rfl⟩
        refine mw_iast i_112_115 (jn := s) (n := 10) (by omega) (by omega) (x := ((S47 5 s) + m)) (show K (MA 5) = some (7, 10) from MK_k hM 5 (by decide)) (I' := I48) e48.symm ?_
        refine mw_iload i_112_116 (x := nI u) rfl ?_
        refine mw_const i_112_117 (v := (-1)) (by decide) ?_
        refine mw_ic i_112_118 (p := ¬ (nI u) = (-1)) Iff.rfl (fun c29 => ?_) (fun c29 => ?_)
        · skip
          refine mw_aload i_112_121 (L := MO) rfl ?_
          refine mw_iload i_112_122 (x := nI u) rfl ?_
          obtain ⟨S50, eS50⟩ : ∃ S50, S50 = ups S47 5 s ((S47 5 s) + m) := ⟨_, rfl⟩
          have hm50 : mv I48 = S50 := by rw [e48, mv_a (by decide) (by decide) (by decide) (by decide), hm47, eS50]
          have h17 : S50 17 = τ 17 := by rw [eS50, ups_ne (by decide), eS47, ups_ne (by decide), eS45, win_o (by decide) (by decide) (by decide)]
          have eln : lnO S50 u = lnO τ u := by unfold lnO; rw [h17]
          refine mw_callV i_112_123 mf_88 (as := [pI (nI u)]) (rest := []) (d' := d9) (b' := b) (ls0 := [some (pR (some MO)), some (pI (nI u))]) rfl rfl rfl (Nat.le_of_ble_eq_true rfl) (MK_o hM) rfl rfl rfl ?_
          refine m_champG hM hm50 hu (by rw [h17, eln]; exact (hLN u hu).1) (by rw [eln]; have := (hLN u hu).2; omega) ?_
          refine aft_v ?_
          refine mw_istore i_112_124 (ls' := [some (pR (some MO)), some (pI (nI i)), some (pI (nI tw)), some (pI (nI f)), some (pI (nI s)), some (pI (nI wi)), some (pI (nI u)), some (pI ((wrt τ tw f) + (wrt τ tw s))), some (pI (bI False)), some (pI (chO S50 u)), none]) rfl (Nat.le_of_ble_eq_true rfl) ?_
          refine mw_iload i_112_125 (x := nI u) rfl ?_
          refine mw_const i_112_126 (v := (-1)) (by decide) ?_
          refine mw_ic i_112_127 (p := (nI u) = (-1)) Iff.rfl (fun c31 => ?_) (fun c31 => ?_)
          · skip
            exact absurd c31 (nI_nm1 (by omega))
          · skip
            have J32 : Mw (d9 + 1) b 112 140 [some (pR (some MO)), some (pI (nI i)), some (pI (nI tw)), some (pI (nI f)), some (pI (nI s)), some (pI (nI wi)), some (pI (nI u)), some (pI ((wrt τ tw f) + (wrt τ tw s))), some (pI (bI False)), some (pI (chO S50 u)), none] [pI (bI (chO S50 u = (-1) ∨ chO S50 u = nI f ∨ chO S50 u = nI s))] K I48 R Q := by
              refine mw_istore i_112_140 (ls' := [some (pR (some MO)), some (pI (nI i)), some (pI (nI tw)), some (pI (nI f)), some (pI (nI s)), some (pI (nI wi)), some (pI (nI u)), some (pI ((wrt τ tw f) + (wrt τ tw s))), some (pI (bI False)), some (pI (chO S50 u)), some (pI (bI (chO S50 u = (-1) ∨ chO S50 u = nI f ∨ chO S50 u = nI s)))]) rfl (Nat.le_of_ble_eq_true rfl) ?_
              refine mw_iload i_112_141 (x := bI False) rfl ?_
              refine mw_neB i_112_142 rfl (fun c33 => ?_) (fun c33 => ?_)
              · skip
                exact c33.elim
              · skip
                refine mw_iload i_112_143 (x := bI (chO S50 u = (-1) ∨ chO S50 u = nI f ∨ chO S50 u = nI s)) rfl ?_
                refine mw_eqB i_112_144 rfl (fun c34 => ?_) (fun c34 => ?_)
                · skip
                  refine mw_aload i_112_152 (L := MO) rfl ?_
                  refine mw_iload i_112_153 (x := nI f) rfl ?_
                  have hr1 : ∀ w, w < 10 → S50 3 w = nI 0 ∨ S50 3 w = nI 1 := fun w hw => by rw [eS50, ups_ne (by decide), eS47, ups_ne (by decide), eS45, win_o (by decide) (by decide) (by decide)]; exact hr w hw
                  refine mw_callV i_112_154 mf_109 (as := [pI (nI f)]) (rest := []) (d' := d9) (b' := b) (ls0 := [some (pR (some MO)), some (pI (nI f)), none, none, none]) rfl rfl rfl (Nat.le_of_ble_eq_true rfl) (MK_o hM) rfl rfl rfl ?_
                  refine m_turns hM hm50 (by omega) (hr1 _ (by omega)) ?_
                  intro I4 hF4 hmT1
                  obtain ⟨S55, eS55⟩ : ∃ S55, S55 = trS S50 f := ⟨_, rfl⟩
                  rw [← eS55] at hmT1
                  refine aft_n ?_
                  refine mw_aload i_112_155 (L := MO) rfl ?_
                  refine mw_iload i_112_156 (x := nI s) rfl ?_
                  refine mw_callV i_112_157 mf_109 (as := [pI (nI s)]) (rest := []) (d' := d9) (b' := b) (ls0 := [some (pR (some MO)), some (pI (nI s)), none, none, none]) rfl rfl rfl (Nat.le_of_ble_eq_true rfl) (MK_o hM) rfl rfl rfl ?_
                  refine m_turns hM hmT1 (by omega) (by rw [eS55]; exact trS_3 hr1 (by omega) (by omega)) ?_
                  intro I5 hF5 hmT2
                  obtain ⟨S56, eS56⟩ : ∃ S56, S56 = trS S55 s := ⟨_, rfl⟩
                  rw [← eS56] at hmT2
                  refine aft_n ?_
                  refine mw_iload i_112_158 (x := ((wrt τ tw f) + (wrt τ tw s))) rfl ?_
                  refine mw_iretI i_112_159 (x := ((wrt τ tw f) + (wrt τ tw s))) rt_112 ?_
                  have hSB : S50 = pB τ tw f s wi lo m := by rw [eS50, eS47, eS45]; unfold pB adS; rw [win_o (by decide) (by decide) (by decide)]
                  have hcond : ¬ ((chO S50 u = (-1) ∨ chO S50 u = nI f ∨ chO S50 u = nI s) ∧ ¬ chO S50 u = nI wi) := fun h => c34 h.1
                  rw [hSB] at hcond
                  refine q _ (FrA_tr (FrA_tr ((e48.symm ▸ FrA_up ((e46.symm ▸ FrA_up (FrA_tr (FrA_rfl) hF7) rfl)) rfl)) hF4) hF5) ?_ _ rfl
                  rw [hmT2, eS56, eS55, hSB, pm_Nn hu hcond]
                · skip
                  refine mw_iload i_112_145 (x := chO S50 u) rfl ?_
                  refine mw_iload i_112_146 (x := nI wi) rfl ?_
                  refine mw_ic i_112_147 (p := (chO S50 u) = (nI wi)) Iff.rfl (fun c37 => ?_) (fun c37 => ?_)
                  · skip
                    refine mw_aload i_112_152 (L := MO) rfl ?_
                    refine mw_iload i_112_153 (x := nI f) rfl ?_
                    have hr1 : ∀ w, w < 10 → S50 3 w = nI 0 ∨ S50 3 w = nI 1 := fun w hw => by rw [eS50, ups_ne (by decide), eS47, ups_ne (by decide), eS45, win_o (by decide) (by decide) (by decide)]; exact hr w hw
                    refine mw_callV i_112_154 mf_109 (as := [pI (nI f)]) (rest := []) (d' := d9) (b' := b) (ls0 := [some (pR (some MO)), some (pI (nI f)), none, none, none]) rfl rfl rfl (Nat.le_of_ble_eq_true rfl) (MK_o hM) rfl rfl rfl ?_
                    refine m_turns hM hm50 (by omega) (hr1 _ (by omega)) ?_
                    intro I4 hF4 hmT1
                    obtain ⟨S58, eS58⟩ : ∃ S58, S58 = trS S50 f := ⟨_, rfl⟩
                    rw [← eS58] at hmT1
                    refine aft_n ?_
                    refine mw_aload i_112_155 (L := MO) rfl ?_
                    refine mw_iload i_112_156 (x := nI s) rfl ?_
                    refine mw_callV i_112_157 mf_109 (as := [pI (nI s)]) (rest := []) (d' := d9) (b' := b) (ls0 := [some (pR (some MO)), some (pI (nI s)), none, none, none]) rfl rfl rfl (Nat.le_of_ble_eq_true rfl) (MK_o hM) rfl rfl rfl ?_
                    refine m_turns hM hmT1 (by omega) (by rw [eS58]; exact trS_3 hr1 (by omega) (by omega)) ?_
                    intro I5 hF5 hmT2
                    obtain ⟨S59, eS59⟩ : ∃ S59, S59 = trS S58 s := ⟨_, rfl⟩
                    rw [← eS59] at hmT2
                    refine aft_n ?_
                    refine mw_iload i_112_158 (x := ((wrt τ tw f) + (wrt τ tw s))) rfl ?_
                    refine mw_iretI i_112_159 (x := ((wrt τ tw f) + (wrt τ tw s))) rt_112 ?_
                    have hSB : S50 = pB τ tw f s wi lo m := by rw [eS50, eS47, eS45]; unfold pB adS; rw [win_o (by decide) (by decide) (by decide)]
                    have hcond : ¬ ((chO S50 u = (-1) ∨ chO S50 u = nI f ∨ chO S50 u = nI s) ∧ ¬ chO S50 u = nI wi) := fun h => h.2 c37
                    rw [hSB] at hcond
                    refine q _ (FrA_tr (FrA_tr ((e48.symm ▸ FrA_up ((e46.symm ▸ FrA_up (FrA_tr (FrA_rfl) hF7) rfl)) rfl)) hF4) hF5) ?_ _ rfl
                    rw [hmT2, eS59, eS58, hSB, pm_Nn hu hcond]
                  · skip
                    refine mw_aload i_112_148 (L := MO) rfl ?_
                    refine mw_iload i_112_149 (x := nI u) rfl ?_
                    refine mw_iload i_112_150 (x := nI wi) rfl ?_
                    refine mw_callV i_112_151 mf_89 (as := [pI (nI u), pI (nI wi)]) (rest := []) (d' := d9) (b' := b) (ls0 := [some (pR (some MO)), some (pI (nI u)), some (pI (nI wi))]) rfl rfl rfl (Nat.le_of_ble_eq_true rfl) (MK_o hM) rfl rfl rfl ?_
                    refine m_crowns hM hm50 hu (l := lnO S50 u) (by rw [h17, eln]; exact (hLN u hu).1) (by rw [eln]; have := (hLN u hu).2; omega) ?_
                    intro I6 hF6 hmC
                    obtain ⟨S60, eS60⟩ : ∃ S60, S60 = crn S50 u (lnO S50 u) (nI wi) (S50 0 0) := ⟨_, rfl⟩
                    rw [← eS60] at hmC
                    refine aft_n ?_
                    refine mw_aload i_112_152 (L := MO) rfl ?_
                    refine mw_iload i_112_153 (x := nI f) rfl ?_
                    have hr1 : ∀ w, w < 10 → S60 3 w = nI 0 ∨ S60 3 w = nI 1 := fun w hw => by rw [eS60, crn_o (by decide) (by decide) (by decide), eS50, ups_ne (by decide), eS47, ups_ne (by decide), eS45, win_o (by decide) (by decide) (by decide)]; exact hr w hw
                    refine mw_callV i_112_154 mf_109 (as := [pI (nI f)]) (rest := []) (d' := d9) (b' := b) (ls0 := [some (pR (some MO)), some (pI (nI f)), none, none, none]) rfl rfl rfl (Nat.le_of_ble_eq_true rfl) (MK_o hM) rfl rfl rfl ?_
                    refine m_turns hM hmC (by omega) (hr1 _ (by omega)) ?_
                    intro I4 hF4 hmT1
                    obtain ⟨S61, eS61⟩ : ∃ S61, S61 = trS S60 f := ⟨_, rfl⟩
                    rw [← eS61] at hmT1
                    refine aft_n ?_
                    refine mw_aload i_112_155 (L := MO) rfl ?_
                    refine mw_iload i_112_156 (x := nI s) rfl ?_
                    refine mw_callV i_112_157 mf_109 (as := [pI (nI s)]) (rest := []) (d' := d9) (b' := b) (ls0 := [some (pR (some MO)), some (pI (nI s)), none, none, none]) rfl rfl rfl (Nat.le_of_ble_eq_true rfl) (MK_o hM) rfl rfl rfl ?_
                    refine m_turns hM hmT1 (by omega) (by rw [eS61]; exact trS_3 hr1 (by omega) (by omega)) ?_
                    intro I5 hF5 hmT2
                    obtain ⟨S62, eS62⟩ : ∃ S62, S62 = trS S61 s := ⟨_, rfl⟩
                    rw [← eS62] at hmT2
                    refine aft_n ?_
                    refine mw_iload i_112_158 (x := ((wrt τ tw f) + (wrt τ tw s))) rfl ?_
                    refine mw_iretI i_112_159 (x := ((wrt τ tw f) + (wrt τ tw s))) rt_112 ?_
                    have hSB : S50 = pB τ tw f s wi lo m := by rw [eS50, eS47, eS45]; unfold pB adS; rw [win_o (by decide) (by decide) (by decide)]
                    have hcond : ((chO S50 u = (-1) ∨ chO S50 u = nI f ∨ chO S50 u = nI s) ∧ ¬ chO S50 u = nI wi) := ⟨c34, c37⟩
                    rw [hSB] at hcond
                    refine q _ (FrA_tr (FrA_tr (FrA_tr ((e48.symm ▸ FrA_up ((e46.symm ▸ FrA_up (FrA_tr (FrA_rfl) hF7) rfl)) rfl)) hF6) hF4) hF5) ?_ _ rfl
                    rw [hmT2, eS62, eS61, eS60, hSB, pm_Ny hu hcond]
            refine mw_iload i_112_128 (x := chO S50 u) rfl ?_
            refine mw_const i_112_129 (v := (-1)) (by decide) ?_
            refine mw_ic i_112_130 (p := (chO S50 u) = (-1)) Iff.rfl (fun c43 => ?_) (fun c43 => ?_)
            · skip
              refine mw_const i_112_137 (v := nI 1) (by decide) ?_
              refine mw_goto i_112_138 ?_
              rw [show nI 1 = bI (chO S50 u = (-1) ∨ chO S50 u = nI f ∨ chO S50 u = nI s) from (bI_t ((Or.inl c43))).symm]
              exact J32
            · skip
              refine mw_iload i_112_131 (x := chO S50 u) rfl ?_
              refine mw_iload i_112_132 (x := nI f) rfl ?_
              refine mw_ic i_112_133 (p := (chO S50 u) = (nI f)) Iff.rfl (fun c44 => ?_) (fun c44 => ?_)
              · skip
                refine mw_const i_112_137 (v := nI 1) (by decide) ?_
                refine mw_goto i_112_138 ?_
                rw [show nI 1 = bI (chO S50 u = (-1) ∨ chO S50 u = nI f ∨ chO S50 u = nI s) from (bI_t ((Or.inr (Or.inl c44)))).symm]
                exact J32
              · skip
                refine mw_iload i_112_134 (x := chO S50 u) rfl ?_
                refine mw_iload i_112_135 (x := nI s) rfl ?_
                refine mw_ic i_112_136 (p := ¬ (chO S50 u) = (nI s)) Iff.rfl (fun c45 => ?_) (fun c45 => ?_)
                · skip
                  refine mw_const i_112_139 (v := nI 0) (by decide) ?_
                  rw [show nI 0 = bI (chO S50 u = (-1) ∨ chO S50 u = nI f ∨ chO S50 u = nI s) from (bI_f ((fun h => h.elim c43 (fun h => h.elim c44 c45)))).symm]
                  exact J32
                · skip
                  refine mw_const i_112_137 (v := nI 1) (by decide) ?_
                  refine mw_goto i_112_138 ?_
                  rw [show nI 1 = bI (chO S50 u = (-1) ∨ chO S50 u = nI f ∨ chO S50 u = nI s) from (bI_t ((Or.inr (Or.inr (Classical.not_not.mp c45))))).symm]
                  exact J32
        · skip
          exact absurd (Classical.not_not.mp c29) (nI_nm1 (by omega))
    · skip
      exact c2.elim
  refine mw_aload i_112_49 (L := MO) rfl ?_
  refine mw_aload i_112_50 (L := MO) rfl ?_
  refine mw_get i_112_51 (MK_o hM) (v := nI x) ((rs hm (by decide)).trans h0) ?_
  refine mw_iload i_112_52 (x := nI i) rfl ?_
  refine mw_const i_112_53 (v := nI 5) (by decide) ?_
  refine mw_callV i_112_54 mf_81 (as := [pI (nI x), pI (nI i), pI (nI 5)]) (rest := []) (d' := d9) (b' := b) (ls0 := [some (pR (some MO)), some (pI (nI x)), some (pI (nI i)), some (pI (nI 5))]) rfl rfl rfl (Nat.le_of_ble_eq_true rfl) (MK_o hM) rfl rfl rfl ?_
  refine m_of hM (by omega) (by omega) (by omega) ?_
  rw [show I (MA 19) (36 * x + 6 * i + 5) = nI 0 from ((rm hm (by decide) _).trans e5)]
  refine aft_v ?_
  refine mw_const i_112_55 (v := nI 1) (by decide) ?_
  refine mw_icT i_112_56 (show ¬ nI 0 = nI 1 by decide) ?_
  refine mw_const i_112_59 (v := nI 0) (by decide) ?_
  rw [show nI 0 = bI (False) from (bI_f ((fun h => h))).symm]
  exact J1
