/-! the reference: love, worth, roles, what fits -/
theorem cl99_1 {e : Int32} (h : ¬ e ≤ nI 99) : cl99 e = nI 99 := by
  have h1 : ¬ e < nI 99 := fun q => h (Int32.le_of_lt q)
  unfold cl99
  simp only [if_neg h1]
  rw [if_pos (by decide)]
theorem cl99_2 {e : Int32} (h : ¬ (-99) ≤ e) : cl99 e = (-99) := by
  have h2 := Int32.lt_iff_toInt_lt.mp (Int32.not_le.mp h)
  have h1 : e < nI 99 := by
    rw [Int32.lt_iff_toInt_lt, nI_toInt (by decide)]
    have em : (-99 : Int32).toInt = -99 := by decide
    omega
  unfold cl99
  simp only [if_pos h1]
  rw [if_neg (fun q => h (Int32.le_of_lt q))]
theorem cl99_3 {e : Int32} (h : e ≤ nI 99) (h2 : (-99) ≤ e) : cl99 e = e := by
  have a := Int32.le_iff_toInt_le.mp h
  have b := Int32.le_iff_toInt_le.mp h2
  have e99 : (nI 99).toInt = 99 := nI_toInt (by decide)
  have em : (-99 : Int32).toInt = -99 := by decide
  unfold cl99
  by_cases h1 : e < nI 99
  · simp only [if_pos h1]
    by_cases h3 : (-99) < e
    · rw [if_pos h3]
    · rw [if_neg h3]
      have c := Int32.le_iff_toInt_le.mp (Int32.not_lt.mp h3)
      exact (Int32.toInt_inj.mp (by omega)).symm
  · simp only [if_neg h1]
    rw [if_pos (by decide)]
    have c := Int32.le_iff_toInt_le.mp (Int32.not_lt.mp h1)
    exact (Int32.toInt_inj.mp (by omega)).symm
theorem lov_o {σ : ST} {t w : Nat} {x : Int32} {k : Nat} (h : k ≠ 4) : lov σ t w x k = σ k := ups_ne h
theorem win0_o {σ : ST} {wi lo : Nat} {k : Nat} (h : k ≠ 13) (h2 : k ≠ 8) : win0 σ wi lo k = σ k := by
  unfold win0
  rw [ups_ne h2, ups_ne h]
theorem trn_a {r : Int32} {u d : Nat} (h : r = nI 1) (hu : 2 ≤ u) : trn r u d = nI 0 := if_pos ⟨h, hu⟩
theorem trn_n {r : Int32} {u d : Nat} (h : r = nI 1) (hu : ¬ 2 ≤ u) : trn r u d = nI 1 := by
  unfold trn
  rw [if_neg (fun q => hu q.2), if_neg (fun q => absurd (h.symm.trans q.1) (by decide)), h]
theorem trn_c {r : Int32} {u d : Nat} (h : r = nI 0) (hd : 2 ≤ d) : trn r u d = nI 1 := by
  unfold trn
  rw [if_neg (fun q => absurd (h.symm.trans q.1) (by decide)), if_pos ⟨h, hd⟩]
theorem trn_d {r : Int32} {u d : Nat} (h : r = nI 0) (hd : ¬ 2 ≤ d) : trn r u d = nI 0 := by
  unfold trn
  rw [if_neg (fun q => absurd (h.symm.trans q.1) (by decide)), if_neg (fun q => hd q.2), h]
set_option maxRecDepth 20000 in
set_option maxHeartbeats 400000 in
theorem m_loves {d b : Nat} {K : KM} {I : IM} {R : RM} {Q : QT} {σ : ST} {t w : Nat} {x : Int32} (hM : MK K R) (hm : mv I = σ) (ht : t < 4) (hw : w < 10) (q : ∀ I', FrA I I' → mv I' = lov σ t w x → Q (.inl none) K I' R) : Mw d b N_X6_loves 0 [some (pR (some MO)), some (pI (nI t)), some (pI (nI w)), some (pI x), none] [] K I R Q := by
  refine mw_aload i_108_0 (L := MO) rfl ?_
  refine mw_getR i_108_1 (MK_o hM) (q := some (MA 4)) (MK_r hM 4 (by decide)) ?_
  refine mw_const i_108_2 (v := nI 10) (by decide) ?_
  refine mw_iload i_108_3 (x := nI t) rfl ?_
  refine mw_imul i_108_4 (w := nI (10 * t)) (pk_mul _ _) ?_
  refine mw_iload i_108_5 (x := nI w) rfl ?_
  refine mw_iadd i_108_6 (w := nI (10 * t + w)) (nI_add _ _) ?_
  refine mw_iald i_108_7 (jn := 10 * t + w) (n := 40) (by omega) (by omega) (show K (MA 4) = some (7, 40) from MK_k hM 4 (by decide)) (by decide) (v := σ 4 (10 * t + w)) (rm hm (by decide) (10 * t + w)) ?_
  refine mw_iload i_108_8 (x := x) rfl ?_
  refine mw_iadd i_108_9 (w := ((σ 4 (10 * t + w)) + x)) rfl ?_
  refine mw_istore i_108_10 (ls' := [some (pR (some MO)), some (pI (nI t)), some (pI (nI w)), some (pI x), some (pI ((σ 4 (10 * t + w)) + x))]) rfl (Nat.le_of_ble_eq_true rfl) ?_
  refine mw_aload i_108_11 (L := MO) rfl ?_
  refine mw_getR i_108_12 (MK_o hM) (q := some (MA 4)) (MK_r hM 4 (by decide)) ?_
  refine mw_const i_108_13 (v := nI 10) (by decide) ?_
  refine mw_iload i_108_14 (x := nI t) rfl ?_
  refine mw_imul i_108_15 (w := nI (10 * t)) (pk_mul _ _) ?_
  refine mw_iload i_108_16 (x := nI w) rfl ?_
  refine mw_iadd i_108_17 (w := nI (10 * t + w)) (nI_add _ _) ?_
  refine mw_iload i_108_18 (x := ((σ 4 (10 * t + w)) + x)) rfl ?_
  refine mw_const i_108_19 (v := nI 99) (by decide) ?_
  refine mw_ic i_108_20 (p := ((σ 4 (10 * t + w)) + x) ≤ (nI 99)) Iff.rfl (fun c1 => ?_) (fun c1 => ?_)
  · skip
    refine mw_iload i_108_23 (x := ((σ 4 (10 * t + w)) + x)) rfl ?_
    refine mw_const i_108_24 (v := (-99)) (by decide) ?_
    refine mw_ic i_108_25 (p := (-99) ≤ ((σ 4 (10 * t + w)) + x)) Iff.rfl (fun c2 => ?_) (fun c2 => ?_)
    · skip
      refine mw_iload i_108_28 (x := ((σ 4 (10 * t + w)) + x)) rfl ?_
      obtain ⟨I23, e23⟩ : ∃ I23, I23 = up2 I (MA 4) (10 * t + w) ((σ 4 (10 * t + w)) + x) := ⟨_, rfl⟩
      refine mw_iast i_108_29 (jn := 10 * t + w) (n := 40) (by omega) (by omega) (x := ((σ 4 (10 * t + w)) + x)) (show K (MA 4) = some (7, 40) from MK_k hM 4 (by decide)) (I' := I23) e23.symm ?_
      refine mw_ret i_108_30 ?_
      refine q _ ((e23.symm ▸ FrA_up (FrA_rfl) rfl)) ?_
      rw [e23, mv_a (by decide) (by decide) (by decide) (by decide), hm]
      unfold lov
      rw [cl99_3 c1 c2]
    · skip
      refine mw_const i_108_26 (v := (-99)) (by decide) ?_
      refine mw_goto i_108_27 ?_
      obtain ⟨I24, e24⟩ : ∃ I24, I24 = up2 I (MA 4) (10 * t + w) (-99) := ⟨_, rfl⟩
      refine mw_iast i_108_29 (jn := 10 * t + w) (n := 40) (by omega) (by omega) (x := (-99)) (show K (MA 4) = some (7, 40) from MK_k hM 4 (by decide)) (I' := I24) e24.symm ?_
      refine mw_ret i_108_30 ?_
      refine q _ ((e24.symm ▸ FrA_up (FrA_rfl) rfl)) ?_
      rw [e24, mv_a (by decide) (by decide) (by decide) (by decide), hm]
      unfold lov
      rw [cl99_2 c2]
  · skip
    refine mw_const i_108_21 (v := nI 99) (by decide) ?_
    refine mw_goto i_108_22 ?_
    obtain ⟨I25, e25⟩ : ∃ I25, I25 = up2 I (MA 4) (10 * t + w) (nI 99) := ⟨_, rfl⟩
    refine mw_iast i_108_29 (jn := 10 * t + w) (n := 40) (by omega) (by omega) (x := nI 99) (show K (MA 4) = some (7, 40) from MK_k hM 4 (by decide)) (I' := I25) e25.symm ?_
    refine mw_ret i_108_30 ?_
    refine q _ ((e25.symm ▸ FrA_up (FrA_rfl) rfl)) ?_
    rw [e25, mv_a (by decide) (by decide) (by decide) (by decide), hm]
    unfold lov
    rw [cl99_1 c1]
set_option maxRecDepth 20000 in
set_option maxHeartbeats 400000 in
theorem m_worth {d b : Nat} {K : KM} {I : IM} {R : RM} {Q : QT} {σ : ST} {t w : Nat} (hM : MK K R) (hm : mv I = σ) (ht : t < 4) (hw : w < 10) (q : Q (.inl (some (pI (wrt σ t w)))) K I R) : Mw d b N_X6_worthOf 0 [some (pR (some MO)), some (pI (nI t)), some (pI (nI w)), none, none] [] K I R Q := by
  refine mw_aload i_110_0 (L := MO) rfl ?_
  refine mw_getR i_110_1 (MK_o hM) (q := some (MA 4)) (MK_r hM 4 (by decide)) ?_
  refine mw_const i_110_2 (v := nI 10) (by decide) ?_
  refine mw_iload i_110_3 (x := nI t) rfl ?_
  refine mw_imul i_110_4 (w := nI (10 * t)) (pk_mul _ _) ?_
  refine mw_iload i_110_5 (x := nI w) rfl ?_
  refine mw_iadd i_110_6 (w := nI (10 * t + w)) (nI_add _ _) ?_
  refine mw_iald i_110_7 (jn := 10 * t + w) (n := 40) (by omega) (by omega) (show K (MA 4) = some (7, 40) from MK_k hM 4 (by decide)) (by decide) (v := σ 4 (10 * t + w)) (rm hm (by decide) (10 * t + w)) ?_
  refine mw_istore i_110_8 (ls' := [some (pR (some MO)), some (pI (nI t)), some (pI (nI w)), some (pI (σ 4 (10 * t + w))), none]) rfl (Nat.le_of_ble_eq_true rfl) ?_
  refine mw_aload i_110_9 (L := MO) rfl ?_
  refine mw_getR i_110_10 (MK_o hM) (q := some (MA 1)) (MK_r hM 1 (by decide)) ?_
  refine mw_iload i_110_11 (x := nI w) rfl ?_
  refine mw_iald i_110_12 (jn := w) (n := 10) (by omega) (by omega) (show K (MA 1) = some (7, 10) from MK_k hM 1 (by decide)) (by decide) (v := σ 1 w) (rm hm (by decide) w) ?_
  refine mw_iload i_110_13 (x := σ 4 (10 * t + w)) rfl ?_
  refine mw_if i_110_14 (p := nI 0 ≤ (σ 4 (10 * t + w))) Iff.rfl (fun c1 => ?_) (fun c1 => ?_)
  · skip
    refine mw_iload i_110_18 (x := σ 4 (10 * t + w)) rfl ?_
    refine mw_iadd i_110_19 (w := ((σ 1 w) + (σ 4 (10 * t + w)))) rfl ?_
    refine mw_aload i_110_20 (L := MO) rfl ?_
    refine mw_getR i_110_21 (MK_o hM) (q := some (MA 5)) (MK_r hM 5 (by decide)) ?_
    refine mw_iload i_110_22 (x := nI w) rfl ?_
    refine mw_iald i_110_23 (jn := w) (n := 10) (by omega) (by omega) (show K (MA 5) = some (7, 10) from MK_k hM 5 (by decide)) (by decide) (v := σ 5 w) (rm hm (by decide) w) ?_
    refine mw_const i_110_24 (v := nI 10) (by decide) ?_
    refine mw_idiv i_110_25 (by decide) (w := ((σ 5 w) / (nI 10))) rfl ?_
    refine mw_isub i_110_26 (w := (((σ 1 w) + (σ 4 (10 * t + w))) - ((σ 5 w) / (nI 10)))) rfl ?_
    refine mw_istore i_110_27 (ls' := [some (pR (some MO)), some (pI (nI t)), some (pI (nI w)), some (pI (σ 4 (10 * t + w))), some (pI (((σ 1 w) + (σ 4 (10 * t + w))) - ((σ 5 w) / (nI 10))))]) rfl (Nat.le_of_ble_eq_true rfl) ?_
    refine mw_iload i_110_28 (x := (((σ 1 w) + (σ 4 (10 * t + w))) - ((σ 5 w) / (nI 10)))) rfl ?_
    refine mw_const i_110_29 (v := nI 1) (by decide) ?_
    refine mw_ic i_110_30 (p := (nI 1) ≤ (((σ 1 w) + (σ 4 (10 * t + w))) - ((σ 5 w) / (nI 10)))) Iff.rfl (fun c2 => ?_) (fun c2 => ?_)
    · skip
      refine mw_iload i_110_33 (x := (((σ 1 w) + (σ 4 (10 * t + w))) - ((σ 5 w) / (nI 10)))) rfl ?_
      refine mw_iretI i_110_34 (x := (((σ 1 w) + (σ 4 (10 * t + w))) - ((σ 5 w) / (nI 10)))) rt_110 ?_
      have e9 : wrt σ t w = (((σ 1 w) + (σ 4 (10 * t + w))) - ((σ 5 w) / (nI 10))) := by
        unfold wrt wth
        rw [if_pos (show (0 : Int32) ≤ σ 4 (10 * t + w) from c1)]
        split
        · rfl
        · rename_i h9
          exact Int32.le_antisymm c2 (Int32.not_lt.mp h9)
      rw [e9] at q
      exact q
    · skip
      refine mw_const i_110_31 (v := nI 1) (by decide) ?_
      refine mw_goto i_110_32 ?_
      refine mw_iretI i_110_34 (x := nI 1) rt_110 ?_
      have e9 : wrt σ t w = nI 1 := by
        unfold wrt wth
        rw [if_pos (show (0 : Int32) ≤ σ 4 (10 * t + w) from c1), if_neg (fun h9 => c2 (Int32.le_of_lt h9))]
      rw [e9] at q
      exact q
  · skip
    refine mw_iload i_110_15 (x := σ 4 (10 * t + w)) rfl ?_
    refine mw_ineg i_110_16 (w := -(σ 4 (10 * t + w))) rfl ?_
    refine mw_goto i_110_17 ?_
    refine mw_iadd i_110_19 (w := ((σ 1 w) + (-(σ 4 (10 * t + w))))) rfl ?_
    refine mw_aload i_110_20 (L := MO) rfl ?_
    refine mw_getR i_110_21 (MK_o hM) (q := some (MA 5)) (MK_r hM 5 (by decide)) ?_
    refine mw_iload i_110_22 (x := nI w) rfl ?_
    refine mw_iald i_110_23 (jn := w) (n := 10) (by omega) (by omega) (show K (MA 5) = some (7, 10) from MK_k hM 5 (by decide)) (by decide) (v := σ 5 w) (rm hm (by decide) w) ?_
    refine mw_const i_110_24 (v := nI 10) (by decide) ?_
    refine mw_idiv i_110_25 (by decide) (w := ((σ 5 w) / (nI 10))) rfl ?_
    refine mw_isub i_110_26 (w := (((σ 1 w) + (-(σ 4 (10 * t + w)))) - ((σ 5 w) / (nI 10)))) rfl ?_
    refine mw_istore i_110_27 (ls' := [some (pR (some MO)), some (pI (nI t)), some (pI (nI w)), some (pI (σ 4 (10 * t + w))), some (pI (((σ 1 w) + (-(σ 4 (10 * t + w)))) - ((σ 5 w) / (nI 10))))]) rfl (Nat.le_of_ble_eq_true rfl) ?_
    refine mw_iload i_110_28 (x := (((σ 1 w) + (-(σ 4 (10 * t + w)))) - ((σ 5 w) / (nI 10)))) rfl ?_
    refine mw_const i_110_29 (v := nI 1) (by decide) ?_
    refine mw_ic i_110_30 (p := (nI 1) ≤ (((σ 1 w) + (-(σ 4 (10 * t + w)))) - ((σ 5 w) / (nI 10)))) Iff.rfl (fun c3 => ?_) (fun c3 => ?_)
    · skip
      refine mw_iload i_110_33 (x := (((σ 1 w) + (-(σ 4 (10 * t + w)))) - ((σ 5 w) / (nI 10)))) rfl ?_
      refine mw_iretI i_110_34 (x := (((σ 1 w) + (-(σ 4 (10 * t + w)))) - ((σ 5 w) / (nI 10)))) rt_110 ?_
      have e9 : wrt σ t w = (((σ 1 w) + (-(σ 4 (10 * t + w)))) - ((σ 5 w) / (nI 10))) := by
        unfold wrt wth
        rw [if_neg (show ¬ (0 : Int32) ≤ σ 4 (10 * t + w) from c1), Int32.zero_sub]
        split
        · rfl
        · rename_i h9
          exact Int32.le_antisymm c3 (Int32.not_lt.mp h9)
      rw [e9] at q
      exact q
    · skip
      refine mw_const i_110_31 (v := nI 1) (by decide) ?_
      refine mw_goto i_110_32 ?_
      refine mw_iretI i_110_34 (x := nI 1) rt_110 ?_
      have e9 : wrt σ t w = nI 1 := by
        unfold wrt wth
        rw [if_neg (show ¬ (0 : Int32) ≤ σ 4 (10 * t + w) from c1), Int32.zero_sub, if_neg (fun h9 => c3 (Int32.le_of_lt h9))]
      rw [e9] at q
      exact q
set_option maxRecDepth 20000 in
theorem m_turn_lp {d b : Nat} {K : KM} {I : IM} {R : RM} {Q : QT} {σ : ST} {w : Nat} (hM : MK K R) (hm : mv I = σ) (hw : w < 10) (q : Mw d b N_X6_turns 43 [some (pR (some MO)), some (pI (nI w)), some (pI (nI (cnt (fun t => nI 50 ≤ σ 4 (10 * t + w)) 4))), some (pI (nI (cnt (fun t => σ 4 (10 * t + w) ≤ (-50)) 4))), some (pI (nI 4))] [] K I R Q) : ∀ (n i : Nat), 4 - i < n → i ≤ 4 → Mw d b N_X6_turns 6 [some (pR (some MO)), some (pI (nI w)), some (pI (nI (cnt (fun t => nI 50 ≤ σ 4 (10 * t + w)) i))), some (pI (nI (cnt (fun t => σ 4 (10 * t + w) ≤ (-50)) i))), some (pI (nI i))] [] K I R Q := by
  intro n
  induction n with
  | zero => intro i hn; exact absurd hn (Nat.not_lt_zero _)
  | succ n ih =>
    intro i hn hi
    refine mw_iload i_109_6 (x := nI i) rfl ?_
    refine mw_const i_109_7 (v := nI 4) (by decide) ?_
    refine mw_ic i_109_8 (p := 4 ≤ i) (nI_leI (by omega) (by omega)) (fun c1 => ?_) (fun c1 => ?_)
    · skip
      obtain rfl : i = 4 := by omega
      exact q
    · skip
      refine mw_iload i_109_9 (x := nI (cnt (fun t => nI 50 ≤ σ 4 (10 * t + w)) i)) rfl ?_
      have J2 : Mw d b 109 23 [some (pR (some MO)), some (pI (nI w)), some (pI (nI (cnt (fun t => nI 50 ≤ σ 4 (10 * t + w)) i))), some (pI (nI (cnt (fun t => σ 4 (10 * t + w) ≤ (-50)) i))), some (pI (nI i))] [pI (bI (nI 50 ≤ σ 4 (10 * i + w))), pI (nI (cnt (fun t => nI 50 ≤ σ 4 (10 * t + w)) i))] K I R Q := by
        refine mw_iadd i_109_23 (w := nI (cnt (fun t => nI 50 ≤ σ 4 (10 * t + w)) (i + 1))) (cntB (p := (fun t => nI 50 ≤ σ 4 (10 * t + w)))) ?_
        refine mw_istore i_109_24 (ls' := [some (pR (some MO)), some (pI (nI w)), some (pI (nI (cnt (fun t => nI 50 ≤ σ 4 (10 * t + w)) (i + 1)))), some (pI (nI (cnt (fun t => σ 4 (10 * t + w) ≤ (-50)) i))), some (pI (nI i))]) rfl (Nat.le_of_ble_eq_true rfl) ?_
        refine mw_iload i_109_25 (x := nI (cnt (fun t => σ 4 (10 * t + w) ≤ (-50)) i)) rfl ?_
        have J3 : Mw d b 109 39 [some (pR (some MO)), some (pI (nI w)), some (pI (nI (cnt (fun t => nI 50 ≤ σ 4 (10 * t + w)) (i + 1)))), some (pI (nI (cnt (fun t => σ 4 (10 * t + w) ≤ (-50)) i))), some (pI (nI i))] [pI (bI (σ 4 (10 * i + w) ≤ (-50))), pI (nI (cnt (fun t => σ 4 (10 * t + w) ≤ (-50)) i))] K I R Q := by
          refine mw_iadd i_109_39 (w := nI (cnt (fun t => σ 4 (10 * t + w) ≤ (-50)) (i + 1))) (cntB (p := (fun t => σ 4 (10 * t + w) ≤ (-50)))) ?_
          refine mw_istore i_109_40 (ls' := [some (pR (some MO)), some (pI (nI w)), some (pI (nI (cnt (fun t => nI 50 ≤ σ 4 (10 * t + w)) (i + 1)))), some (pI (nI (cnt (fun t => σ 4 (10 * t + w) ≤ (-50)) (i + 1)))), some (pI (nI i))]) rfl (Nat.le_of_ble_eq_true rfl) ?_
          refine mw_iinc i_109_41 (x := nI i) (v := nI (i + 1)) (ls' := [some (pR (some MO)), some (pI (nI w)), some (pI (nI (cnt (fun t => nI 50 ≤ σ 4 (10 * t + w)) (i + 1)))), some (pI (nI (cnt (fun t => σ 4 (10 * t + w) ≤ (-50)) (i + 1)))), some (pI (nI (i + 1)))]) rfl (nI_add _ _) rfl ?_
          refine mw_goto i_109_42 ?_
          exact ih (i + 1) (by omega) (by omega)
        refine mw_aload i_109_26 (L := MO) rfl ?_
        refine mw_getR i_109_27 (MK_o hM) (q := some (MA 4)) (MK_r hM 4 (by decide)) ?_
        refine mw_const i_109_28 (v := nI 10) (by decide) ?_
        refine mw_iload i_109_29 (x := nI i) rfl ?_
        refine mw_imul i_109_30 (w := nI (10 * i)) (pk_mul _ _) ?_
        refine mw_iload i_109_31 (x := nI w) rfl ?_
        refine mw_iadd i_109_32 (w := nI (10 * i + w)) (nI_add _ _) ?_
        refine mw_iald i_109_33 (jn := 10 * i + w) (n := 40) (by omega) (by omega) (show K (MA 4) = some (7, 40) from MK_k hM 4 (by decide)) (by decide) (v := σ 4 (10 * i + w)) (rm hm (by decide) (10 * i + w)) ?_
        refine mw_const i_109_34 (v := (-50)) (by decide) ?_
        refine mw_ic i_109_35 (p := (-50) < (σ 4 (10 * i + w))) Iff.rfl (fun c4 => ?_) (fun c4 => ?_)
        · skip
          refine mw_const i_109_38 (v := nI 0) (by decide) ?_
          rw [show nI 0 = bI (σ 4 (10 * i + w) ≤ (-50)) from (bI_f ((Int32.not_le.mpr c4))).symm]
          exact J3
        · skip
          refine mw_const i_109_36 (v := nI 1) (by decide) ?_
          refine mw_goto i_109_37 ?_
          rw [show nI 1 = bI (σ 4 (10 * i + w) ≤ (-50)) from (bI_t ((Int32.not_lt.mp c4))).symm]
          exact J3
      refine mw_aload i_109_10 (L := MO) rfl ?_
      refine mw_getR i_109_11 (MK_o hM) (q := some (MA 4)) (MK_r hM 4 (by decide)) ?_
      refine mw_const i_109_12 (v := nI 10) (by decide) ?_
      refine mw_iload i_109_13 (x := nI i) rfl ?_
      refine mw_imul i_109_14 (w := nI (10 * i)) (pk_mul _ _) ?_
      refine mw_iload i_109_15 (x := nI w) rfl ?_
      refine mw_iadd i_109_16 (w := nI (10 * i + w)) (nI_add _ _) ?_
      refine mw_iald i_109_17 (jn := 10 * i + w) (n := 40) (by omega) (by omega) (show K (MA 4) = some (7, 40) from MK_k hM 4 (by decide)) (by decide) (v := σ 4 (10 * i + w)) (rm hm (by decide) (10 * i + w)) ?_
      refine mw_const i_109_18 (v := nI 50) (by decide) ?_
      refine mw_ic i_109_19 (p := (σ 4 (10 * i + w)) < (nI 50)) Iff.rfl (fun c5 => ?_) (fun c5 => ?_)
      · skip
        refine mw_const i_109_22 (v := nI 0) (by decide) ?_
        rw [show nI 0 = bI (nI 50 ≤ σ 4 (10 * i + w)) from (bI_f ((Int32.not_le.mpr c5))).symm]
        exact J2
      · skip
        refine mw_const i_109_20 (v := nI 1) (by decide) ?_
        refine mw_goto i_109_21 ?_
        rw [show nI 1 = bI (nI 50 ≤ σ 4 (10 * i + w)) from (bI_t ((Int32.not_lt.mp c5))).symm]
        exact J2
set_option maxRecDepth 20000 in
set_option maxHeartbeats 400000 in
theorem m_turn2 {d b : Nat} {K : KM} {I : IM} {R : RM} {Q : QT} {σ : ST} {w u0 d0 : Nat} (hM : MK K R) (hm : mv I = σ) (hw : w < 10) (hu : u0 ≤ 4) (hd0 : d0 ≤ 4) (hr : σ 3 w = nI 0 ∨ σ 3 w = nI 1) (q : ∀ I', FrA I I' → mv I' = ups σ 3 w (trn (σ 3 w) u0 d0) → Q (.inl none) K I' R) : Mw d b N_X6_turns 43 [some (pR (some MO)), some (pI (nI w)), some (pI (nI u0)), some (pI (nI d0)), some (pI (nI 4))] [] K I R Q := by
  refine mw_aload i_109_43 (L := MO) rfl ?_
  refine mw_getR i_109_44 (MK_o hM) (q := some (MA 3)) (MK_r hM 3 (by decide)) ?_
  refine mw_iload i_109_45 (x := nI w) rfl ?_
  refine mw_iald i_109_46 (jn := w) (n := 10) (by omega) (by omega) (show K (MA 3) = some (7, 10) from MK_k hM 3 (by decide)) (by decide) (v := σ 3 w) (rm hm (by decide) w) ?_
  refine mw_const i_109_47 (v := nI 1) (by decide) ?_
  refine mw_ic i_109_48 (p := ¬ (σ 3 w) = (nI 1)) Iff.rfl (fun c1 => ?_) (fun c1 => ?_)
  · skip
    refine mw_aload i_109_60 (L := MO) rfl ?_
    refine mw_getR i_109_61 (MK_o hM) (q := some (MA 3)) (MK_r hM 3 (by decide)) ?_
    refine mw_iload i_109_62 (x := nI w) rfl ?_
    refine mw_iload i_109_63 (x := nI d0) rfl ?_
    refine mw_const i_109_64 (v := nI 1) (by decide) ?_
    refine mw_ic i_109_65 (p := d0 ≤ 1) (nI_leI (by omega) (by omega)) (fun c2 => ?_) (fun c2 => ?_)
    · skip
      refine mw_const i_109_68 (v := nI 0) (by decide) ?_
      obtain ⟨I23, e23⟩ : ∃ I23, I23 = up2 I (MA 3) w (nI 0) := ⟨_, rfl⟩
      refine mw_iast i_109_69 (jn := w) (n := 10) (by omega) (by omega) (x := nI 0) (show K (MA 3) = some (7, 10) from MK_k hM 3 (by decide)) (I' := I23) e23.symm ?_
      refine mw_ret i_109_70 ?_
      refine q _ ((e23.symm ▸ FrA_up (FrA_rfl) rfl)) ?_
      rw [e23, mv_a (by decide) (by decide) (by decide) (by decide), hm, show trn (σ 3 w) u0 d0 = nI 0 from trn_d (hr.elim id (fun h9 => absurd h9 c1)) (by omega)]
    · skip
      refine mw_const i_109_66 (v := nI 1) (by decide) ?_
      refine mw_goto i_109_67 ?_
      obtain ⟨I24, e24⟩ : ∃ I24, I24 = up2 I (MA 3) w (nI 1) := ⟨_, rfl⟩
      refine mw_iast i_109_69 (jn := w) (n := 10) (by omega) (by omega) (x := nI 1) (show K (MA 3) = some (7, 10) from MK_k hM 3 (by decide)) (I' := I24) e24.symm ?_
      refine mw_ret i_109_70 ?_
      refine q _ ((e24.symm ▸ FrA_up (FrA_rfl) rfl)) ?_
      rw [e24, mv_a (by decide) (by decide) (by decide) (by decide), hm, show trn (σ 3 w) u0 d0 = nI 1 from trn_c (hr.elim id (fun h9 => absurd h9 c1)) (by omega)]
  · skip
    refine mw_aload i_109_49 (L := MO) rfl ?_
    refine mw_getR i_109_50 (MK_o hM) (q := some (MA 3)) (MK_r hM 3 (by decide)) ?_
    refine mw_iload i_109_51 (x := nI w) rfl ?_
    refine mw_iload i_109_52 (x := nI u0) rfl ?_
    refine mw_const i_109_53 (v := nI 1) (by decide) ?_
    refine mw_ic i_109_54 (p := u0 ≤ 1) (nI_leI (by omega) (by omega)) (fun c5 => ?_) (fun c5 => ?_)
    · skip
      refine mw_const i_109_57 (v := nI 1) (by decide) ?_
      obtain ⟨I26, e26⟩ : ∃ I26, I26 = up2 I (MA 3) w (nI 1) := ⟨_, rfl⟩
      refine mw_iast i_109_58 (jn := w) (n := 10) (by omega) (by omega) (x := nI 1) (show K (MA 3) = some (7, 10) from MK_k hM 3 (by decide)) (I' := I26) e26.symm ?_
      refine mw_goto i_109_59 ?_
      refine mw_ret i_109_70 ?_
      refine q _ ((e26.symm ▸ FrA_up (FrA_rfl) rfl)) ?_
      rw [e26, mv_a (by decide) (by decide) (by decide) (by decide), hm, show trn (σ 3 w) u0 d0 = nI 1 from trn_n (Classical.not_not.mp c1) (by omega)]
    · skip
      refine mw_const i_109_55 (v := nI 0) (by decide) ?_
      refine mw_goto i_109_56 ?_
      obtain ⟨I27, e27⟩ : ∃ I27, I27 = up2 I (MA 3) w (nI 0) := ⟨_, rfl⟩
      refine mw_iast i_109_58 (jn := w) (n := 10) (by omega) (by omega) (x := nI 0) (show K (MA 3) = some (7, 10) from MK_k hM 3 (by decide)) (I' := I27) e27.symm ?_
      refine mw_goto i_109_59 ?_
      refine mw_ret i_109_70 ?_
      refine q _ ((e27.symm ▸ FrA_up (FrA_rfl) rfl)) ?_
      rw [e27, mv_a (by decide) (by decide) (by decide) (by decide), hm, show trn (σ 3 w) u0 d0 = nI 0 from trn_a (Classical.not_not.mp c1) (by omega)]
set_option maxRecDepth 20000 in
set_option maxHeartbeats 400000 in
theorem m_turns {d b : Nat} {K : KM} {I : IM} {R : RM} {Q : QT} {σ : ST} {w : Nat} (hM : MK K R) (hm : mv I = σ) (hw : w < 10) (hr : σ 3 w = nI 0 ∨ σ 3 w = nI 1) (q : ∀ I', FrA I I' → mv I' = trS σ w → Q (.inl none) K I' R) : Mw d b N_X6_turns 0 [some (pR (some MO)), some (pI (nI w)), none, none, none] [] K I R Q := by
  refine mw_const i_109_0 (v := nI 0) (by decide) ?_
  refine mw_istore i_109_1 (ls' := [some (pR (some MO)), some (pI (nI w)), some (pI (nI 0)), none, none]) rfl (Nat.le_of_ble_eq_true rfl) ?_
  refine mw_const i_109_2 (v := nI 0) (by decide) ?_
  refine mw_istore i_109_3 (ls' := [some (pR (some MO)), some (pI (nI w)), some (pI (nI 0)), some (pI (nI 0)), none]) rfl (Nat.le_of_ble_eq_true rfl) ?_
  refine mw_const i_109_4 (v := nI 0) (by decide) ?_
  refine mw_istore i_109_5 (ls' := [some (pR (some MO)), some (pI (nI w)), some (pI (nI 0)), some (pI (nI 0)), some (pI (nI 0))]) rfl (Nat.le_of_ble_eq_true rfl) ?_
  exact m_turn_lp hM hm hw (m_turn2 hM hm hw (cnt_le _ _) (cnt_le _ _) hr q) (4 + 1) 0 (by omega) (by omega)
set_option maxRecDepth 20000 in
theorem m_won_lp {d b : Nat} {K : KM} {I : IM} {R : RM} {Q : QT} {n0 : Nat} {σ : ST} {w : Nat} (hM : MK K R) (hm : mv I = σ) (hV : IV n0 σ) (hw : w < 10) (q : Q (.inl (some (pI (smI (fun k => σ 13 (10 * w + k)) (pn σ))))) K I R) : ∀ (n i : Nat), pn σ - i < n → i ≤ pn σ → Mw d b N_X6_wonOf 4 [some (pR (some MO)), some (pI (nI w)), some (pI (smI (fun k => σ 13 (10 * w + k)) i)), some (pI (nI i))] [] K I R Q := by
  intro n
  induction n with
  | zero => intro i hn; exact absurd hn (Nat.not_lt_zero _)
  | succ n ih =>
    intro i hn hi
    have hpp := hV.1.2
    have htt := hV.2.1.2
    have hdd := hV.2.2.1.2
    refine mw_iload i_117_4 (x := nI i) rfl ?_
    refine mw_aload i_117_5 (L := MO) rfl ?_
    refine mw_get i_117_6 (MK_o hM) (v := nI (pn σ)) ((rs hm (by decide)).trans hV.1.1) ?_
    refine mw_ic i_117_7 (p := (pn σ) ≤ i) (nI_leI (by omega) (by omega)) (fun c1 => ?_) (fun c1 => ?_)
    · skip
      refine mw_iload i_117_21 (x := smI (fun k => σ 13 (10 * w + k)) i) rfl ?_
      refine mw_iretI i_117_22 (x := smI (fun k => σ 13 (10 * w + k)) i) rt_117 ?_
      obtain rfl : i = pn σ := by omega
      exact q
    · skip
      refine mw_iload i_117_8 (x := smI (fun k => σ 13 (10 * w + k)) i) rfl ?_
      refine mw_aload i_117_9 (L := MO) rfl ?_
      refine mw_getR i_117_10 (MK_o hM) (q := some (MA 13)) (MK_r hM 13 (by decide)) ?_
      refine mw_const i_117_11 (v := nI 10) (by decide) ?_
      refine mw_iload i_117_12 (x := nI w) rfl ?_
      refine mw_imul i_117_13 (w := nI (10 * w)) (pk_mul _ _) ?_
      refine mw_iload i_117_14 (x := nI i) rfl ?_
      refine mw_iadd i_117_15 (w := nI (10 * w + i)) (nI_add _ _) ?_
      refine mw_iald i_117_16 (jn := 10 * w + i) (n := 100) (by omega) (by omega) (show K (MA 13) = some (7, 100) from MK_k hM 13 (by decide)) (by decide) (v := σ 13 (10 * w + i)) (rm hm (by decide) (10 * w + i)) ?_
      refine mw_iadd i_117_17 (w := ((smI (fun k => σ 13 (10 * w + k)) i) + (σ 13 (10 * w + i)))) rfl ?_
      refine mw_istore i_117_18 (ls' := [some (pR (some MO)), some (pI (nI w)), some (pI ((smI (fun k => σ 13 (10 * w + k)) i) + (σ 13 (10 * w + i)))), some (pI (nI i))]) rfl (Nat.le_of_ble_eq_true rfl) ?_
      refine mw_iinc i_117_19 (x := nI i) (v := nI (i + 1)) (ls' := [some (pR (some MO)), some (pI (nI w)), some (pI ((smI (fun k => σ 13 (10 * w + k)) i) + (σ 13 (10 * w + i)))), some (pI (nI (i + 1)))]) rfl (nI_add _ _) rfl ?_
      refine mw_goto i_117_20 ?_
      exact ih (i + 1) (by omega) (by omega)
set_option maxRecDepth 20000 in
set_option maxHeartbeats 400000 in
theorem m_wonOf {d b : Nat} {K : KM} {I : IM} {R : RM} {Q : QT} {n0 : Nat} {σ : ST} {w : Nat} (hM : MK K R) (hm : mv I = σ) (hV : IV n0 σ) (hw : w < 10) (q : Q (.inl (some (pI (smI (fun k => σ 13 (10 * w + k)) (pn σ))))) K I R) : Mw d b N_X6_wonOf 0 [some (pR (some MO)), some (pI (nI w)), none, none] [] K I R Q := by
  refine mw_const i_117_0 (v := nI 0) (by decide) ?_
  refine mw_istore i_117_1 (ls' := [some (pR (some MO)), some (pI (nI w)), some (pI (nI 0)), none]) rfl (Nat.le_of_ble_eq_true rfl) ?_
  refine mw_const i_117_2 (v := nI 0) (by decide) ?_
  refine mw_istore i_117_3 (ls' := [some (pR (some MO)), some (pI (nI w)), some (pI (nI 0)), some (pI (nI 0))]) rfl (Nat.le_of_ble_eq_true rfl) ?_
  exact m_won_lp hM hm hV hw q (pn σ + 1) 0 (by omega) (by omega)
set_option maxRecDepth 20000 in
set_option maxHeartbeats 400000 in
theorem m_wins {d b : Nat} {K : KM} {I : IM} {R : RM} {Q : QT} {σ : ST} {t wi lo : Nat} (hd : 1 ≤ d) (hM : MK K R) (hm : mv I = σ) (ht : t < 4) (hw : wi < 10) (hl : lo < 10) (q : ∀ I', FrA I I' → mv I' = win σ t wi lo → Q (.inl none) K I' R) : Mw d b N_X6_wins 0 [some (pR (some MO)), some (pI (nI t)), some (pI (nI wi)), some (pI (nI lo))] [] K I R Q := by
  obtain ⟨d9, rfl⟩ : ∃ d9, d = d9 + 1 := ⟨d - 1, by omega⟩
  refine mw_aload i_111_0 (L := MO) rfl ?_
  refine mw_getR i_111_1 (MK_o hM) (q := some (MA 13)) (MK_r hM 13 (by decide)) ?_
  refine mw_const i_111_2 (v := nI 10) (by decide) ?_
  refine mw_iload i_111_3 (x := nI wi) rfl ?_
  refine mw_imul i_111_4 (w := nI (10 * wi)) (pk_mul _ _) ?_
  refine mw_iload i_111_5 (x := nI lo) rfl ?_
  refine mw_iadd i_111_6 (w := nI (10 * wi + lo)) (nI_add _ _) ?_
  refine mw_dup2 i_111_7 trivial trivial ?_
  refine mw_iald i_111_8 (jn := 10 * wi + lo) (n := 100) (by omega) (by omega) (show K (MA 13) = some (7, 100) from MK_k hM 13 (by decide)) (by decide) (v := σ 13 (10 * wi + lo)) (rm hm (by decide) (10 * wi + lo)) ?_
  refine mw_const i_111_9 (v := nI 1) (by decide) ?_
  refine mw_iadd i_111_10 (w := ((σ 13 (10 * wi + lo)) + (nI 1))) rfl ?_
  obtain ⟨I21, e21⟩ : ∃ I21, I21 = up2 I (MA 13) (10 * wi + lo) ((σ 13 (10 * wi + lo)) + (nI 1)) := ⟨_, rfl⟩
  refine mw_iast i_111_11 (jn := 10 * wi + lo) (n := 100) (by omega) (by omega) (x := ((σ 13 (10 * wi + lo)) + (nI 1))) (show K (MA 13) = some (7, 100) from MK_k hM 13 (by decide)) (I' := I21) e21.symm ?_
  refine mw_aload i_111_12 (L := MO) rfl ?_
  refine mw_getR i_111_13 (MK_o hM) (q := some (MA 8)) (MK_r hM 8 (by decide)) ?_
  refine mw_iload i_111_14 (x := nI lo) rfl ?_
  refine mw_dup2 i_111_15 trivial trivial ?_
  refine mw_iald i_111_16 (jn := lo) (n := 10) (by omega) (by omega) (show K (MA 8) = some (7, 10) from MK_k hM 8 (by decide)) (by decide) (v := σ 8 lo) (by rw [e21, up2_ne (by simp)]; exact (rm hm (by decide) lo)) ?_
  refine mw_const i_111_17 (v := nI 1) (by decide) ?_
  refine mw_iadd i_111_18 (w := ((σ 8 lo) + (nI 1))) rfl ?_
  obtain ⟨I22, e22⟩ : ∃ I22, I22 = up2 I21 (MA 8) lo ((σ 8 lo) + (nI 1)) := ⟨_, rfl⟩
  refine mw_iast i_111_19 (jn := lo) (n := 10) (by omega) (by omega) (x := ((σ 8 lo) + (nI 1))) (show K (MA 8) = some (7, 10) from MK_k hM 8 (by decide)) (I' := I22) e22.symm ?_
  refine mw_aload i_111_20 (L := MO) rfl ?_
  refine mw_getR i_111_21 (MK_o hM) (q := some (MA 3)) (MK_r hM 3 (by decide)) ?_
  refine mw_iload i_111_22 (x := nI wi) rfl ?_
  refine mw_iald i_111_23 (jn := wi) (n := 10) (by omega) (by omega) (show K (MA 3) = some (7, 10) from MK_k hM 3 (by decide)) (by decide) (v := σ 3 wi) (by rw [e22, up2_ne (by simp), e21, up2_ne (by simp)]; exact (rm hm (by decide) wi)) ?_
  refine mw_aload i_111_24 (L := MO) rfl ?_
  refine mw_getR i_111_25 (MK_o hM) (q := some (MA 3)) (MK_r hM 3 (by decide)) ?_
  refine mw_iload i_111_26 (x := nI lo) rfl ?_
  refine mw_iald i_111_27 (jn := lo) (n := 10) (by omega) (by omega) (show K (MA 3) = some (7, 10) from MK_k hM 3 (by decide)) (by decide) (v := σ 3 lo) (by rw [e22, up2_ne (by simp), e21, up2_ne (by simp)]; exact (rm hm (by decide) lo)) ?_
  refine mw_ic i_111_28 (p := ¬ (σ 3 wi) = (σ 3 lo)) Iff.rfl (fun c3 => ?_) (fun c3 => ?_)
  · skip
    refine mw_aload i_111_40 (L := MO) rfl ?_
    refine mw_iload i_111_41 (x := nI t) rfl ?_
    refine mw_iload i_111_42 (x := nI wi) rfl ?_
    refine mw_aload i_111_43 (L := MO) rfl ?_
    refine mw_getR i_111_44 (MK_o hM) (q := some (MA 3)) (MK_r hM 3 (by decide)) ?_
    refine mw_iload i_111_45 (x := nI wi) rfl ?_
    refine mw_iald i_111_46 (jn := wi) (n := 10) (by omega) (by omega) (show K (MA 3) = some (7, 10) from MK_k hM 3 (by decide)) (by decide) (v := σ 3 wi) (by rw [e22, up2_ne (by simp), e21, up2_ne (by simp)]; exact (rm hm (by decide) wi)) ?_
    refine mw_if i_111_47 (p := ¬ (σ 3 wi) = nI 0) Iff.rfl (fun c4 => ?_) (fun c4 => ?_)
    · skip
      refine mw_const i_111_50 (v := (-6)) (by decide) ?_
      have hmA : mv I22 = win0 σ wi lo := by rw [e22, mv_a (by decide) (by decide) (by decide) (by decide), e21, mv_a (by decide) (by decide) (by decide) (by decide), hm]; rfl
      refine mw_callV i_111_51 mf_108 (as := [pI (nI t), pI (nI wi), pI (-6)]) (rest := []) (d' := d9) (b' := b) (ls0 := [some (pR (some MO)), some (pI (nI t)), some (pI (nI wi)), some (pI (-6)), none]) rfl rfl rfl (Nat.le_of_ble_eq_true rfl) (MK_o hM) rfl rfl rfl ?_
      refine m_loves hM hmA ht (by omega) (fun I1 hF1 hm1 => ?_)
      refine aft_n ?_
      refine mw_aload i_111_52 (L := MO) rfl ?_
      refine mw_iload i_111_53 (x := nI t) rfl ?_
      refine mw_iload i_111_54 (x := nI lo) rfl ?_
      refine mw_aload i_111_55 (L := MO) rfl ?_
      refine mw_getR i_111_56 (MK_o hM) (q := some (MA 3)) (MK_r hM 3 (by decide)) ?_
      refine mw_iload i_111_57 (x := nI lo) rfl ?_
      refine mw_iald i_111_58 (jn := lo) (n := 10) (by omega) (by omega) (show K (MA 3) = some (7, 10) from MK_k hM 3 (by decide)) (by decide) (v := σ 3 lo) ((rm hm1 (by decide) lo).trans (by rw [lov_o (by decide), win0_o (by decide) (by decide)])) ?_
      refine mw_if i_111_59 (p := ¬ (σ 3 lo) = nI 0) Iff.rfl (fun c5 => ?_) (fun c5 => ?_)
      · skip
        refine mw_const i_111_62 (v := (-2)) (by decide) ?_
        refine mw_callV i_111_63 mf_108 (as := [pI (nI t), pI (nI lo), pI (-2)]) (rest := []) (d' := d9) (b' := b) (ls0 := [some (pR (some MO)), some (pI (nI t)), some (pI (nI lo)), some (pI (-2)), none]) rfl rfl rfl (Nat.le_of_ble_eq_true rfl) (MK_o hM) rfl rfl rfl ?_
        refine m_loves hM hm1 ht (by omega) (fun I2 hF2 hm2 => ?_)
        refine aft_n ?_
        refine mw_ret i_111_64 ?_
        refine q _ (FrA_tr ((e22.symm ▸ FrA_up ((e21.symm ▸ FrA_up (FrA_rfl) rfl)) rfl)) (FrA_tr hF1 hF2)) ?_
        rw [hm2]
        unfold win
        rw [if_neg c3, if_neg c4, if_neg c5]
      · skip
        refine mw_const i_111_60 (v := nI 2) (by decide) ?_
        refine mw_goto i_111_61 ?_
        refine mw_callV i_111_63 mf_108 (as := [pI (nI t), pI (nI lo), pI (nI 2)]) (rest := []) (d' := d9) (b' := b) (ls0 := [some (pR (some MO)), some (pI (nI t)), some (pI (nI lo)), some (pI (nI 2)), none]) rfl rfl rfl (Nat.le_of_ble_eq_true rfl) (MK_o hM) rfl rfl rfl ?_
        refine m_loves hM hm1 ht (by omega) (fun I2 hF2 hm2 => ?_)
        refine aft_n ?_
        refine mw_ret i_111_64 ?_
        refine q _ (FrA_tr ((e22.symm ▸ FrA_up ((e21.symm ▸ FrA_up (FrA_rfl) rfl)) rfl)) (FrA_tr hF1 hF2)) ?_
        rw [hm2]
        unfold win
        rw [if_neg c3, if_neg c4, if_pos (Classical.not_not.mp c5)]
    · skip
      refine mw_const i_111_48 (v := nI 6) (by decide) ?_
      refine mw_goto i_111_49 ?_
      have hmA : mv I22 = win0 σ wi lo := by rw [e22, mv_a (by decide) (by decide) (by decide) (by decide), e21, mv_a (by decide) (by decide) (by decide) (by decide), hm]; rfl
      refine mw_callV i_111_51 mf_108 (as := [pI (nI t), pI (nI wi), pI (nI 6)]) (rest := []) (d' := d9) (b' := b) (ls0 := [some (pR (some MO)), some (pI (nI t)), some (pI (nI wi)), some (pI (nI 6)), none]) rfl rfl rfl (Nat.le_of_ble_eq_true rfl) (MK_o hM) rfl rfl rfl ?_
      refine m_loves hM hmA ht (by omega) (fun I1 hF1 hm1 => ?_)
      refine aft_n ?_
      refine mw_aload i_111_52 (L := MO) rfl ?_
      refine mw_iload i_111_53 (x := nI t) rfl ?_
      refine mw_iload i_111_54 (x := nI lo) rfl ?_
      refine mw_aload i_111_55 (L := MO) rfl ?_
      refine mw_getR i_111_56 (MK_o hM) (q := some (MA 3)) (MK_r hM 3 (by decide)) ?_
      refine mw_iload i_111_57 (x := nI lo) rfl ?_
      refine mw_iald i_111_58 (jn := lo) (n := 10) (by omega) (by omega) (show K (MA 3) = some (7, 10) from MK_k hM 3 (by decide)) (by decide) (v := σ 3 lo) ((rm hm1 (by decide) lo).trans (by rw [lov_o (by decide), win0_o (by decide) (by decide)])) ?_
      refine mw_if i_111_59 (p := ¬ (σ 3 lo) = nI 0) Iff.rfl (fun c6 => ?_) (fun c6 => ?_)
      · skip
        refine mw_const i_111_62 (v := (-2)) (by decide) ?_
        refine mw_callV i_111_63 mf_108 (as := [pI (nI t), pI (nI lo), pI (-2)]) (rest := []) (d' := d9) (b' := b) (ls0 := [some (pR (some MO)), some (pI (nI t)), some (pI (nI lo)), some (pI (-2)), none]) rfl rfl rfl (Nat.le_of_ble_eq_true rfl) (MK_o hM) rfl rfl rfl ?_
        refine m_loves hM hm1 ht (by omega) (fun I2 hF2 hm2 => ?_)
        refine aft_n ?_
        refine mw_ret i_111_64 ?_
        refine q _ (FrA_tr ((e22.symm ▸ FrA_up ((e21.symm ▸ FrA_up (FrA_rfl) rfl)) rfl)) (FrA_tr hF1 hF2)) ?_
        rw [hm2]
        unfold win
        rw [if_neg c3, if_pos (Classical.not_not.mp c4), if_neg c6]
      · skip
        refine mw_const i_111_60 (v := nI 2) (by decide) ?_
        refine mw_goto i_111_61 ?_
        refine mw_callV i_111_63 mf_108 (as := [pI (nI t), pI (nI lo), pI (nI 2)]) (rest := []) (d' := d9) (b' := b) (ls0 := [some (pR (some MO)), some (pI (nI t)), some (pI (nI lo)), some (pI (nI 2)), none]) rfl rfl rfl (Nat.le_of_ble_eq_true rfl) (MK_o hM) rfl rfl rfl ?_
        refine m_loves hM hm1 ht (by omega) (fun I2 hF2 hm2 => ?_)
        refine aft_n ?_
        refine mw_ret i_111_64 ?_
        refine q _ (FrA_tr ((e22.symm ▸ FrA_up ((e21.symm ▸ FrA_up (FrA_rfl) rfl)) rfl)) (FrA_tr hF1 hF2)) ?_
        rw [hm2]
        unfold win
        rw [if_neg c3, if_pos (Classical.not_not.mp c4), if_pos (Classical.not_not.mp c6)]
  · skip
    refine mw_aload i_111_29 (L := MO) rfl ?_
    refine mw_iload i_111_30 (x := nI t) rfl ?_
    refine mw_iload i_111_31 (x := nI wi) rfl ?_
    refine mw_const i_111_32 (v := nI 3) (by decide) ?_
    have hmA : mv I22 = win0 σ wi lo := by rw [e22, mv_a (by decide) (by decide) (by decide) (by decide), e21, mv_a (by decide) (by decide) (by decide) (by decide), hm]; rfl
    refine mw_callV i_111_33 mf_108 (as := [pI (nI t), pI (nI wi), pI (nI 3)]) (rest := []) (d' := d9) (b' := b) (ls0 := [some (pR (some MO)), some (pI (nI t)), some (pI (nI wi)), some (pI (nI 3)), none]) rfl rfl rfl (Nat.le_of_ble_eq_true rfl) (MK_o hM) rfl rfl rfl ?_
    refine m_loves hM hmA ht (by omega) (fun I1 hF1 hm1 => ?_)
    refine aft_n ?_
    refine mw_aload i_111_34 (L := MO) rfl ?_
    refine mw_iload i_111_35 (x := nI t) rfl ?_
    refine mw_iload i_111_36 (x := nI lo) rfl ?_
    refine mw_const i_111_37 (v := (-1)) (by decide) ?_
    refine mw_callV i_111_38 mf_108 (as := [pI (nI t), pI (nI lo), pI (-1)]) (rest := []) (d' := d9) (b' := b) (ls0 := [some (pR (some MO)), some (pI (nI t)), some (pI (nI lo)), some (pI (-1)), none]) rfl rfl rfl (Nat.le_of_ble_eq_true rfl) (MK_o hM) rfl rfl rfl ?_
    refine m_loves hM hm1 ht (by omega) (fun I2 hF2 hm2 => ?_)
    refine aft_n ?_
    refine mw_goto i_111_39 ?_
    refine mw_ret i_111_64 ?_
    refine q _ (FrA_tr ((e22.symm ▸ FrA_up ((e21.symm ▸ FrA_up (FrA_rfl) rfl)) rfl)) (FrA_tr hF1 hF2)) ?_
    rw [hm2]
    unfold win
    rw [if_pos (Classical.not_not.mp c3)]
