/-! the class: wrestlers, titles, matches, cards -/
theorem isN_c {x : Int32} {n : Nat} (hn : n < 2147483648) (h1 : ¬ x < nI 0) (h2 : ¬ nI n ≤ x) : isN x n := by
  rw [isN_i hn]
  rw [Int32.lt_iff_toInt_lt, nI_toInt (show 0 < 2 ^ 31 by decide)] at h1
  rw [Int32.le_iff_toInt_le, nI_toInt hn] at h2
  omega
theorem isN_lo {x : Int32} {n : Nat} (hn : n < 2147483648) (h1 : x < nI 0) : ¬ isN x n := fun h => by
  rw [isN_i hn] at h
  rw [Int32.lt_iff_toInt_lt, nI_toInt (show 0 < 2 ^ 31 by decide)] at h1
  omega
theorem isN_hi {x : Int32} {n : Nat} (hn : n < 2147483648) (h1 : nI n ≤ x) : ¬ isN x n := fun h => by
  rw [isN_i hn] at h
  rw [Int32.le_iff_toInt_le, nI_toInt hn] at h1
  omega
set_option maxRecDepth 20000 in
set_option maxHeartbeats 60000 in
theorem k_winner {d b : Nat} {K : KM} {I : IM} {R : RM} {Q : QT} {c j : Nat} (hT : K (MT c j) = some (1, 0)) (q : Q (.inl (some (pI (if I (MT c j) 2 = nI 0 then I (MT c j) 1 else I (MT c j) 0)))) K I R) : Mw d b N_X1_winner 0 [some (pR (some (MT c j)))] [] K I R Q := by
  refine mw_aload i_10_0 (L := MT c j) rfl ?_
  refine mw_get i_10_1 hT (v := I (MT c j) 2) rfl ?_
  refine mw_if i_10_2 (p := (I (MT c j) 2) = nI 0) Iff.rfl (fun c1 => ?_) (fun c1 => ?_)
  · skip
    refine mw_aload i_10_6 (L := MT c j) rfl ?_
    refine mw_get i_10_7 hT (v := I (MT c j) 1) rfl ?_
    refine mw_iretI i_10_8 (x := I (MT c j) 1) rt_10 ?_
    rw [if_pos c1] at q
    exact q
  · skip
    refine mw_aload i_10_3 (L := MT c j) rfl ?_
    refine mw_get i_10_4 hT (v := I (MT c j) 0) rfl ?_
    refine mw_goto i_10_5 ?_
    refine mw_iretI i_10_8 (x := I (MT c j) 0) rt_10 ?_
    rw [if_neg c1] at q
    exact q
set_option maxRecDepth 20000 in
set_option maxHeartbeats 60000 in
theorem k_loser {d b : Nat} {K : KM} {I : IM} {R : RM} {Q : QT} {c j : Nat} (hT : K (MT c j) = some (1, 0)) (q : Q (.inl (some (pI (if I (MT c j) 2 = nI 0 then I (MT c j) 0 else I (MT c j) 1)))) K I R) : Mw d b N_X1_loser 0 [some (pR (some (MT c j)))] [] K I R Q := by
  refine mw_aload i_11_0 (L := MT c j) rfl ?_
  refine mw_get i_11_1 hT (v := I (MT c j) 2) rfl ?_
  refine mw_if i_11_2 (p := (I (MT c j) 2) = nI 0) Iff.rfl (fun c1 => ?_) (fun c1 => ?_)
  · skip
    refine mw_aload i_11_6 (L := MT c j) rfl ?_
    refine mw_get i_11_7 hT (v := I (MT c j) 0) rfl ?_
    refine mw_iretI i_11_8 (x := I (MT c j) 0) rt_11 ?_
    rw [if_pos c1] at q
    exact q
  · skip
    refine mw_aload i_11_3 (L := MT c j) rfl ?_
    refine mw_get i_11_4 hT (v := I (MT c j) 1) rfl ?_
    refine mw_goto i_11_5 ?_
    refine mw_iretI i_11_8 (x := I (MT c j) 1) rt_11 ?_
    rw [if_neg c1] at q
    exact q
set_option maxRecDepth 20000 in
set_option maxHeartbeats 60000 in
theorem k_become {d b : Nat} {K : KM} {I : IM} {R : RM} {Q : QT} {c j : Nat} {x0 x1 x3 x4 : Int32} {pb : Prop} (hT : K (MT c j) = some (1, 0)) (q : Q (.inl none) K (up2 (up2 (up2 (up2 (up2 (up2 I (MT c j) 0 x0) (MT c j) 1 x1) (MT c j) 2 (bI pb)) (MT c j) 3 x3) (MT c j) 4 x4) (MT c j) 5 (nI 0)) R) : Mw d b N_X1_become 0 [some (pR (some (MT c j))), some (pI x0), some (pI x1), some (pI (bI pb)), some (pI x3), some (pI x4)] [] K I R Q := by
  refine mw_aload i_9_0 (L := MT c j) rfl ?_
  refine mw_iload i_9_1 (x := x0) rfl ?_
  refine mw_put i_9_2 (x := x0) hT (I' := up2 I (MT c j) 0 x0) rfl ?_
  refine mw_aload i_9_3 (L := MT c j) rfl ?_
  refine mw_iload i_9_4 (x := x1) rfl ?_
  refine mw_put i_9_5 (x := x1) hT (I' := up2 (up2 I (MT c j) 0 x0) (MT c j) 1 x1) rfl ?_
  refine mw_aload i_9_6 (L := MT c j) rfl ?_
  refine mw_iload i_9_7 (x := bI pb) rfl ?_
  refine mw_putB i_9_8 (x := bI pb) hT (bI_01 _) (I' := up2 (up2 (up2 I (MT c j) 0 x0) (MT c j) 1 x1) (MT c j) 2 (bI pb)) rfl ?_
  refine mw_aload i_9_9 (L := MT c j) rfl ?_
  refine mw_iload i_9_10 (x := x3) rfl ?_
  refine mw_put i_9_11 (x := x3) hT (I' := up2 (up2 (up2 (up2 I (MT c j) 0 x0) (MT c j) 1 x1) (MT c j) 2 (bI pb)) (MT c j) 3 x3) rfl ?_
  refine mw_aload i_9_12 (L := MT c j) rfl ?_
  refine mw_iload i_9_13 (x := x4) rfl ?_
  refine mw_put i_9_14 (x := x4) hT (I' := up2 (up2 (up2 (up2 (up2 I (MT c j) 0 x0) (MT c j) 1 x1) (MT c j) 2 (bI pb)) (MT c j) 3 x3) (MT c j) 4 x4) rfl ?_
  refine mw_aload i_9_15 (L := MT c j) rfl ?_
  refine mw_const i_9_16 (v := nI 0) (by decide) ?_
  refine mw_putB i_9_17 (x := nI 0) hT (by decide) (I' := up2 (up2 (up2 (up2 (up2 (up2 I (MT c j) 0 x0) (MT c j) 1 x1) (MT c j) 2 (bI pb)) (MT c j) 3 x3) (MT c j) 4 x4) (MT c j) 5 (nI 0)) rfl ?_
  refine mw_ret i_9_18 ?_
  exact q
set_option maxRecDepth 20000 in
set_option maxHeartbeats 60000 in
theorem k_isHurtOn {d b : Nat} {K : KM} {I : IM} {R : RM} {Q : QT} {w : Nat} {x : Int32} (hS : CS0 K R) (hw : w < 10) (q : Q (.inl (some (pI (bI (x < I (WR w) 7))))) K I R) : Mw d b N_X4_isHurtOn 0 [some (pR (some (WR w))), some (pI x)] [] K I R Q := by
  refine mw_iload i_27_0 (x := x) rfl ?_
  refine mw_aload i_27_1 (L := WR w) rfl ?_
  refine mw_get i_27_2 (hS.2.2.1 w (by omega)).2.1 (v := I (WR w) 7) rfl ?_
  refine mw_ic i_27_3 (p := (I (WR w) 7) ≤ x) Iff.rfl (fun c1 => ?_) (fun c1 => ?_)
  · skip
    refine mw_const i_27_6 (v := nI 0) (by decide) ?_
    refine mw_iret i_27_7 (x := nI 0) (fun _ => (by decide)) ?_
    rw [show nI 0 = bI (x < I (WR w) 7) from (bI_f (Int32.not_lt.mpr c1)).symm]
    exact q
  · skip
    refine mw_const i_27_4 (v := nI 1) (by decide) ?_
    refine mw_goto i_27_5 ?_
    refine mw_iret i_27_7 (x := nI 1) (fun _ => (by decide)) ?_
    rw [show nI 1 = bI (x < I (WR w) 7) from (bI_t (nle c1)).symm]
    exact q
set_option maxRecDepth 20000 in
set_option maxHeartbeats 60000 in
theorem k_isBarred {d b : Nat} {K : KM} {I : IM} {R : RM} {Q : QT} {w o : Nat} {x : Int32} (hS : CS0 K R) (hw : w < 10) (ho : o < 10) (q : Q (.inl (some (pI (bI (x ≤ I (CD w) o ∨ x < I (WR w) 12))))) K I R) : Mw d b N_X4_isBarredFromLosing 0 [some (pR (some (WR w))), some (pI (nI o)), some (pI x)] [] K I R Q := by
  refine mw_iload i_28_0 (x := x) rfl ?_
  refine mw_aload i_28_1 (L := WR w) rfl ?_
  refine mw_getR i_28_2 (hS.2.2.1 w (by omega)).2.1 (q := some (CD w)) (hS.2.2.1 w (by omega)).2.2.2.1 ?_
  refine mw_iload i_28_3 (x := nI o) rfl ?_
  refine mw_iald i_28_4 (jn := o) (n := 10) (by omega) (by omega) (hS.2.2.1 w (by omega)).2.2.2.2.2.2.1 (by decide) (v := I (CD w) o) rfl ?_
  refine mw_ic i_28_5 (p := x ≤ (I (CD w) o)) Iff.rfl (fun c1 => ?_) (fun c1 => ?_)
  · skip
    refine mw_const i_28_10 (v := nI 1) (by decide) ?_
    refine mw_goto i_28_11 ?_
    refine mw_iret i_28_13 (x := nI 1) (fun _ => (by decide)) ?_
    rw [show nI 1 = bI (x ≤ I (CD w) o ∨ x < I (WR w) 12) from (bI_t (Or.inl c1)).symm]
    exact q
  · skip
    refine mw_iload i_28_6 (x := x) rfl ?_
    refine mw_aload i_28_7 (L := WR w) rfl ?_
    refine mw_get i_28_8 (hS.2.2.1 w (by omega)).2.1 (v := I (WR w) 12) rfl ?_
    refine mw_ic i_28_9 (p := (I (WR w) 12) ≤ x) Iff.rfl (fun c2 => ?_) (fun c2 => ?_)
    · skip
      refine mw_const i_28_12 (v := nI 0) (by decide) ?_
      refine mw_iret i_28_13 (x := nI 0) (fun _ => (by decide)) ?_
      rw [show nI 0 = bI (x ≤ I (CD w) o ∨ x < I (WR w) 12) from (bI_f (fun h => h.elim c1 (fun h => ltn h c2))).symm]
      exact q
    · skip
      refine mw_const i_28_10 (v := nI 1) (by decide) ?_
      refine mw_goto i_28_11 ?_
      refine mw_iret i_28_13 (x := nI 1) (fun _ => (by decide)) ?_
      rw [show nI 1 = bI (x ≤ I (CD w) o ∨ x < I (WR w) 12) from (bI_t (Or.inr (nle c2))).symm]
      exact q
set_option maxRecDepth 20000 in
set_option maxHeartbeats 60000 in
theorem k_worthIn {d b : Nat} {K : KM} {I : IM} {R : RM} {Q : QT} {w t : Nat} (hd : 1 ≤ d) (hS : CS0 K R) (hw : w < 10) (ht : t < 4) (q : Q (.inl (some (pI (wth (I (WR w) 3) (I (LV w) t) (I (WR w) 6))))) K I R) : Mw d b N_X4_worthIn 0 [some (pR (some (WR w))), some (pI (nI t))] [] K I R Q := by
  refine mw_const i_29_0 (v := nI 1) (by decide) ?_
  refine mw_aload i_29_1 (L := WR w) rfl ?_
  refine mw_get i_29_2 (hS.2.2.1 w (by omega)).2.1 (v := I (WR w) 3) rfl ?_
  refine mw_aload i_29_3 (L := WR w) rfl ?_
  refine mw_getR i_29_4 (hS.2.2.1 w (by omega)).2.1 (q := some (LV w)) (hS.2.2.1 w (by omega)).2.2.1 ?_
  refine mw_iload i_29_5 (x := nI t) rfl ?_
  refine mw_iald i_29_6 (jn := t) (n := 4) (by omega) (by omega) (hS.2.2.1 w (by omega)).2.2.2.2.2.1 (by decide) (v := I (LV w) t) rfl ?_
  refine mw_abs i_29_7 (Nat.le_of_ble_eq_true rfl) (by omega) (w := (if 0 ≤ I (LV w) t then I (LV w) t else 0 - (I (LV w) t))) rfl ?_
  refine mw_iadd i_29_8 (w := ((I (WR w) 3) + (if 0 ≤ I (LV w) t then I (LV w) t else 0 - (I (LV w) t)))) rfl ?_
  refine mw_aload i_29_9 (L := WR w) rfl ?_
  refine mw_get i_29_10 (hS.2.2.1 w (by omega)).2.1 (v := I (WR w) 6) rfl ?_
  refine mw_const i_29_11 (v := nI 10) (by decide) ?_
  refine mw_idiv i_29_12 (by decide) (w := ((I (WR w) 6) / (nI 10))) rfl ?_
  refine mw_isub i_29_13 (w := (((I (WR w) 3) + (if 0 ≤ I (LV w) t then I (LV w) t else 0 - (I (LV w) t))) - ((I (WR w) 6) / (nI 10)))) rfl ?_
  refine mw_max i_29_14 (Nat.le_of_ble_eq_true rfl) (by omega) (w := (if nI 1 < (((I (WR w) 3) + (if 0 ≤ I (LV w) t then I (LV w) t else 0 - (I (LV w) t))) - ((I (WR w) 6) / (nI 10))) then (((I (WR w) 3) + (if 0 ≤ I (LV w) t then I (LV w) t else 0 - (I (LV w) t))) - ((I (WR w) 6) / (nI 10))) else nI 1)) rfl ?_
  refine mw_iretI i_29_15 (x := (if nI 1 < (((I (WR w) 3) + (if 0 ≤ I (LV w) t then I (LV w) t else 0 - (I (LV w) t))) - ((I (WR w) 6) / (nI 10))) then (((I (WR w) 3) + (if 0 ≤ I (LV w) t then I (LV w) t else 0 - (I (LV w) t))) - ((I (WR w) 6) / (nI 10))) else nI 1)) rt_29 ?_
  exact q
set_option maxRecDepth 20000 in
set_option maxHeartbeats 60000 in
theorem k_addLove {d b : Nat} {K : KM} {I : IM} {R : RM} {Q : QT} {w t : Nat} {x : Int32} (hd : 1 ≤ d) (hS : CS0 K R) (hw : w < 10) (ht : t < 4) (q : Q (.inl none) K (up2 I (LV w) t (cl99 (I (LV w) t + x))) R) : Mw d b N_X4_addLove 0 [some (pR (some (WR w))), some (pI (nI t)), some (pI x)] [] K I R Q := by
  refine mw_aload i_30_0 (L := WR w) rfl ?_
  refine mw_getR i_30_1 (hS.2.2.1 w (by omega)).2.1 (q := some (LV w)) (hS.2.2.1 w (by omega)).2.2.1 ?_
  refine mw_iload i_30_2 (x := nI t) rfl ?_
  refine mw_const i_30_3 (v := (-99)) (by decide) ?_
  refine mw_const i_30_4 (v := nI 99) (by decide) ?_
  refine mw_aload i_30_5 (L := WR w) rfl ?_
  refine mw_getR i_30_6 (hS.2.2.1 w (by omega)).2.1 (q := some (LV w)) (hS.2.2.1 w (by omega)).2.2.1 ?_
  refine mw_iload i_30_7 (x := nI t) rfl ?_
  refine mw_iald i_30_8 (jn := t) (n := 4) (by omega) (by omega) (hS.2.2.1 w (by omega)).2.2.2.2.2.1 (by decide) (v := I (LV w) t) rfl ?_
  refine mw_iload i_30_9 (x := x) rfl ?_
  refine mw_iadd i_30_10 (w := ((I (LV w) t) + x)) rfl ?_
  refine mw_min i_30_11 (Nat.le_of_ble_eq_true rfl) (by omega) (w := (if ((I (LV w) t) + x) < nI 99 then ((I (LV w) t) + x) else nI 99)) rfl ?_
  refine mw_max i_30_12 (Nat.le_of_ble_eq_true rfl) (by omega) (w := (if (-99) < (if ((I (LV w) t) + x) < nI 99 then ((I (LV w) t) + x) else nI 99) then (if ((I (LV w) t) + x) < nI 99 then ((I (LV w) t) + x) else nI 99) else (-99))) rfl ?_
  refine mw_iast i_30_13 (jn := t) (n := 4) (by omega) (by omega) (x := (if (-99) < (if ((I (LV w) t) + x) < nI 99 then ((I (LV w) t) + x) else nI 99) then (if ((I (LV w) t) + x) < nI 99 then ((I (LV w) t) + x) else nI 99) else (-99))) (hS.2.2.1 w (by omega)).2.2.2.2.2.1 (I' := up2 I (LV w) t (if (-99) < (if ((I (LV w) t) + x) < nI 99 then ((I (LV w) t) + x) else nI 99) then (if ((I (LV w) t) + x) < nI 99 then ((I (LV w) t) + x) else nI 99) else (-99))) rfl ?_
  refine mw_ret i_30_14 ?_
  exact q
set_option maxRecDepth 20000 in
theorem k_turn_lp {d b : Nat} {K : KM} {I : IM} {R : RM} {Q : QT} {w : Nat} (hS : CS0 K R) (hw : w < 10) (q : Q (.inl none) K (up2 I (WR w) 5 (trn (I (WR w) 5) (cnt (fun t => nI 50 ≤ I (LV w) t) 4) (cnt (fun t => I (LV w) t ≤ (-50)) 4))) R) : ∀ (n t : Nat), 4 - t < n → t ≤ 4 → Mw d b N_X4_turn 6 [some (pR (some (WR w))), some (pI (nI (cnt (fun t => nI 50 ≤ I (LV w) t) t))), some (pI (nI (cnt (fun t => I (LV w) t ≤ (-50)) t))), some (pI (nI t))] [] K I R Q := by
  intro n
  induction n with
  | zero => intro t hn; exact absurd hn (Nat.not_lt_zero _)
  | succ n ih =>
    intro t hn hi
    have hu4 := cnt_le (fun t => nI 50 ≤ I (LV w) t) 4
    have hv4 := cnt_le (fun t => I (LV w) t ≤ (-50)) 4
    have hu := cnt_le (fun t => nI 50 ≤ I (LV w) t) t
    have hv := cnt_le (fun t => I (LV w) t ≤ (-50)) t
    refine mw_iload i_31_6 (x := nI t) rfl ?_
    refine mw_const i_31_7 (v := nI 4) (by decide) ?_
    refine mw_ic i_31_8 (p := 4 ≤ t) (nI_leI (by omega) (by omega)) (fun c1 => ?_) (fun c1 => ?_)
    · skip
      have e4 : t = 4 := by omega
      rw [e4]
      refine mw_aload i_31_25 (L := WR w) rfl ?_
      refine mw_get i_31_26 (hS.2.2.1 w (by omega)).2.1 (v := I (WR w) 5) rfl ?_
      refine mw_const i_31_27 (v := nI 1) (by decide) ?_
      refine mw_ic i_31_28 (p := ¬ (I (WR w) 5) = (nI 1)) Iff.rfl (fun c2 => ?_) (fun c2 => ?_)
      · skip
        refine mw_aload i_31_36 (L := WR w) rfl ?_
        refine mw_get i_31_37 (hS.2.2.1 w (by omega)).2.1 (v := I (WR w) 5) rfl ?_
        refine mw_if i_31_38 (p := ¬ (I (WR w) 5) = nI 0) Iff.rfl (fun c3 => ?_) (fun c3 => ?_)
        · skip
          refine mw_ret i_31_45 ?_
          have e9 : trn (I (WR w) 5) (cnt (fun t => nI 50 ≤ I (LV w) t) 4) (cnt (fun t => I (LV w) t ≤ (-50)) 4) = I (WR w) 5 := by
            clear hS ih q
            unfold trn
            split <;> (try split) <;> first | (simp_all [show ¬ nI 0 = nI 1 by decide]; done) | (simp_all [show ¬ nI 0 = nI 1 by decide]; omega)
          rw [e9] at q
          rw [up2_self] at q
          exact q
        · skip
          refine mw_iload i_31_39 (x := nI (cnt (fun t => I (LV w) t ≤ (-50)) 4)) rfl ?_
          refine mw_const i_31_40 (v := nI 2) (by decide) ?_
          refine mw_ic i_31_41 (p := (cnt (fun t => I (LV w) t ≤ (-50)) 4) < 2) (nI_ltI (by omega) (by omega)) (fun c4 => ?_) (fun c4 => ?_)
          · skip
            refine mw_ret i_31_45 ?_
            have e9 : trn (I (WR w) 5) (cnt (fun t => nI 50 ≤ I (LV w) t) 4) (cnt (fun t => I (LV w) t ≤ (-50)) 4) = I (WR w) 5 := by
              clear hS ih q
              unfold trn
              split <;> (try split) <;> first | (simp_all [show ¬ nI 0 = nI 1 by decide]; done) | (simp_all [show ¬ nI 0 = nI 1 by decide]; omega)
            rw [e9] at q
            rw [up2_self] at q
            exact q
          · skip
            refine mw_aload i_31_42 (L := WR w) rfl ?_
            refine mw_const i_31_43 (v := nI 1) (by decide) ?_
            refine mw_put i_31_44 (x := nI 1) (hS.2.2.1 w (by omega)).2.1 (I' := up2 I (WR w) 5 (nI 1)) rfl ?_
            refine mw_ret i_31_45 ?_
            have e9 : trn (I (WR w) 5) (cnt (fun t => nI 50 ≤ I (LV w) t) 4) (cnt (fun t => I (LV w) t ≤ (-50)) 4) = nI 1 := by
              clear hS ih q
              unfold trn
              split <;> (try split) <;> first | (simp_all [show ¬ nI 0 = nI 1 by decide]; done) | (simp_all [show ¬ nI 0 = nI 1 by decide]; omega)
            rw [e9] at q
            exact q
      · skip
        refine mw_iload i_31_29 (x := nI (cnt (fun t => nI 50 ≤ I (LV w) t) 4)) rfl ?_
        refine mw_const i_31_30 (v := nI 2) (by decide) ?_
        refine mw_ic i_31_31 (p := (cnt (fun t => nI 50 ≤ I (LV w) t) 4) < 2) (nI_ltI (by omega) (by omega)) (fun c5 => ?_) (fun c5 => ?_)
        · skip
          refine mw_aload i_31_36 (L := WR w) rfl ?_
          refine mw_get i_31_37 (hS.2.2.1 w (by omega)).2.1 (v := I (WR w) 5) rfl ?_
          refine mw_if i_31_38 (p := ¬ (I (WR w) 5) = nI 0) Iff.rfl (fun c6 => ?_) (fun c6 => ?_)
          · skip
            refine mw_ret i_31_45 ?_
            have e9 : trn (I (WR w) 5) (cnt (fun t => nI 50 ≤ I (LV w) t) 4) (cnt (fun t => I (LV w) t ≤ (-50)) 4) = I (WR w) 5 := by
              clear hS ih q
              unfold trn
              split <;> (try split) <;> first | (simp_all [show ¬ nI 0 = nI 1 by decide]; done) | (simp_all [show ¬ nI 0 = nI 1 by decide]; omega)
            rw [e9] at q
            rw [up2_self] at q
            exact q
          · skip
            refine mw_iload i_31_39 (x := nI (cnt (fun t => I (LV w) t ≤ (-50)) 4)) rfl ?_
            refine mw_const i_31_40 (v := nI 2) (by decide) ?_
            refine mw_ic i_31_41 (p := (cnt (fun t => I (LV w) t ≤ (-50)) 4) < 2) (nI_ltI (by omega) (by omega)) (fun c7 => ?_) (fun c7 => ?_)
            · skip
              refine mw_ret i_31_45 ?_
              have e9 : trn (I (WR w) 5) (cnt (fun t => nI 50 ≤ I (LV w) t) 4) (cnt (fun t => I (LV w) t ≤ (-50)) 4) = I (WR w) 5 := by
                clear hS ih q
                unfold trn
                split <;> (try split) <;> first | (simp_all [show ¬ nI 0 = nI 1 by decide]; done) | (simp_all [show ¬ nI 0 = nI 1 by decide]; omega)
              rw [e9] at q
              rw [up2_self] at q
              exact q
            · skip
              refine mw_aload i_31_42 (L := WR w) rfl ?_
              refine mw_const i_31_43 (v := nI 1) (by decide) ?_
              refine mw_put i_31_44 (x := nI 1) (hS.2.2.1 w (by omega)).2.1 (I' := up2 I (WR w) 5 (nI 1)) rfl ?_
              refine mw_ret i_31_45 ?_
              have e9 : trn (I (WR w) 5) (cnt (fun t => nI 50 ≤ I (LV w) t) 4) (cnt (fun t => I (LV w) t ≤ (-50)) 4) = nI 1 := by
                clear hS ih q
                unfold trn
                split <;> (try split) <;> first | (simp_all [show ¬ nI 0 = nI 1 by decide]; done) | (simp_all [show ¬ nI 0 = nI 1 by decide]; omega)
              rw [e9] at q
              exact q
        · skip
          refine mw_aload i_31_32 (L := WR w) rfl ?_
          refine mw_const i_31_33 (v := nI 0) (by decide) ?_
          refine mw_put i_31_34 (x := nI 0) (hS.2.2.1 w (by omega)).2.1 (I' := up2 I (WR w) 5 (nI 0)) rfl ?_
          refine mw_goto i_31_35 ?_
          refine mw_ret i_31_45 ?_
          have e9 : trn (I (WR w) 5) (cnt (fun t => nI 50 ≤ I (LV w) t) 4) (cnt (fun t => I (LV w) t ≤ (-50)) 4) = nI 0 := by
            clear hS ih q
            unfold trn
            split <;> (try split) <;> first | (simp_all [show ¬ nI 0 = nI 1 by decide]; done) | (simp_all [show ¬ nI 0 = nI 1 by decide]; omega)
          rw [e9] at q
          exact q
    · skip
      refine mw_aload i_31_9 (L := WR w) rfl ?_
      refine mw_getR i_31_10 (hS.2.2.1 w (by omega)).2.1 (q := some (LV w)) (hS.2.2.1 w (by omega)).2.2.1 ?_
      refine mw_iload i_31_11 (x := nI t) rfl ?_
      refine mw_iald i_31_12 (jn := t) (n := 4) (by omega) (by omega) (hS.2.2.1 w (by omega)).2.2.2.2.2.1 (by decide) (v := I (LV w) t) rfl ?_
      refine mw_const i_31_13 (v := nI 50) (by decide) ?_
      refine mw_ic i_31_14 (p := (I (LV w) t) < (nI 50)) Iff.rfl (fun c8 => ?_) (fun c8 => ?_)
      · skip
        refine mw_aload i_31_16 (L := WR w) rfl ?_
        refine mw_getR i_31_17 (hS.2.2.1 w (by omega)).2.1 (q := some (LV w)) (hS.2.2.1 w (by omega)).2.2.1 ?_
        refine mw_iload i_31_18 (x := nI t) rfl ?_
        refine mw_iald i_31_19 (jn := t) (n := 4) (by omega) (by omega) (hS.2.2.1 w (by omega)).2.2.2.2.2.1 (by decide) (v := I (LV w) t) rfl ?_
        refine mw_const i_31_20 (v := (-50)) (by decide) ?_
        refine mw_ic i_31_21 (p := (-50) < (I (LV w) t)) Iff.rfl (fun c9 => ?_) (fun c9 => ?_)
        · skip
          refine mw_iinc i_31_23 (x := nI t) (v := nI (t + 1)) (ls' := [some (pR (some (WR w))), some (pI (nI (cnt (fun t => nI 50 ≤ I (LV w) t) t))), some (pI (nI (cnt (fun t => I (LV w) t ≤ (-50)) t))), some (pI (nI (t + 1)))]) rfl (nI_add _ _) rfl ?_
          refine mw_goto i_31_24 ?_
          rw [show nI (cnt (fun t => nI 50 ≤ I (LV w) t) t) = nI (cnt (fun t => nI 50 ≤ I (LV w) t) (t + 1)) from by first | rw [cnt_t (p := fun t => nI 50 ≤ I (LV w) t) (by first | assumption | exact nlt c8 | exact c8)] | rw [cnt_f (p := fun t => nI 50 ≤ I (LV w) t) (by first | assumption | exact ltn c8)], show nI (cnt (fun t => I (LV w) t ≤ (-50)) t) = nI (cnt (fun t => I (LV w) t ≤ (-50)) (t + 1)) from by first | rw [cnt_t (p := fun t => I (LV w) t ≤ (-50)) (by first | assumption | exact nlt c9)] | rw [cnt_f (p := fun t => I (LV w) t ≤ (-50)) (by first | assumption | exact ltn c9)]]
          exact ih (t + 1) (by omega) (by omega)
        · skip
          refine mw_iinc i_31_22 (x := nI (cnt (fun t => I (LV w) t ≤ (-50)) t)) (v := nI (cnt (fun t => I (LV w) t ≤ (-50)) t + 1)) (ls' := [some (pR (some (WR w))), some (pI (nI (cnt (fun t => nI 50 ≤ I (LV w) t) t))), some (pI (nI (cnt (fun t => I (LV w) t ≤ (-50)) t + 1))), some (pI (nI t))]) rfl (nI_add _ _) rfl ?_
          refine mw_iinc i_31_23 (x := nI t) (v := nI (t + 1)) (ls' := [some (pR (some (WR w))), some (pI (nI (cnt (fun t => nI 50 ≤ I (LV w) t) t))), some (pI (nI (cnt (fun t => I (LV w) t ≤ (-50)) t + 1))), some (pI (nI (t + 1)))]) rfl (nI_add _ _) rfl ?_
          refine mw_goto i_31_24 ?_
          rw [show nI (cnt (fun t => nI 50 ≤ I (LV w) t) t) = nI (cnt (fun t => nI 50 ≤ I (LV w) t) (t + 1)) from by first | rw [cnt_t (p := fun t => nI 50 ≤ I (LV w) t) (by first | assumption | exact nlt c8 | exact c8)] | rw [cnt_f (p := fun t => nI 50 ≤ I (LV w) t) (by first | assumption | exact ltn c8)], show nI (cnt (fun t => I (LV w) t ≤ (-50)) t + 1) = nI (cnt (fun t => I (LV w) t ≤ (-50)) (t + 1)) from by first | rw [cnt_t (p := fun t => I (LV w) t ≤ (-50)) (by first | assumption | exact nlt c9)] | rw [cnt_f (p := fun t => I (LV w) t ≤ (-50)) (by first | assumption | exact ltn c9)]]
          exact ih (t + 1) (by omega) (by omega)
      · skip
        refine mw_iinc i_31_15 (x := nI (cnt (fun t => nI 50 ≤ I (LV w) t) t)) (v := nI (cnt (fun t => nI 50 ≤ I (LV w) t) t + 1)) (ls' := [some (pR (some (WR w))), some (pI (nI (cnt (fun t => nI 50 ≤ I (LV w) t) t + 1))), some (pI (nI (cnt (fun t => I (LV w) t ≤ (-50)) t))), some (pI (nI t))]) rfl (nI_add _ _) rfl ?_
        refine mw_aload i_31_16 (L := WR w) rfl ?_
        refine mw_getR i_31_17 (hS.2.2.1 w (by omega)).2.1 (q := some (LV w)) (hS.2.2.1 w (by omega)).2.2.1 ?_
        refine mw_iload i_31_18 (x := nI t) rfl ?_
        refine mw_iald i_31_19 (jn := t) (n := 4) (by omega) (by omega) (hS.2.2.1 w (by omega)).2.2.2.2.2.1 (by decide) (v := I (LV w) t) rfl ?_
        refine mw_const i_31_20 (v := (-50)) (by decide) ?_
        refine mw_ic i_31_21 (p := (-50) < (I (LV w) t)) Iff.rfl (fun c10 => ?_) (fun c10 => ?_)
        · skip
          refine mw_iinc i_31_23 (x := nI t) (v := nI (t + 1)) (ls' := [some (pR (some (WR w))), some (pI (nI (cnt (fun t => nI 50 ≤ I (LV w) t) t + 1))), some (pI (nI (cnt (fun t => I (LV w) t ≤ (-50)) t))), some (pI (nI (t + 1)))]) rfl (nI_add _ _) rfl ?_
          refine mw_goto i_31_24 ?_
          rw [show nI (cnt (fun t => nI 50 ≤ I (LV w) t) t + 1) = nI (cnt (fun t => nI 50 ≤ I (LV w) t) (t + 1)) from by first | rw [cnt_t (p := fun t => nI 50 ≤ I (LV w) t) (by first | assumption | exact nlt c8 | exact c8)] | rw [cnt_f (p := fun t => nI 50 ≤ I (LV w) t) (by first | assumption | exact ltn c8)], show nI (cnt (fun t => I (LV w) t ≤ (-50)) t) = nI (cnt (fun t => I (LV w) t ≤ (-50)) (t + 1)) from by first | rw [cnt_t (p := fun t => I (LV w) t ≤ (-50)) (by first | assumption | exact nlt c10)] | rw [cnt_f (p := fun t => I (LV w) t ≤ (-50)) (by first | assumption | exact ltn c10)]]
          exact ih (t + 1) (by omega) (by omega)
        · skip
          refine mw_iinc i_31_22 (x := nI (cnt (fun t => I (LV w) t ≤ (-50)) t)) (v := nI (cnt (fun t => I (LV w) t ≤ (-50)) t + 1)) (ls' := [some (pR (some (WR w))), some (pI (nI (cnt (fun t => nI 50 ≤ I (LV w) t) t + 1))), some (pI (nI (cnt (fun t => I (LV w) t ≤ (-50)) t + 1))), some (pI (nI t))]) rfl (nI_add _ _) rfl ?_
          refine mw_iinc i_31_23 (x := nI t) (v := nI (t + 1)) (ls' := [some (pR (some (WR w))), some (pI (nI (cnt (fun t => nI 50 ≤ I (LV w) t) t + 1))), some (pI (nI (cnt (fun t => I (LV w) t ≤ (-50)) t + 1))), some (pI (nI (t + 1)))]) rfl (nI_add _ _) rfl ?_
          refine mw_goto i_31_24 ?_
          rw [show nI (cnt (fun t => nI 50 ≤ I (LV w) t) t + 1) = nI (cnt (fun t => nI 50 ≤ I (LV w) t) (t + 1)) from by first | rw [cnt_t (p := fun t => nI 50 ≤ I (LV w) t) (by first | assumption | exact nlt c8 | exact c8)] | rw [cnt_f (p := fun t => nI 50 ≤ I (LV w) t) (by first | assumption | exact ltn c8)], show nI (cnt (fun t => I (LV w) t ≤ (-50)) t + 1) = nI (cnt (fun t => I (LV w) t ≤ (-50)) (t + 1)) from by first | rw [cnt_t (p := fun t => I (LV w) t ≤ (-50)) (by first | assumption | exact nlt c10)] | rw [cnt_f (p := fun t => I (LV w) t ≤ (-50)) (by first | assumption | exact ltn c10)]]
          exact ih (t + 1) (by omega) (by omega)
set_option maxRecDepth 20000 in
set_option maxHeartbeats 60000 in
theorem k_turn {d b : Nat} {K : KM} {I : IM} {R : RM} {Q : QT} {w : Nat} (hS : CS0 K R) (hw : w < 10) (q : Q (.inl none) K (up2 I (WR w) 5 (trn (I (WR w) 5) (cnt (fun t => nI 50 ≤ I (LV w) t) 4) (cnt (fun t => I (LV w) t ≤ (-50)) 4))) R) : Mw d b N_X4_turn 0 [some (pR (some (WR w))), none, none, none] [] K I R Q := by
  refine mw_const i_31_0 (v := nI 0) (by decide) ?_
  refine mw_istore i_31_1 (ls' := [some (pR (some (WR w))), some (pI (nI 0)), none, none]) rfl (Nat.le_of_ble_eq_true rfl) ?_
  refine mw_const i_31_2 (v := nI 0) (by decide) ?_
  refine mw_istore i_31_3 (ls' := [some (pR (some (WR w))), some (pI (nI 0)), some (pI (nI 0)), none]) rfl (Nat.le_of_ble_eq_true rfl) ?_
  refine mw_const i_31_4 (v := nI 0) (by decide) ?_
  refine mw_istore i_31_5 (ls' := [some (pR (some (WR w))), some (pI (nI 0)), some (pI (nI 0)), some (pI (nI 0))]) rfl (Nat.le_of_ble_eq_true rfl) ?_
  exact k_turn_lp hS hw q 5 0 (by omega) (by omega)
set_option maxRecDepth 20000 in
set_option maxHeartbeats 60000 in
theorem k_goTo {d b : Nat} {K : KM} {I : IM} {R : RM} {Q : QT} {t l : Nat} {x y : Int32} (hS : CS0 K R) (ht : t < 4) (hl : I (TT t) 2 = nI l) (hl5 : l < 512) (q : Q (.inl none) K (up2 (up2 (up2 (up2 I (TT t) 3 x) (TH t) l x) (TD t) l y) (TT t) 2 (nI (l + 1))) R) : Mw d b N_X3_goTo 0 [some (pR (some (TT t))), some (pI x), some (pI y)] [] K I R Q := by
  refine mw_aload i_25_0 (L := TT t) rfl ?_
  refine mw_iload i_25_1 (x := x) rfl ?_
  refine mw_put i_25_2 (x := x) (hS.2.2.2.1 t (by omega)).2.1 (I' := up2 I (TT t) 3 x) rfl ?_
  refine mw_aload i_25_3 (L := TT t) rfl ?_
  refine mw_get i_25_4 (hS.2.2.2.1 t (by omega)).2.1 (v := nI l) (by simp [up2, setI, upd]; exact hl) ?_
  refine mw_const i_25_5 (v := nI 512) (by decide) ?_
  refine mw_ic i_25_6 (p := 512 ≤ l) (nI_leI (by omega) (by omega)) (fun c1 => ?_) (fun c1 => ?_)
  · skip
    exact absurd c1 (by omega)
  · skip
    refine mw_aload i_25_7 (L := TT t) rfl ?_
    refine mw_getR i_25_8 (hS.2.2.2.1 t (by omega)).2.1 (q := some (TH t)) (hS.2.2.2.1 t (by omega)).2.2.1 ?_
    refine mw_aload i_25_9 (L := TT t) rfl ?_
    refine mw_get i_25_10 (hS.2.2.2.1 t (by omega)).2.1 (v := nI l) (by simp [up2, setI, upd]; exact hl) ?_
    refine mw_iload i_25_11 (x := x) rfl ?_
    refine mw_iast i_25_12 (jn := l) (n := 512) (by omega) (by omega) (x := x) (hS.2.2.2.1 t (by omega)).2.2.2.2.1 (I' := up2 (up2 I (TT t) 3 x) (TH t) l x) rfl ?_
    refine mw_aload i_25_13 (L := TT t) rfl ?_
    refine mw_getR i_25_14 (hS.2.2.2.1 t (by omega)).2.1 (q := some (TD t)) (hS.2.2.2.1 t (by omega)).2.2.2.1 ?_
    refine mw_aload i_25_15 (L := TT t) rfl ?_
    refine mw_get i_25_16 (hS.2.2.2.1 t (by omega)).2.1 (v := nI l) (by simp [up2, setI, upd]; exact hl) ?_
    refine mw_iload i_25_17 (x := y) rfl ?_
    refine mw_iast i_25_18 (jn := l) (n := 512) (by omega) (by omega) (x := y) (hS.2.2.2.1 t (by omega)).2.2.2.2.2 (I' := up2 (up2 (up2 I (TT t) 3 x) (TH t) l x) (TD t) l y) rfl ?_
    refine mw_aload i_25_19 (L := TT t) rfl ?_
    refine mw_dup i_25_20 trivial ?_
    refine mw_get i_25_21 (hS.2.2.2.1 t (by omega)).2.1 (v := nI l) (by simp [up2, setI, upd]; exact hl) ?_
    refine mw_const i_25_22 (v := nI 1) (by decide) ?_
    refine mw_iadd i_25_23 (w := nI (l + 1)) (nI_add _ _) ?_
    refine mw_put i_25_24 (x := nI (l + 1)) (hS.2.2.2.1 t (by omega)).2.1 (I' := up2 (up2 (up2 (up2 I (TT t) 3 x) (TH t) l x) (TD t) l y) (TT t) 2 (nI (l + 1))) rfl ?_
    refine mw_ret i_25_25 ?_
    exact q
set_option maxRecDepth 20000 in
set_option maxHeartbeats 60000 in
theorem k_isTown {d b : Nat} {K : KM} {I : IM} {R : RM} {Q : QT} {x : Int32}  (q : Q (.inl (some (pI (bI (isN x 4))))) K I R) : Mw d b N_X5_isTown 0 [some (pI x)] [] K I R Q := by
  refine mw_iload i_62_0 (x := x) rfl ?_
  refine mw_if i_62_1 (p := x < nI 0) Iff.rfl (fun c1 => ?_) (fun c1 => ?_)
  · skip
    refine mw_const i_62_7 (v := nI 0) (by decide) ?_
    refine mw_iret i_62_8 (x := nI 0) (fun _ => (by decide)) ?_
    rw [show nI 0 = bI (isN x 4) from (bI_f (isN_lo (by omega) c1)).symm]
    exact q
  · skip
    refine mw_iload i_62_2 (x := x) rfl ?_
    refine mw_const i_62_3 (v := nI 4) (by decide) ?_
    refine mw_ic i_62_4 (p := (nI 4) ≤ x) Iff.rfl (fun c2 => ?_) (fun c2 => ?_)
    · skip
      refine mw_const i_62_7 (v := nI 0) (by decide) ?_
      refine mw_iret i_62_8 (x := nI 0) (fun _ => (by decide)) ?_
      rw [show nI 0 = bI (isN x 4) from (bI_f (isN_hi (by decide) c2)).symm]
      exact q
    · skip
      refine mw_const i_62_5 (v := nI 1) (by decide) ?_
      refine mw_goto i_62_6 ?_
      refine mw_iret i_62_8 (x := nI 1) (fun _ => (by decide)) ?_
      rw [show nI 1 = bI (isN x 4) from (bI_t (isN_c (by decide) c1 c2)).symm]
      exact q
set_option maxRecDepth 20000 in
set_option maxHeartbeats 60000 in
theorem k_isWrestler {d b : Nat} {K : KM} {I : IM} {R : RM} {Q : QT} {x : Int32} {pp : Nat} (hS : CS0 K R) (hp : I RING 6 = nI pp) (hpp : pp ≤ 10) (q : Q (.inl (some (pI (bI (isN x pp))))) K I R) : Mw d b N_X5_isWrestler 0 [some (pR (some RING)), some (pI x)] [] K I R Q := by
  refine mw_iload i_60_0 (x := x) rfl ?_
  refine mw_if i_60_1 (p := x < nI 0) Iff.rfl (fun c1 => ?_) (fun c1 => ?_)
  · skip
    refine mw_const i_60_8 (v := nI 0) (by decide) ?_
    refine mw_iret i_60_9 (x := nI 0) (fun _ => (by decide)) ?_
    rw [show nI 0 = bI (isN x pp) from (bI_f (isN_lo (by omega) c1)).symm]
    exact q
  · skip
    refine mw_iload i_60_2 (x := x) rfl ?_
    refine mw_aload i_60_3 (L := RING) rfl ?_
    refine mw_get i_60_4 hS.1.1 (v := nI pp) hp ?_
    refine mw_ic i_60_5 (p := (nI pp) ≤ x) Iff.rfl (fun c2 => ?_) (fun c2 => ?_)
    · skip
      refine mw_const i_60_8 (v := nI 0) (by decide) ?_
      refine mw_iret i_60_9 (x := nI 0) (fun _ => (by decide)) ?_
      rw [show nI 0 = bI (isN x pp) from (bI_f (isN_hi (by omega) c2)).symm]
      exact q
    · skip
      refine mw_const i_60_6 (v := nI 1) (by decide) ?_
      refine mw_goto i_60_7 ?_
      refine mw_iret i_60_9 (x := nI 1) (fun _ => (by decide)) ?_
      rw [show nI 1 = bI (isN x pp) from (bI_t (isN_c (by omega) c1 c2)).symm]
      exact q
set_option maxRecDepth 20000 in
set_option maxHeartbeats 60000 in
theorem k_isTitle {d b : Nat} {K : KM} {I : IM} {R : RM} {Q : QT} {x : Int32} {pp : Nat} (hS : CS0 K R) (hp : I RING 7 = nI pp) (hpp : pp ≤ 10) (q : Q (.inl (some (pI (bI (isN x pp))))) K I R) : Mw d b N_X5_isTitle 0 [some (pR (some RING)), some (pI x)] [] K I R Q := by
  refine mw_iload i_61_0 (x := x) rfl ?_
  refine mw_if i_61_1 (p := x < nI 0) Iff.rfl (fun c1 => ?_) (fun c1 => ?_)
  · skip
    refine mw_const i_61_8 (v := nI 0) (by decide) ?_
    refine mw_iret i_61_9 (x := nI 0) (fun _ => (by decide)) ?_
    rw [show nI 0 = bI (isN x pp) from (bI_f (isN_lo (by omega) c1)).symm]
    exact q
  · skip
    refine mw_iload i_61_2 (x := x) rfl ?_
    refine mw_aload i_61_3 (L := RING) rfl ?_
    refine mw_get i_61_4 hS.1.1 (v := nI pp) hp ?_
    refine mw_ic i_61_5 (p := (nI pp) ≤ x) Iff.rfl (fun c2 => ?_) (fun c2 => ?_)
    · skip
      refine mw_const i_61_8 (v := nI 0) (by decide) ?_
      refine mw_iret i_61_9 (x := nI 0) (fun _ => (by decide)) ?_
      rw [show nI 0 = bI (isN x pp) from (bI_f (isN_hi (by omega) c2)).symm]
      exact q
    · skip
      refine mw_const i_61_6 (v := nI 1) (by decide) ?_
      refine mw_goto i_61_7 ?_
      refine mw_iret i_61_9 (x := nI 1) (fun _ => (by decide)) ?_
      rw [show nI 1 = bI (isN x pp) from (bI_t (isN_c (by omega) c1 c2)).symm]
      exact q
set_option maxRecDepth 20000 in
set_option maxHeartbeats 60000 in
theorem k_hasMatch {d b : Nat} {K : KM} {I : IM} {R : RM} {Q : QT} {c sz : Nat} {x : Int32} {p : Nat → Nat} (hC : COp K R c p) (hz : I (CA c) 2 = nI sz) (hsz : sz ≤ 6) (q : Q (.inl (some (pI (bI (isN x sz))))) K I R) : Mw d b N_X0_hasMatch 0 [some (pR (some (CA c))), some (pI x)] [] K I R Q := by
  refine mw_iload i_1_0 (x := x) rfl ?_
  refine mw_if i_1_1 (p := x < nI 0) Iff.rfl (fun c1 => ?_) (fun c1 => ?_)
  · skip
    refine mw_const i_1_8 (v := nI 0) (by decide) ?_
    refine mw_iret i_1_9 (x := nI 0) (fun _ => (by decide)) ?_
    rw [show nI 0 = bI (isN x sz) from (bI_f (isN_lo (by omega) c1)).symm]
    exact q
  · skip
    refine mw_iload i_1_2 (x := x) rfl ?_
    refine mw_aload i_1_3 (L := CA c) rfl ?_
    refine mw_get i_1_4 hC.1 (v := nI sz) hz ?_
    refine mw_ic i_1_5 (p := (nI sz) ≤ x) Iff.rfl (fun c2 => ?_) (fun c2 => ?_)
    · skip
      refine mw_const i_1_8 (v := nI 0) (by decide) ?_
      refine mw_iret i_1_9 (x := nI 0) (fun _ => (by decide)) ?_
      rw [show nI 0 = bI (isN x sz) from (bI_f (isN_hi (by omega) c2)).symm]
      exact q
    · skip
      refine mw_const i_1_6 (v := nI 1) (by decide) ?_
      refine mw_goto i_1_7 ?_
      refine mw_iret i_1_9 (x := nI 1) (fun _ => (by decide)) ?_
      rw [show nI 1 = bI (isN x sz) from (bI_t (isN_c (by omega) c1 c2)).symm]
      exact q
set_option maxRecDepth 20000 in
theorem k_allMin_lp {d b : Nat} {K : KM} {I : IM} {R : RM} {Q : QT} {c sz : Nat} {p : Nat → Nat} (hC : COp K R c p) (hz : I (CA c) 2 = nI sz) (hsz : sz ≤ 6) (q : Q (.inl (some (pI (smI (fun k => I (MT c (p k)) 3) sz)))) K I R) : ∀ (n i : Nat), sz - i < n → i ≤ sz → Mw d b N_X0_allMinutes 4 [some (pR (some (CA c))), some (pI (smI (fun k => I (MT c (p k)) 3) i)), some (pI (nI i))] [] K I R Q := by
  intro n
  induction n with
  | zero => intro i hn; exact absurd hn (Nat.not_lt_zero _)
  | succ n ih =>
    intro i hn hi
    refine mw_iload i_5_4 (x := nI i) rfl ?_
    refine mw_aload i_5_5 (L := CA c) rfl ?_
    refine mw_get i_5_6 hC.1 (v := nI sz) hz ?_
    refine mw_ic i_5_7 (p := sz ≤ i) (nI_leI (by omega) (by omega)) (fun c1 => ?_) (fun c1 => ?_)
    · skip
      refine mw_iload i_5_18 (x := smI (fun k => I (MT c (p k)) 3) i) rfl ?_
      refine mw_iretI i_5_19 (x := smI (fun k => I (MT c (p k)) 3) i) rt_5 ?_
      obtain rfl : i = sz := by omega
      exact q
    · skip
      refine mw_iload i_5_8 (x := smI (fun k => I (MT c (p k)) 3) i) rfl ?_
      refine mw_aload i_5_9 (L := CA c) rfl ?_
      refine mw_getR i_5_10 hC.1 (q := some (MM c)) hC.2.1 ?_
      refine mw_iload i_5_11 (x := nI i) rfl ?_
      refine mw_aald i_5_12 (jn := i) (n := 6) (by omega) (by omega) hC.2.2.1 (by decide) (q := some (MT c (p i))) (hC.2.2.2.2.1 i (by omega)).2 ?_
      refine mw_get i_5_13 (hC.2.2.2.1 _ (hC.2.2.2.2.1 i (by omega)).1) (v := I (MT c (p i)) 3) rfl ?_
      refine mw_iadd i_5_14 (w := ((smI (fun k => I (MT c (p k)) 3) i) + (I (MT c (p i)) 3))) rfl ?_
      refine mw_istore i_5_15 (ls' := [some (pR (some (CA c))), some (pI ((smI (fun k => I (MT c (p k)) 3) i) + (I (MT c (p i)) 3))), some (pI (nI i))]) rfl (Nat.le_of_ble_eq_true rfl) ?_
      refine mw_iinc i_5_16 (x := nI i) (v := nI (i + 1)) (ls' := [some (pR (some (CA c))), some (pI ((smI (fun k => I (MT c (p k)) 3) i) + (I (MT c (p i)) 3))), some (pI (nI (i + 1)))]) rfl (nI_add _ _) rfl ?_
      refine mw_goto i_5_17 ?_
      exact ih (i + 1) (by omega) (by omega)
set_option maxRecDepth 20000 in
set_option maxHeartbeats 60000 in
theorem k_allMin {d b : Nat} {K : KM} {I : IM} {R : RM} {Q : QT} {c sz : Nat} {p : Nat → Nat} (hC : COp K R c p) (hz : I (CA c) 2 = nI sz) (hsz : sz ≤ 6) (q : Q (.inl (some (pI (smI (fun k => I (MT c (p k)) 3) sz)))) K I R) : Mw d b N_X0_allMinutes 0 [some (pR (some (CA c))), none, none] [] K I R Q := by
  refine mw_const i_5_0 (v := nI 0) (by decide) ?_
  refine mw_istore i_5_1 (ls' := [some (pR (some (CA c))), some (pI (nI 0)), none]) rfl (Nat.le_of_ble_eq_true rfl) ?_
  refine mw_const i_5_2 (v := nI 0) (by decide) ?_
  refine mw_istore i_5_3 (ls' := [some (pR (some (CA c))), some (pI (nI 0)), some (pI (nI 0))]) rfl (Nat.le_of_ble_eq_true rfl) ?_
  exact k_allMin_lp hC hz hsz q (sz + 1) 0 (by omega) (by omega)
set_option maxRecDepth 20000 in
theorem k_hasW_lp {d b : Nat} {K : KM} {I : IM} {R : RM} {Q : QT} {c sz : Nat} {x : Int32} {p : Nat → Nat} (hC : COp K R c p) (hz : I (CA c) 2 = nI sz) (hsz : sz ≤ 6) (q : Q (.inl (some (pI (bI (Ex (fun k => I (MT c (p k)) 0 = x ∨ I (MT c (p k)) 1 = x) sz))))) K I R) : ∀ (n i : Nat) (hx : ¬ Ex (fun k => I (MT c (p k)) 0 = x ∨ I (MT c (p k)) 1 = x) i), sz - i < n → i ≤ sz → Mw d b N_X0_hasWrestler 2 [some (pR (some (CA c))), some (pI x), some (pI (nI i))] [] K I R Q := by
  intro n
  induction n with
  | zero => intro i hx hn; exact absurd hn (Nat.not_lt_zero _)
  | succ n ih =>
    intro i hx hn hi
    refine mw_iload i_3_2 (x := nI i) rfl ?_
    refine mw_aload i_3_3 (L := CA c) rfl ?_
    refine mw_get i_3_4 hC.1 (v := nI sz) hz ?_
    refine mw_ic i_3_5 (p := sz ≤ i) (nI_leI (by omega) (by omega)) (fun c1 => ?_) (fun c1 => ?_)
    · skip
      refine mw_const i_3_24 (v := nI 0) (by decide) ?_
      refine mw_iret i_3_25 (x := nI 0) (fun _ => (by decide)) ?_
      obtain rfl : i = sz := by omega
      rw [show nI 0 = bI (Ex (fun k => I (MT c (p k)) 0 = x ∨ I (MT c (p k)) 1 = x) i) from (bI_f hx).symm]
      exact q
    · skip
      refine mw_aload i_3_6 (L := CA c) rfl ?_
      refine mw_getR i_3_7 hC.1 (q := some (MM c)) hC.2.1 ?_
      refine mw_iload i_3_8 (x := nI i) rfl ?_
      refine mw_aald i_3_9 (jn := i) (n := 6) (by omega) (by omega) hC.2.2.1 (by decide) (q := some (MT c (p i))) (hC.2.2.2.2.1 i (by omega)).2 ?_
      refine mw_get i_3_10 (hC.2.2.2.1 _ (hC.2.2.2.2.1 i (by omega)).1) (v := I (MT c (p i)) 0) rfl ?_
      refine mw_iload i_3_11 (x := x) rfl ?_
      refine mw_ic i_3_12 (p := (I (MT c (p i)) 0) = x) Iff.rfl (fun c2 => ?_) (fun c2 => ?_)
      · skip
        refine mw_const i_3_20 (v := nI 1) (by decide) ?_
        refine mw_iret i_3_21 (x := nI 1) (fun _ => (by decide)) ?_
        rw [show nI 1 = bI (Ex (fun k => I (MT c (p k)) 0 = x ∨ I (MT c (p k)) 1 = x) sz) from (bI_t ⟨i, by omega, by first | exact Or.inl c2 | exact Or.inr (Classical.not_not.mp c2) | exact Or.inr c2⟩).symm]
        exact q
      · skip
        refine mw_aload i_3_13 (L := CA c) rfl ?_
        refine mw_getR i_3_14 hC.1 (q := some (MM c)) hC.2.1 ?_
        refine mw_iload i_3_15 (x := nI i) rfl ?_
        refine mw_aald i_3_16 (jn := i) (n := 6) (by omega) (by omega) hC.2.2.1 (by decide) (q := some (MT c (p i))) (hC.2.2.2.2.1 i (by omega)).2 ?_
        refine mw_get i_3_17 (hC.2.2.2.1 _ (hC.2.2.2.2.1 i (by omega)).1) (v := I (MT c (p i)) 1) rfl ?_
        refine mw_iload i_3_18 (x := x) rfl ?_
        refine mw_ic i_3_19 (p := ¬ (I (MT c (p i)) 1) = x) Iff.rfl (fun c3 => ?_) (fun c3 => ?_)
        · skip
          refine mw_iinc i_3_22 (x := nI i) (v := nI (i + 1)) (ls' := [some (pR (some (CA c))), some (pI x), some (pI (nI (i + 1)))]) rfl (nI_add _ _) rfl ?_
          refine mw_goto i_3_23 ?_
          exact ih (i + 1) (Ex_s hx (fun h => h.elim (by assumption) (by assumption))) (by omega) (by omega)
        · skip
          refine mw_const i_3_20 (v := nI 1) (by decide) ?_
          refine mw_iret i_3_21 (x := nI 1) (fun _ => (by decide)) ?_
          rw [show nI 1 = bI (Ex (fun k => I (MT c (p k)) 0 = x ∨ I (MT c (p k)) 1 = x) sz) from (bI_t ⟨i, by omega, by first | exact Or.inl c3 | exact Or.inr (Classical.not_not.mp c3) | exact Or.inr c3⟩).symm]
          exact q
set_option maxRecDepth 20000 in
set_option maxHeartbeats 60000 in
theorem k_hasW {d b : Nat} {K : KM} {I : IM} {R : RM} {Q : QT} {c sz : Nat} {x : Int32} {p : Nat → Nat} (hC : COp K R c p) (hz : I (CA c) 2 = nI sz) (hsz : sz ≤ 6) (q : Q (.inl (some (pI (bI (Ex (fun k => I (MT c (p k)) 0 = x ∨ I (MT c (p k)) 1 = x) sz))))) K I R) : Mw d b N_X0_hasWrestler 0 [some (pR (some (CA c))), some (pI x), none] [] K I R Q := by
  refine mw_const i_3_0 (v := nI 0) (by decide) ?_
  refine mw_istore i_3_1 (ls' := [some (pR (some (CA c))), some (pI x), some (pI (nI 0))]) rfl (Nat.le_of_ble_eq_true rfl) ?_
  exact k_hasW_lp hC hz hsz q (sz + 1) 0 Ex_0 (by omega) (by omega)
set_option maxRecDepth 20000 in
theorem k_hasT_lp {d b : Nat} {K : KM} {I : IM} {R : RM} {Q : QT} {c sz : Nat} {x : Int32} {p : Nat → Nat} (hC : COp K R c p) (hz : I (CA c) 2 = nI sz) (hsz : sz ≤ 6) (q : Q (.inl (some (pI (bI (Ex (fun k => ¬ x = (-1) ∧ I (MT c (p k)) 4 = x) sz))))) K I R) : ∀ (n i : Nat) (hx : ¬ Ex (fun k => ¬ x = (-1) ∧ I (MT c (p k)) 4 = x) i), sz - i < n → i ≤ sz → Mw d b N_X0_hasTitle 2 [some (pR (some (CA c))), some (pI x), some (pI (nI i))] [] K I R Q := by
  intro n
  induction n with
  | zero => intro i hx hn; exact absurd hn (Nat.not_lt_zero _)
  | succ n ih =>
    intro i hx hn hi
    refine mw_iload i_4_2 (x := nI i) rfl ?_
    refine mw_aload i_4_3 (L := CA c) rfl ?_
    refine mw_get i_4_4 hC.1 (v := nI sz) hz ?_
    refine mw_ic i_4_5 (p := sz ≤ i) (nI_leI (by omega) (by omega)) (fun c1 => ?_) (fun c1 => ?_)
    · skip
      refine mw_const i_4_20 (v := nI 0) (by decide) ?_
      refine mw_iret i_4_21 (x := nI 0) (fun _ => (by decide)) ?_
      obtain rfl : i = sz := by omega
      rw [show nI 0 = bI (Ex (fun k => ¬ x = (-1) ∧ I (MT c (p k)) 4 = x) i) from (bI_f hx).symm]
      exact q
    · skip
      refine mw_iload i_4_6 (x := x) rfl ?_
      refine mw_const i_4_7 (v := (-1)) (by decide) ?_
      refine mw_ic i_4_8 (p := x = (-1)) Iff.rfl (fun c2 => ?_) (fun c2 => ?_)
      · skip
        refine mw_iinc i_4_18 (x := nI i) (v := nI (i + 1)) (ls' := [some (pR (some (CA c))), some (pI x), some (pI (nI (i + 1)))]) rfl (nI_add _ _) rfl ?_
        refine mw_goto i_4_19 ?_
        exact ih (i + 1) (Ex_s hx (by first | exact fun h => h.1 (by assumption) | exact fun h => absurd h.2 (by assumption))) (by omega) (by omega)
      · skip
        refine mw_aload i_4_9 (L := CA c) rfl ?_
        refine mw_getR i_4_10 hC.1 (q := some (MM c)) hC.2.1 ?_
        refine mw_iload i_4_11 (x := nI i) rfl ?_
        refine mw_aald i_4_12 (jn := i) (n := 6) (by omega) (by omega) hC.2.2.1 (by decide) (q := some (MT c (p i))) (hC.2.2.2.2.1 i (by omega)).2 ?_
        refine mw_get i_4_13 (hC.2.2.2.1 _ (hC.2.2.2.2.1 i (by omega)).1) (v := I (MT c (p i)) 4) rfl ?_
        refine mw_iload i_4_14 (x := x) rfl ?_
        refine mw_ic i_4_15 (p := ¬ (I (MT c (p i)) 4) = x) Iff.rfl (fun c3 => ?_) (fun c3 => ?_)
        · skip
          refine mw_iinc i_4_18 (x := nI i) (v := nI (i + 1)) (ls' := [some (pR (some (CA c))), some (pI x), some (pI (nI (i + 1)))]) rfl (nI_add _ _) rfl ?_
          refine mw_goto i_4_19 ?_
          exact ih (i + 1) (Ex_s hx (by first | exact fun h => h.1 (by assumption) | exact fun h => absurd h.2 (by assumption))) (by omega) (by omega)
        · skip
          refine mw_const i_4_16 (v := nI 1) (by decide) ?_
          refine mw_iret i_4_17 (x := nI 1) (fun _ => (by decide)) ?_
          rw [show nI 1 = bI (Ex (fun k => ¬ x = (-1) ∧ I (MT c (p k)) 4 = x) sz) from (bI_t ⟨i, by omega, by assumption, by first | assumption | exact Classical.not_not.mp c3⟩).symm]
          exact q
set_option maxRecDepth 20000 in
set_option maxHeartbeats 60000 in
theorem k_hasT {d b : Nat} {K : KM} {I : IM} {R : RM} {Q : QT} {c sz : Nat} {x : Int32} {p : Nat → Nat} (hC : COp K R c p) (hz : I (CA c) 2 = nI sz) (hsz : sz ≤ 6) (q : Q (.inl (some (pI (bI (Ex (fun k => ¬ x = (-1) ∧ I (MT c (p k)) 4 = x) sz))))) K I R) : Mw d b N_X0_hasTitle 0 [some (pR (some (CA c))), some (pI x), none] [] K I R Q := by
  refine mw_const i_4_0 (v := nI 0) (by decide) ?_
  refine mw_istore i_4_1 (ls' := [some (pR (some (CA c))), some (pI x), some (pI (nI 0))]) rfl (Nat.le_of_ble_eq_true rfl) ?_
  exact k_hasT_lp hC hz hsz q (sz + 1) 0 Ex_0 (by omega) (by omega)
