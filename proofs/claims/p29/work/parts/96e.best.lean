/-! the best way, as the law finds it -/
set_option maxRecDepth 20000 in
theorem b_dig_lp {d b : Nat} {K : KM} {I : IM} {R : RM} {Q : QT} {σ : ST} {t u8 w9 : Nat} {u6 x7 : Int32} (ht : t < 4096)  (q : ∀ u10 u13, Mw d b N_L_best 68 [some (pR (some QW)), some (pR (some QV)), some (pR (some QC)), some (pR (some QK)), some (pR (some QM)), some (pI (nI (bs (oP σ) 6))), some (pI u6), some (pI x7), some (pI (nI u8)), some (pI (nI w9)), u10, some (pI (nI (en (dW σ (cg 7 t)) 6))), some (pI (nI 6)), u13] [] K I R Q) : ∀ (n j : Nat) (u13 : Option PV), 6 - j < n → j ≤ 6 → Mw d b N_L_best 30 [some (pR (some QW)), some (pR (some QV)), some (pR (some QC)), some (pR (some QK)), some (pR (some QM)), some (pI (nI (bs (oP σ) 6))), some (pI u6), some (pI x7), some (pI (nI u8)), some (pI (nI w9)), some (pI (nI (t / 8 ^ cnt (oP σ) j))), some (pI (nI (en (dW σ (cg 7 t)) j))), some (pI (nI j)), u13] [] K I R Q := by
  intro n
  induction n with
  | zero => intro j u13 hn; exact absurd hn (Nat.not_lt_zero _)
  | succ n ih =>
    intro j u13 hn hi
    have hlt : t / 8 ^ cnt (oP σ) j < 2147483648 := Nat.lt_of_le_of_lt (Nat.div_le_self _ _) (by omega)
    refine mw_iload i_91_30 (x := nI j) rfl ?_
    refine mw_const i_91_31 (v := nI 6) (by decide) ?_
    refine mw_ic i_91_32 (p := 6 ≤ j) (nI_leI (by omega) (by omega)) (fun c1 => ?_) (fun c1 => ?_)
    · skip
      obtain rfl : j = 6 := by omega
      exact q _ _
    · skip
      have J2 : Mw d b 91 43 [some (pR (some QW)), some (pR (some QV)), some (pR (some QC)), some (pR (some QK)), some (pR (some QM)), some (pI (nI (bs (oP σ) 6))), some (pI u6), some (pI x7), some (pI (nI u8)), some (pI (nI w9)), some (pI (nI (t / 8 ^ cnt (oP σ) j))), some (pI (nI (en (dW σ (cg 7 t)) j))), some (pI (nI j)), u13] [pI (bI (oP σ j))] K I R Q := by
        refine mw_istore i_91_43 (ls' := [some (pR (some QW)), some (pR (some QV)), some (pR (some QC)), some (pR (some QK)), some (pR (some QM)), some (pI (nI (bs (oP σ) 6))), some (pI u6), some (pI x7), some (pI (nI u8)), some (pI (nI w9)), some (pI (nI (t / 8 ^ cnt (oP σ) j))), some (pI (nI (en (dW σ (cg 7 t)) j))), some (pI (nI j)), some (pI (bI (oP σ j)))]) rfl (Nat.le_of_ble_eq_true rfl) ?_
        have J3 : Mw d b 91 57 [some (pR (some QW)), some (pR (some QV)), some (pR (some QC)), some (pR (some QK)), some (pR (some QM)), some (pI (nI (bs (oP σ) 6))), some (pI u6), some (pI x7), some (pI (nI u8)), some (pI (nI w9)), some (pI (nI (t / 8 ^ cnt (oP σ) j))), some (pI (nI (en (dW σ (cg 7 t)) j))), some (pI (nI j)), some (pI (bI (oP σ j)))] [pI (nI (en (dW σ (cg 7 t)) (j + 1)))] K I R Q := by
          refine mw_istore i_91_57 (ls' := [some (pR (some QW)), some (pR (some QV)), some (pR (some QC)), some (pR (some QK)), some (pR (some QM)), some (pI (nI (bs (oP σ) 6))), some (pI u6), some (pI x7), some (pI (nI u8)), some (pI (nI w9)), some (pI (nI (t / 8 ^ cnt (oP σ) j))), some (pI (nI (en (dW σ (cg 7 t)) (j + 1)))), some (pI (nI j)), some (pI (bI (oP σ j)))]) rfl (Nat.le_of_ble_eq_true rfl) ?_
          have J4 : Mw d b 91 65 [some (pR (some QW)), some (pR (some QV)), some (pR (some QC)), some (pR (some QK)), some (pR (some QM)), some (pI (nI (bs (oP σ) 6))), some (pI u6), some (pI x7), some (pI (nI u8)), some (pI (nI w9)), some (pI (nI (t / 8 ^ cnt (oP σ) j))), some (pI (nI (en (dW σ (cg 7 t)) (j + 1)))), some (pI (nI j)), some (pI (bI (oP σ j)))] [pI (nI (t / 8 ^ cnt (oP σ) (j + 1)))] K I R Q := by
            refine mw_istore i_91_65 (ls' := [some (pR (some QW)), some (pR (some QV)), some (pR (some QC)), some (pR (some QK)), some (pR (some QM)), some (pI (nI (bs (oP σ) 6))), some (pI u6), some (pI x7), some (pI (nI u8)), some (pI (nI w9)), some (pI (nI (t / 8 ^ cnt (oP σ) (j + 1)))), some (pI (nI (en (dW σ (cg 7 t)) (j + 1)))), some (pI (nI j)), some (pI (bI (oP σ j)))]) rfl (Nat.le_of_ble_eq_true rfl) ?_
            refine mw_iinc i_91_66 (x := nI j) (v := nI (j + 1)) (ls' := [some (pR (some QW)), some (pR (some QV)), some (pR (some QC)), some (pR (some QK)), some (pR (some QM)), some (pI (nI (bs (oP σ) 6))), some (pI u6), some (pI x7), some (pI (nI u8)), some (pI (nI w9)), some (pI (nI (t / 8 ^ cnt (oP σ) (j + 1)))), some (pI (nI (en (dW σ (cg 7 t)) (j + 1)))), some (pI (nI (j + 1))), some (pI (bI (oP σ j)))]) rfl (nI_add _ _) rfl ?_
            refine mw_goto i_91_67 ?_
            exact ih (j + 1) _ (by omega) (by omega)
          refine mw_iload i_91_58 (x := bI (oP σ j)) rfl ?_
          refine mw_eqB i_91_59 rfl (fun c5 => ?_) (fun c5 => ?_)
          · skip
            refine mw_iload i_91_64 (x := nI (t / 8 ^ cnt (oP σ) j)) rfl ?_
            exact mw_top (show nI (t / 8 ^ cnt (oP σ) j) = nI (t / 8 ^ cnt (oP σ) (j + 1)) from by rw [cnt_f c5]) J4
          · skip
            refine mw_iload i_91_60 (x := nI (t / 8 ^ cnt (oP σ) j)) rfl ?_
            refine mw_const i_91_61 (v := nI 3) (by decide) ?_
            refine mw_ishr i_91_62 (w := nI (t / 8 ^ cnt (oP σ) j / 8)) (shr3 hlt) ?_
            refine mw_goto i_91_63 ?_
            exact mw_top (show nI (t / 8 ^ cnt (oP σ) j / 8) = nI (t / 8 ^ cnt (oP σ) (j + 1)) from by rw [cnt_t c5, Nat.pow_succ, Nat.div_div_eq_div_mul]) J4
        refine mw_iload i_91_44 (x := nI (en (dW σ (cg 7 t)) j)) rfl ?_
        refine mw_iload i_91_45 (x := bI (oP σ j)) rfl ?_
        refine mw_eqB i_91_46 rfl (fun c6 => ?_) (fun c6 => ?_)
        · skip
          refine mw_const i_91_51 (v := nI 7) (by decide) ?_
          refine mw_const i_91_52 (v := nI 3) (by decide) ?_
          refine mw_iload i_91_53 (x := nI j) rfl ?_
          refine mw_imul i_91_54 (w := nI (3 * j)) (pk_mul _ _) ?_
          refine mw_ishl i_91_55 (w := nI (7 * 8 ^ j)) (shl_hi (by omega) (by omega)) ?_
          refine mw_ior i_91_56 (w := nI (en (dW σ (cg 7 t)) j + 7 * 8 ^ j)) (or_hi (en_lt (dW_le (fun k => cg_le)) j)) ?_
          exact mw_top (show nI (en (dW σ (cg 7 t)) j + 7 * 8 ^ j) = nI (en (dW σ (cg 7 t)) (j + 1)) from by show _ = nI (en (dW σ (cg 7 t)) j + dW σ (cg 7 t) j * 8 ^ j); rw [dW_f c6]) J3
        · skip
          refine mw_iload i_91_47 (x := nI (t / 8 ^ cnt (oP σ) j)) rfl ?_
          refine mw_const i_91_48 (v := nI 7) (by decide) ?_
          refine mw_iand i_91_49 (w := nI (t / 8 ^ cnt (oP σ) j % 8)) (and7 hlt) ?_
          refine mw_goto i_91_50 ?_
          refine mw_const i_91_52 (v := nI 3) (by decide) ?_
          refine mw_iload i_91_53 (x := nI j) rfl ?_
          refine mw_imul i_91_54 (w := nI (3 * j)) (pk_mul _ _) ?_
          refine mw_ishl i_91_55 (w := nI ((t / 8 ^ cnt (oP σ) j % 8) * 8 ^ j)) (shl_hi (by omega) (by omega)) ?_
          refine mw_ior i_91_56 (w := nI (en (dW σ (cg 7 t)) j + (t / 8 ^ cnt (oP σ) j % 8) * 8 ^ j)) (or_hi (en_lt (dW_le (fun k => cg_le)) j)) ?_
          exact mw_top (show nI (en (dW σ (cg 7 t)) j + (t / 8 ^ cnt (oP σ) j % 8) * 8 ^ j) = nI (en (dW σ (cg 7 t)) (j + 1)) from by show _ = nI (en (dW σ (cg 7 t)) j + dW σ (cg 7 t) j * 8 ^ j); rw [dW_t c6]; rfl) J3
      refine mw_iload i_91_33 (x := nI (bs (oP σ) 6)) rfl ?_
      refine mw_iload i_91_34 (x := nI j) rfl ?_
      refine mw_ishr i_91_35 (w := nI (bs (oP σ) 6) >>> ((nI j) &&& 31)) rfl ?_
      refine mw_const i_91_36 (v := nI 1) (by decide) ?_
      refine mw_iand i_91_37 (w := bI (oP σ j)) (bs_bit (by omega) (by decide)) ?_
      refine mw_const i_91_38 (v := nI 1) (by decide) ?_
      refine mw_ic i_91_39 (p := ¬ (bI (oP σ j)) = (nI 1)) Iff.rfl (fun c7 => ?_) (fun c7 => ?_)
      · skip
        refine mw_const i_91_42 (v := nI 0) (by decide) ?_
        exact mw_top (show nI 0 = bI (oP σ j) from (bI_f ((fun h => c7 (bI_t h)))).symm) J2
      · skip
        refine mw_const i_91_40 (v := nI 1) (by decide) ?_
        refine mw_goto i_91_41 ?_
        exact mw_top (show nI 1 = bI (oP σ j) from (bI_t ((bI_1.mp (Classical.not_not.mp c7)))).symm) J2
theorem imu_0 : imu 0 = (-1) := rfl
theorem imu_s {u : Nat} : imu (u + 1) = nI u := rfl
theorem imu_neg {u : Nat} (hu : u < 1000000) : imu u < nI 0 ↔ u = 0 := by
  cases u with
  | zero => exact ⟨fun _ => rfl, fun _ => by decide⟩
  | succ u => rw [imu_s, nI_ltI (by omega) (by decide)]; omega
set_option maxRecDepth 20000 in
set_option maxHeartbeats 400000 in
theorem b_best_lp {d b : Nat} {K : KM} {I : IM} {R : RM} {Q : QT} {n n0 : Nat} {σ : ST} {w8 : Nat} (hd : 3 ≤ d) (hQ : KQ K) (hL : LR n σ I) (hV : IV n0 σ) (hmn : ¬ mn σ (dn σ) = 0) (hO : mO σ ≤ 4) (q : Q (.inl (some (pI (nI (en (dW σ (bC σ (twn σ (dn σ)))) 6))))) K I R) : ∀ (u : Nat) (cB : Nat → Nat), u ≤ 8 ^ mO σ → (∀ k, cB k ≤ 7) → Seen σ (twn σ (dn σ)) cB u → ∀ (u10 u11 u12 u13 : Option PV), Mw d b N_L_best 22 [some (pR (some QW)), some (pR (some QV)), some (pR (some QC)), some (pR (some QK)), some (pR (some QM)), some (pI (nI (bs (oP σ) 6))), some (pI (nI (en (dW σ cB) 6))), some (pI (Vv σ (twn σ (dn σ)) cB)), some (pI (nI w8)), some (pI (imu u)), u10, u11, u12, u13] [] K I R Q := by
  obtain ⟨d9, rfl⟩ : ∃ d9, d = d9 + 1 := ⟨d - 1, by omega⟩
  have h8 : 8 ^ mO σ ≤ 8 ^ 4 := Nat.pow_le_pow_right (by decide) hO
  intro u
  induction u with
  | zero =>
    intro cB hu hcB hS u10 u11 u12 u13
    rw [imu_0]
    refine mw_iload i_91_22 (x := (-1)) rfl ?_
    refine mw_ifT i_91_23 (show ((-1) : Int32) < nI 0 by decide) ?_
    refine mw_iload i_91_93 (x := nI (en (dW σ cB) 6)) rfl ?_
    refine mw_iretI i_91_94 (x := nI (en (dW σ cB) 6)) rt_91 ?_
    have hb := best_ok hL hcB (fun t ht => hS t (Nat.zero_le _) ht)
    rw [en_dW hL hb.2]
    exact q
  | succ u ih =>
    intro cB hu hcB hS u10 u11 u12 u13
    rw [imu_s]
    refine mw_iload i_91_22 (x := nI u) rfl ?_
    refine mw_ifF i_91_23 (show ¬ nI u < nI 0 from fun h => absurd ((nI_ltI (by omega) (by decide)).mp h) (Nat.not_lt_zero _)) ?_
    refine mw_iload i_91_24 (x := nI u) rfl ?_
    refine mw_istore i_91_25 (ls' := [some (pR (some QW)), some (pR (some QV)), some (pR (some QC)), some (pR (some QK)), some (pR (some QM)), some (pI (nI (bs (oP σ) 6))), some (pI (nI (en (dW σ cB) 6))), some (pI (Vv σ (twn σ (dn σ)) cB)), some (pI (nI w8)), some (pI (nI u)), some (pI (nI u)), u11, u12, u13]) rfl (Nat.le_of_ble_eq_true rfl) ?_
    refine mw_const i_91_26 (v := nI 0) (by decide) ?_
    refine mw_istore i_91_27 (ls' := [some (pR (some QW)), some (pR (some QV)), some (pR (some QC)), some (pR (some QK)), some (pR (some QM)), some (pI (nI (bs (oP σ) 6))), some (pI (nI (en (dW σ cB) 6))), some (pI (Vv σ (twn σ (dn σ)) cB)), some (pI (nI w8)), some (pI (nI u)), some (pI (nI u)), some (pI (nI 0)), u12, u13]) rfl (Nat.le_of_ble_eq_true rfl) ?_
    refine mw_const i_91_28 (v := nI 0) (by decide) ?_
    refine mw_istore i_91_29 (ls' := [some (pR (some QW)), some (pR (some QV)), some (pR (some QC)), some (pR (some QK)), some (pR (some QM)), some (pI (nI (bs (oP σ) 6))), some (pI (nI (en (dW σ cB) 6))), some (pI (Vv σ (twn σ (dn σ)) cB)), some (pI (nI w8)), some (pI (nI u)), some (pI (nI u)), some (pI (nI 0)), some (pI (nI 0)), u13]) rfl (Nat.le_of_ble_eq_true rfl) ?_
    have hdg := fun q9 => b_dig_lp (d := d9 + 1) (b := b) (K := K) (I := I) (R := R) (Q := Q) (σ := σ) (t := u) (u8 := w8) (w9 := u) (u6 := nI (en (dW σ cB) 6)) (x7 := Vv σ (twn σ (dn σ)) cB) (by omega) q9 7 0 u13 (by omega) (by omega)
    rw [show u / 8 ^ cnt (oP σ) 0 = u by show u / 8 ^ 0 = u; rw [Nat.pow_zero, Nat.div_one]] at hdg
    refine hdg (fun u10 u13 => ?_)
    refine mw_aload i_91_68 (L := QW) rfl ?_
    refine mw_aload i_91_69 (L := QV) rfl ?_
    refine mw_aload i_91_70 (L := QC) rfl ?_
    refine mw_aload i_91_71 (L := QK) rfl ?_
    refine mw_aload i_91_72 (L := QM) rfl ?_
    refine mw_iload i_91_73 (x := nI (bs (oP σ) 6)) rfl ?_
    refine mw_iload i_91_74 (x := nI (en (dW σ (cg 7 u)) 6)) rfl ?_
    refine mw_callS i_91_75 mf_89 (as := [pR (some QW), pR (some QV), pR (some QC), pR (some QK), pR (some QM), pI (nI (bs (oP σ) 6)), pI (nI (en (dW σ (cg 7 u)) 6))]) (rest := []) (d' := d9) (b' := b) (ls0 := [some (pR (some QW)), some (pR (some QV)), some (pR (some QC)), some (pR (some QK)), some (pR (some QM)), some (pI (nI (bs (oP σ) 6))), some (pI (nI (en (dW σ (cg 7 u)) 6))), none, none, none, none, none, none, none, none]) rfl rfl rfl (Nat.le_of_ble_eq_true rfl) rfl rfl rfl ?_
    refine b_sumOf (by omega) hQ hL hV hmn (fun k => cg_le) ?_
    refine aft_v ?_
    refine mw_istore i_91_76 (ls' := [some (pR (some QW)), some (pR (some QV)), some (pR (some QC)), some (pR (some QK)), some (pR (some QM)), some (pI (nI (bs (oP σ) 6))), some (pI (nI (en (dW σ cB) 6))), some (pI (Vv σ (twn σ (dn σ)) cB)), some (pI (nI w8)), some (pI (nI u)), u10, some (pI (nI (en (dW σ (cg 7 u)) 6))), some (pI (Vv σ (twn σ (dn σ)) (cg 7 u))), u13]) rfl (Nat.le_of_ble_eq_true rfl) ?_
    refine mw_iload i_91_77 (x := Vv σ (twn σ (dn σ)) (cg 7 u)) rfl ?_
    refine mw_iload i_91_78 (x := Vv σ (twn σ (dn σ)) cB) rfl ?_
    refine mw_ic i_91_79 (p := (Vv σ (twn σ (dn σ)) cB) < (Vv σ (twn σ (dn σ)) (cg 7 u))) Iff.rfl (fun c1 => ?_) (fun c1 => ?_)
    · skip
      refine mw_iload i_91_87 (x := Vv σ (twn σ (dn σ)) (cg 7 u)) rfl ?_
      refine mw_istore i_91_88 (ls' := [some (pR (some QW)), some (pR (some QV)), some (pR (some QC)), some (pR (some QK)), some (pR (some QM)), some (pI (nI (bs (oP σ) 6))), some (pI (nI (en (dW σ cB) 6))), some (pI (Vv σ (twn σ (dn σ)) (cg 7 u))), some (pI (nI w8)), some (pI (nI u)), u10, some (pI (nI (en (dW σ (cg 7 u)) 6))), some (pI (Vv σ (twn σ (dn σ)) (cg 7 u))), u13]) rfl (Nat.le_of_ble_eq_true rfl) ?_
      refine mw_iload i_91_89 (x := nI (en (dW σ (cg 7 u)) 6)) rfl ?_
      refine mw_istore i_91_90 (ls' := [some (pR (some QW)), some (pR (some QV)), some (pR (some QC)), some (pR (some QK)), some (pR (some QM)), some (pI (nI (bs (oP σ) 6))), some (pI (nI (en (dW σ (cg 7 u)) 6))), some (pI (Vv σ (twn σ (dn σ)) (cg 7 u))), some (pI (nI w8)), some (pI (nI u)), u10, some (pI (nI (en (dW σ (cg 7 u)) 6))), some (pI (Vv σ (twn σ (dn σ)) (cg 7 u))), u13]) rfl (Nat.le_of_ble_eq_true rfl) ?_
      refine mw_iinc i_91_91 (x := nI u) (v := imu u) (ls' := [some (pR (some QW)), some (pR (some QV)), some (pR (some QC)), some (pR (some QK)), some (pR (some QM)), some (pI (nI (bs (oP σ) 6))), some (pI (nI (en (dW σ (cg 7 u)) 6))), some (pI (Vv σ (twn σ (dn σ)) (cg 7 u))), some (pI (nI w8)), some (pI (imu u)), u10, some (pI (nI (en (dW σ (cg 7 u)) 6))), some (pI (Vv σ (twn σ (dn σ)) (cg 7 u))), u13]) rfl (imd (by omega)) rfl ?_
      refine mw_goto i_91_92 ?_
      exact ih _ (by omega) (fun k => cg_le) (Seen_new1 hS c1) _ _ _ _
    · skip
      refine mw_iload i_91_80 (x := Vv σ (twn σ (dn σ)) (cg 7 u)) rfl ?_
      refine mw_iload i_91_81 (x := Vv σ (twn σ (dn σ)) cB) rfl ?_
      refine mw_ic i_91_82 (p := ¬ (Vv σ (twn σ (dn σ)) (cg 7 u)) = (Vv σ (twn σ (dn σ)) cB)) Iff.rfl (fun c2 => ?_) (fun c2 => ?_)
      · skip
        refine mw_iinc i_91_91 (x := nI u) (v := imu u) (ls' := [some (pR (some QW)), some (pR (some QV)), some (pR (some QC)), some (pR (some QK)), some (pR (some QM)), some (pI (nI (bs (oP σ) 6))), some (pI (nI (en (dW σ cB) 6))), some (pI (Vv σ (twn σ (dn σ)) cB)), some (pI (nI w8)), some (pI (imu u)), u10, some (pI (nI (en (dW σ (cg 7 u)) 6))), some (pI (Vv σ (twn σ (dn σ)) (cg 7 u))), u13]) rfl (imd (by omega)) rfl ?_
        refine mw_goto i_91_92 ?_
        exact ih _ (by omega) hcB (Seen_old1 hS c1 c2) _ _ _ _
      · skip
        refine mw_iload i_91_83 (x := nI (en (dW σ (cg 7 u)) 6)) rfl ?_
        refine mw_iload i_91_84 (x := nI (en (dW σ cB) 6)) rfl ?_
        refine mw_callS i_91_85 mf_90 (as := [pI (nI (en (dW σ (cg 7 u)) 6)), pI (nI (en (dW σ cB) 6))]) (rest := []) (d' := d9) (b' := b) (ls0 := [some (pI (nI (en (dW σ (cg 7 u)) 6))), some (pI (nI (en (dW σ cB) 6))), none, none]) rfl rfl rfl (Nat.le_of_ble_eq_true rfl) rfl rfl rfl ?_
        refine a_isAhead (by first | exact dW_le (fun k => cg_le) | exact fun j => dW_le (fun k => cg_le) j) (fun j => dW_le hcB j) ?_
        refine aft_v ?_
        refine mw_eqB i_91_86 rfl (fun c3 => ?_) (fun c3 => ?_)
        · skip
          refine mw_iinc i_91_91 (x := nI u) (v := imu u) (ls' := [some (pR (some QW)), some (pR (some QV)), some (pR (some QC)), some (pR (some QK)), some (pR (some QM)), some (pI (nI (bs (oP σ) 6))), some (pI (nI (en (dW σ cB) 6))), some (pI (Vv σ (twn σ (dn σ)) cB)), some (pI (nI w8)), some (pI (imu u)), u10, some (pI (nI (en (dW σ (cg 7 u)) 6))), some (pI (Vv σ (twn σ (dn σ)) (cg 7 u))), u13]) rfl (imd (by omega)) rfl ?_
          refine mw_goto i_91_92 ?_
          exact ih _ (by omega) hcB (Seen_old2 hS (Classical.not_not.mp c2) (fun h => c3 ((Ahd_lex hL).mpr ((lex_pre (P := 7) (fun j _ => cg_le) (fun j _ => hcB j)).mpr h)))) _ _ _ _
        · skip
          refine mw_iload i_91_87 (x := Vv σ (twn σ (dn σ)) (cg 7 u)) rfl ?_
          refine mw_istore i_91_88 (ls' := [some (pR (some QW)), some (pR (some QV)), some (pR (some QC)), some (pR (some QK)), some (pR (some QM)), some (pI (nI (bs (oP σ) 6))), some (pI (nI (en (dW σ cB) 6))), some (pI (Vv σ (twn σ (dn σ)) (cg 7 u))), some (pI (nI w8)), some (pI (nI u)), u10, some (pI (nI (en (dW σ (cg 7 u)) 6))), some (pI (Vv σ (twn σ (dn σ)) (cg 7 u))), u13]) rfl (Nat.le_of_ble_eq_true rfl) ?_
          refine mw_iload i_91_89 (x := nI (en (dW σ (cg 7 u)) 6)) rfl ?_
          refine mw_istore i_91_90 (ls' := [some (pR (some QW)), some (pR (some QV)), some (pR (some QC)), some (pR (some QK)), some (pR (some QM)), some (pI (nI (bs (oP σ) 6))), some (pI (nI (en (dW σ (cg 7 u)) 6))), some (pI (Vv σ (twn σ (dn σ)) (cg 7 u))), some (pI (nI w8)), some (pI (nI u)), u10, some (pI (nI (en (dW σ (cg 7 u)) 6))), some (pI (Vv σ (twn σ (dn σ)) (cg 7 u))), u13]) rfl (Nat.le_of_ble_eq_true rfl) ?_
          refine mw_iinc i_91_91 (x := nI u) (v := imu u) (ls' := [some (pR (some QW)), some (pR (some QV)), some (pR (some QC)), some (pR (some QK)), some (pR (some QM)), some (pI (nI (bs (oP σ) 6))), some (pI (nI (en (dW σ (cg 7 u)) 6))), some (pI (Vv σ (twn σ (dn σ)) (cg 7 u))), some (pI (nI w8)), some (pI (imu u)), u10, some (pI (nI (en (dW σ (cg 7 u)) 6))), some (pI (Vv σ (twn σ (dn σ)) (cg 7 u))), u13]) rfl (imd (by omega)) rfl ?_
          refine mw_goto i_91_92 ?_
          exact ih _ (by omega) (fun k => cg_le) (Seen_new2 hS (Classical.not_not.mp c2) ((lex_pre (P := 7) (fun j _ => cg_le) (fun j _ => hcB j)).mp ((Ahd_lex hL).mp c3))) _ _ _ _
set_option maxRecDepth 20000 in
theorem b_best_A {d b : Nat} {K : KM} {I : IM} {R : RM} {Q : QT} {n n0 : Nat} {σ : ST} (hd : 3 ≤ d) (hQ : KQ K) (hL : LR n σ I) (hV : IV n0 σ) (hmn : ¬ mn σ (dn σ) = 0) (hO : mO σ ≤ 4)  (q : Q (.inl (some (pI (nI (en (dW σ (bC σ (twn σ (dn σ)))) 6))))) K I R) : ∀ (n j : Nat) (u10 u11 u12 u13 : Option PV), mO σ - j < n → j ≤ mO σ → Mw d b N_L_best 8 [some (pR (some QW)), some (pR (some QV)), some (pR (some QC)), some (pR (some QK)), some (pR (some QM)), some (pI (nI (bs (oP σ) 6))), some (pI (nI 262143)), some (pI (nI 0)), some (pI (nI (8 ^ j))), some (pI (nI j)), u10, u11, u12, u13] [] K I R Q := by
  obtain ⟨d9, rfl⟩ : ∃ d9, d = d9 + 1 := ⟨d - 1, by omega⟩
  intro n
  induction n with
  | zero => intro j u10 u11 u12 u13 hn; exact absurd hn (Nat.not_lt_zero _)
  | succ n ih =>
    intro j u10 u11 u12 u13 hn hi
    refine mw_iload i_91_8 (x := nI j) rfl ?_
    refine mw_iload i_91_9 (x := nI (bs (oP σ) 6)) rfl ?_
    refine mw_callS i_91_10 mf_88 (as := [pI (nI (bs (oP σ) 6))]) (rest := [pI (nI j)]) (d' := d9) (b' := b) (ls0 := [some (pI (nI (bs (oP σ) 6))), none, none]) rfl rfl rfl (Nat.le_of_ble_eq_true rfl) rfl rfl rfl ?_
    refine a_count ?_
    rw [cnt6 hL]
    refine aft_v ?_
    refine mw_ic i_91_11 (p := (mO σ) ≤ j) (nI_leI (by omega) (by omega)) (fun c1 => ?_) (fun c1 => ?_)
    · skip
      refine mw_iload i_91_18 (x := nI (8 ^ j)) rfl ?_
      refine mw_const i_91_19 (v := nI 1) (by decide) ?_
      refine mw_isub i_91_20 (w := nI ((8 ^ j) - 1)) (pk_sub (Nat.pow_pos (by decide))) ?_
      refine mw_istore i_91_21 (ls' := [some (pR (some QW)), some (pR (some QV)), some (pR (some QC)), some (pR (some QK)), some (pR (some QM)), some (pI (nI (bs (oP σ) 6))), some (pI (nI 262143)), some (pI (nI 0)), some (pI (nI (8 ^ j))), some (pI (nI ((8 ^ j) - 1))), u10, u11, u12, u13]) rfl (Nat.le_of_ble_eq_true rfl) ?_
      obtain rfl : j = mO σ := by omega
      have h8 : 8 ^ mO σ ≤ 8 ^ 4 := Nat.pow_le_pow_right (by decide) hO
      have h81 : 0 < 8 ^ mO σ := Nat.pow_pos (by decide)
      have hlp := b_best_lp (d := d9 + 1) (b := b) (K := K) (I := I) (R := R) (Q := Q) (w8 := 8 ^ mO σ) (by omega) hQ hL hV hmn hO q (8 ^ mO σ) (fun _ => 7) (Nat.le_refl _) (fun _ => Nat.le_refl _) (fun t h1 h2 => absurd h2 (Nat.not_lt.mpr h1)) u10 u11 u12 u13
      rw [en_7, Vv_7 hL, show imu (8 ^ mO σ) = nI (8 ^ mO σ - 1) by rw [show 8 ^ mO σ = (8 ^ mO σ - 1) + 1 by omega]; rfl] at hlp
      exact hlp
    · skip
      refine mw_iload i_91_12 (x := nI (8 ^ j)) rfl ?_
      refine mw_const i_91_13 (v := nI 8) (by decide) ?_
      refine mw_imul i_91_14 (w := nI ((8 ^ j) * 8)) (pk_mul _ _) ?_
      refine mw_istore i_91_15 (ls' := [some (pR (some QW)), some (pR (some QV)), some (pR (some QC)), some (pR (some QK)), some (pR (some QM)), some (pI (nI (bs (oP σ) 6))), some (pI (nI 262143)), some (pI (nI 0)), some (pI (nI ((8 ^ j) * 8))), some (pI (nI j)), u10, u11, u12, u13]) rfl (Nat.le_of_ble_eq_true rfl) ?_
      refine mw_iinc i_91_16 (x := nI j) (v := nI (j + 1)) (ls' := [some (pR (some QW)), some (pR (some QV)), some (pR (some QC)), some (pR (some QK)), some (pR (some QM)), some (pI (nI (bs (oP σ) 6))), some (pI (nI 262143)), some (pI (nI 0)), some (pI (nI ((8 ^ j) * 8))), some (pI (nI (j + 1))), u10, u11, u12, u13]) rfl (nI_add _ _) rfl ?_
      refine mw_goto i_91_17 ?_
      rw [← Nat.pow_succ]
      exact ih (j + 1) _ _ _ _ (by omega) (by omega)
set_option maxRecDepth 20000 in
set_option maxHeartbeats 400000 in
theorem b_best {d b : Nat} {K : KM} {I : IM} {R : RM} {Q : QT} {n n0 : Nat} {σ : ST} (hd : 3 ≤ d) (hQ : KQ K) (hL : LR n σ I) (hV : IV n0 σ) (hmn : ¬ mn σ (dn σ) = 0) (hO : mO σ ≤ 4)  (q : Q (.inl (some (pI (nI (en (dW σ (bC σ (twn σ (dn σ)))) 6))))) K I R) : Mw d b N_L_best 0 [some (pR (some QW)), some (pR (some QV)), some (pR (some QC)), some (pR (some QK)), some (pR (some QM)), some (pI (nI (bs (oP σ) 6))), none, none, none, none, none, none, none, none] [] K I R Q := by
  obtain ⟨d9, rfl⟩ : ∃ d9, d = d9 + 1 := ⟨d - 1, by omega⟩
  refine mw_const i_91_0 (v := nI 262143) (by decide) ?_
  refine mw_istore i_91_1 (ls' := [some (pR (some QW)), some (pR (some QV)), some (pR (some QC)), some (pR (some QK)), some (pR (some QM)), some (pI (nI (bs (oP σ) 6))), some (pI (nI 262143)), none, none, none, none, none, none, none]) rfl (Nat.le_of_ble_eq_true rfl) ?_
  refine mw_const i_91_2 (v := nI 0) (by decide) ?_
  refine mw_istore i_91_3 (ls' := [some (pR (some QW)), some (pR (some QV)), some (pR (some QC)), some (pR (some QK)), some (pR (some QM)), some (pI (nI (bs (oP σ) 6))), some (pI (nI 262143)), some (pI (nI 0)), none, none, none, none, none, none]) rfl (Nat.le_of_ble_eq_true rfl) ?_
  refine mw_const i_91_4 (v := nI 1) (by decide) ?_
  refine mw_istore i_91_5 (ls' := [some (pR (some QW)), some (pR (some QV)), some (pR (some QC)), some (pR (some QK)), some (pR (some QM)), some (pI (nI (bs (oP σ) 6))), some (pI (nI 262143)), some (pI (nI 0)), some (pI (nI 1)), none, none, none, none, none]) rfl (Nat.le_of_ble_eq_true rfl) ?_
  refine mw_const i_91_6 (v := nI 0) (by decide) ?_
  refine mw_istore i_91_7 (ls' := [some (pR (some QW)), some (pR (some QV)), some (pR (some QC)), some (pR (some QK)), some (pR (some QM)), some (pI (nI (bs (oP σ) 6))), some (pI (nI 262143)), some (pI (nI 0)), some (pI (nI 1)), some (pI (nI 0)), none, none, none, none]) rfl (Nat.le_of_ble_eq_true rfl) ?_
  exact b_best_A (d := d9 + 1) (by omega) hQ hL hV hmn hO q (mO σ + 1) 0 _ _ _ _ (by omega) (by omega)
