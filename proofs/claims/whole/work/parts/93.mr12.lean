/-! the reference goes through all ways -/
theorem nW_le {σ : ST} (hO : mO σ ≤ 4) (h : pn σ ≤ 10) : nW σ ≤ 14641 := by
  have h1 : (pn σ + 1) ^ mO σ ≤ 11 ^ mO σ := Nat.pow_le_pow_left (by omega) _
  have h2 : 11 ^ mO σ ≤ 11 ^ 4 := Nat.pow_le_pow_right (by decide) hO
  have h3 : (11 : Nat) ^ 4 = 14641 := by decide
  unfold nW
  omega
theorem nz {p : Nat} (h : p ≤ 10) : ¬ nI (p + 1) = 0 := fun e => absurd (nI_inj (show nI (p + 1) = nI 0 from e) (by omega) (by omega)) (by omega)
/-- what stays while ways are tried -/
def RF (σ : ST) (I : IM) : Prop := mv I = σ ∧ I MO 27 = nI (mO σ) ∧ ∀ i, i < mO σ → I (MA 24) i = nI (Os σ i)
theorem RF_up {σ : ST} {I : IM} (h : RF σ I) {q j : Nat} {v : Int32} (hq : q = 25 ∨ q = 26) : RF σ (up2 I (MA q) j v) := by
  refine ⟨?_, ?_, fun i hi => ?_⟩
  · rcases hq with rfl | rfl
    · rw [mv_x (by decide)]; exact h.1
    · rw [mv_x (by decide)]; exact h.1
  · rw [up2_ne (by simp)]; exact h.2.1
  · rw [up2_ne (by rcases hq with rfl | rfl <;> simp)]; exact h.2.2 i hi
set_option maxRecDepth 20000 in
theorem m_ways_lp {d b : Nat} {K : KM} {I : IM} {R : RM} {Q : QT} {n0 : Nat} {σ : ST} (hM : MK K R) (hV : IV n0 σ) (hO : mO σ ≤ 4) (hRF : RF σ I)  (q : ∀ u4 u5 u6, Mw d b N_X6_mends 19 [some (pR (some MO)), some (pI (-1)), some (pI (nI (nW σ))), some (pI (nI (mO σ))), u4, u5, u6] [] K I R Q) : ∀ (n k : Nat) (u4 u5 u6 : Option PV), mO σ - k < n → k ≤ mO σ → Mw d b N_X6_mends 6 [some (pR (some MO)), some (pI (-1)), some (pI (nI ((pn σ + 1) ^ k))), some (pI (nI k)), u4, u5, u6] [] K I R Q := by
  intro n
  induction n with
  | zero => intro k u4 u5 u6 hn; exact absurd hn (Nat.not_lt_zero _)
  | succ n ih =>
    intro k u4 u5 u6 hn hi
    have hpp := hV.1.2
    have htt := hV.2.1.2
    have hdd := hV.2.2.1.2
    refine mw_iload i_103_6 (x := nI k) rfl ?_
    refine mw_aload i_103_7 (L := MO) rfl ?_
    refine mw_get i_103_8 (MK_o hM) (v := nI (mO σ)) hRF.2.1 ?_
    refine mw_ic i_103_9 (p := (mO σ) ≤ k) (nI_leI (by omega) (by omega)) (fun c1 => ?_) (fun c1 => ?_)
    · skip
      obtain rfl : k = mO σ := by omega
      exact q _ _ _
    · skip
      refine mw_iload i_103_10 (x := nI ((pn σ + 1) ^ k)) rfl ?_
      refine mw_aload i_103_11 (L := MO) rfl ?_
      refine mw_get i_103_12 (MK_o hM) (v := nI (pn σ)) ((rs hRF.1 (by decide)).trans hV.1.1) ?_
      refine mw_const i_103_13 (v := nI 1) (by decide) ?_
      refine mw_iadd i_103_14 (w := nI (pn σ + 1)) (nI_add _ _) ?_
      refine mw_imul i_103_15 (w := nI ((pn σ + 1) ^ (k + 1))) ((pk_mul _ _).trans (by rw [Nat.pow_succ])) ?_
      refine mw_istore i_103_16 (ls' := [some (pR (some MO)), some (pI (-1)), some (pI (nI ((pn σ + 1) ^ (k + 1)))), some (pI (nI k)), u4, u5, u6]) rfl (Nat.le_of_ble_eq_true rfl) ?_
      refine mw_iinc i_103_17 (x := nI k) (v := nI (k + 1)) (ls' := [some (pR (some MO)), some (pI (-1)), some (pI (nI ((pn σ + 1) ^ (k + 1)))), some (pI (nI (k + 1))), u4, u5, u6]) rfl (nI_add _ _) rfl ?_
      refine mw_goto i_103_18 ?_
      exact ih (k + 1) _ _ _ (by omega) (by omega)
set_option maxRecDepth 20000 in
set_option maxHeartbeats 400000 in
theorem m_dig_step {d b : Nat} {K : KM} {I : IM} {R : RM} {Q : QT} {n0 w l u : Nat} {σ : ST} {mo : Int32} {u6 : Option PV} (hM : MK K R) (hV : IV n0 σ) (hO : mO σ ≤ 4) (hRF : RF σ I) (hl : l < 20000) (hu : u < mO σ) (q : ∀ I' u6, I' = up2 I (MA 26) u (nI (tN σ (l % (pn σ + 1)))) → Mw d b N_X6_mends 31 [some (pR (some MO)), some (pI mo), some (pI (nI (nW σ))), some (pI (nI w)), some (pI (nI (l / (pn σ + 1)))), some (pI (nI u + Int32.ofInt (-1))), u6] [] K I' R Q) : Mw d b N_X6_mends 31 [some (pR (some MO)), some (pI mo), some (pI (nI (nW σ))), some (pI (nI w)), some (pI (nI l)), some (pI (nI u)), u6] [] K I R Q := by
  have hpp := hV.1.2
  have htt := hV.2.1.2
  have hdd := hV.2.2.1.2
  have hlm : l % (pn σ + 1) < pn σ + 1 := Nat.mod_lt _ (Nat.succ_pos _)
  refine mw_iload i_103_31 (x := nI u) rfl ?_
  refine mw_if i_103_32 (p := (nI u) < nI 0) Iff.rfl (fun c1 => ?_) (fun c1 => ?_)
  · skip
    exact absurd c1 (by rw [Int32.lt_iff_toInt_lt, nI_toInt (by omega), nI_toInt (by omega)]; omega)
  · skip
    refine mw_iload i_103_33 (x := nI l) rfl ?_
    refine mw_aload i_103_34 (L := MO) rfl ?_
    refine mw_get i_103_35 (MK_o hM) (v := nI (pn σ)) ((rs hRF.1 (by decide)).trans hV.1.1) ?_
    refine mw_const i_103_36 (v := nI 1) (by decide) ?_
    refine mw_iadd i_103_37 (w := nI (pn σ + 1)) (nI_add _ _) ?_
    refine mw_irem i_103_38 (nz hpp) (w := nI (l % (pn σ + 1))) (pk_rem (by omega) (by omega) (by omega)) ?_
    refine mw_istore i_103_39 (ls' := [some (pR (some MO)), some (pI mo), some (pI (nI (nW σ))), some (pI (nI w)), some (pI (nI l)), some (pI (nI u)), some (pI (nI (l % (pn σ + 1))))]) rfl (Nat.le_of_ble_eq_true rfl) ?_
    refine mw_aload i_103_40 (L := MO) rfl ?_
    refine mw_getR i_103_41 (MK_o hM) (q := some (MA 26)) (MK_r hM 26 (by decide)) ?_
    refine mw_iload i_103_42 (x := nI u) rfl ?_
    refine mw_iload i_103_43 (x := nI (l % (pn σ + 1))) rfl ?_
    refine mw_aload i_103_44 (L := MO) rfl ?_
    refine mw_get i_103_45 (MK_o hM) (v := nI (pn σ)) ((rs hRF.1 (by decide)).trans hV.1.1) ?_
    refine mw_ic i_103_46 (p := ¬ (l % (pn σ + 1)) = (pn σ)) (not_congr (nI_eq (by omega) (by omega))) (fun c2 => ?_) (fun c2 => ?_)
    · skip
      refine mw_iload i_103_49 (x := nI (l % (pn σ + 1))) rfl ?_
      obtain ⟨I23, e23⟩ : ∃ I23, I23 = up2 I (MA 26) u (nI (l % (pn σ + 1))) := ⟨_, rfl⟩
      refine mw_iast i_103_50 (jn := u) (n := 4) (by omega) (by omega) (x := nI (l % (pn σ + 1))) (show K (MA 26) = some (7, 4) from MK_k hM 26 (by decide)) (I' := I23) e23.symm ?_
      refine mw_iload i_103_51 (x := nI l) rfl ?_
      refine mw_aload i_103_52 (L := MO) rfl ?_
      refine mw_get i_103_53 (MK_o hM) (v := nI (pn σ)) (by rw [e23, up2_ne (by simp)]; exact ((rs hRF.1 (by decide)).trans hV.1.1)) ?_
      refine mw_const i_103_54 (v := nI 1) (by decide) ?_
      refine mw_iadd i_103_55 (w := nI (pn σ + 1)) (nI_add _ _) ?_
      refine mw_idiv i_103_56 (nz hpp) (w := nI (l / (pn σ + 1))) (pk_div (by omega) (by omega) (by omega)) ?_
      refine mw_istore i_103_57 (ls' := [some (pR (some MO)), some (pI mo), some (pI (nI (nW σ))), some (pI (nI w)), some (pI (nI (l / (pn σ + 1)))), some (pI (nI u)), some (pI (nI (l % (pn σ + 1))))]) rfl (Nat.le_of_ble_eq_true rfl) ?_
      refine mw_iinc i_103_58 (x := nI u) (v := nI u + Int32.ofInt (-1)) (ls' := [some (pR (some MO)), some (pI mo), some (pI (nI (nW σ))), some (pI (nI w)), some (pI (nI (l / (pn σ + 1)))), some (pI (nI u + Int32.ofInt (-1))), some (pI (nI (l % (pn σ + 1))))]) rfl rfl rfl ?_
      refine mw_goto i_103_59 ?_
      exact q I23 _ (by rw [show nI (tN σ (l % (pn σ + 1))) = nI (l % (pn σ + 1)) from by rw [show tN σ (l % (pn σ + 1)) = l % (pn σ + 1) from if_neg c2]]; exact e23)
    · skip
      refine mw_const i_103_47 (v := nI 10) (by decide) ?_
      refine mw_goto i_103_48 ?_
      obtain ⟨I24, e24⟩ : ∃ I24, I24 = up2 I (MA 26) u (nI 10) := ⟨_, rfl⟩
      refine mw_iast i_103_50 (jn := u) (n := 4) (by omega) (by omega) (x := nI 10) (show K (MA 26) = some (7, 4) from MK_k hM 26 (by decide)) (I' := I24) e24.symm ?_
      refine mw_iload i_103_51 (x := nI l) rfl ?_
      refine mw_aload i_103_52 (L := MO) rfl ?_
      refine mw_get i_103_53 (MK_o hM) (v := nI (pn σ)) (by rw [e24, up2_ne (by simp)]; exact ((rs hRF.1 (by decide)).trans hV.1.1)) ?_
      refine mw_const i_103_54 (v := nI 1) (by decide) ?_
      refine mw_iadd i_103_55 (w := nI (pn σ + 1)) (nI_add _ _) ?_
      refine mw_idiv i_103_56 (nz hpp) (w := nI (l / (pn σ + 1))) (pk_div (by omega) (by omega) (by omega)) ?_
      refine mw_istore i_103_57 (ls' := [some (pR (some MO)), some (pI mo), some (pI (nI (nW σ))), some (pI (nI w)), some (pI (nI (l / (pn σ + 1)))), some (pI (nI u)), some (pI (nI (l % (pn σ + 1))))]) rfl (Nat.le_of_ble_eq_true rfl) ?_
      refine mw_iinc i_103_58 (x := nI u) (v := nI u + Int32.ofInt (-1)) (ls' := [some (pR (some MO)), some (pI mo), some (pI (nI (nW σ))), some (pI (nI w)), some (pI (nI (l / (pn σ + 1)))), some (pI (nI u + Int32.ofInt (-1))), some (pI (nI (l % (pn σ + 1))))]) rfl rfl rfl ?_
      refine mw_goto i_103_59 ?_
      exact q I24 _ (by rw [show nI (tN σ (l % (pn σ + 1))) = nI 10 from by rw [show tN σ (l % (pn σ + 1)) = 10 from if_pos (Classical.not_not.mp c2)]]; exact e24)
set_option maxRecDepth 20000 in
set_option maxHeartbeats 400000 in
theorem m_dig_end {d b : Nat} {K : KM} {I : IM} {R : RM} {Q : QT} {w l : Nat} {σ : ST} {mo : Int32} {u6 : Option PV}  (q : Mw d b N_X6_mends 60 [some (pR (some MO)), some (pI mo), some (pI (nI (nW σ))), some (pI (nI w)), some (pI (nI l)), some (pI (-1)), u6] [] K I R Q) : Mw d b N_X6_mends 31 [some (pR (some MO)), some (pI mo), some (pI (nI (nW σ))), some (pI (nI w)), some (pI (nI l)), some (pI (-1)), u6] [] K I R Q := by
  refine mw_iload i_103_31 (x := (-1)) rfl ?_
  refine mw_if i_103_32 (p := (-1) < nI 0) Iff.rfl (fun c1 => ?_) (fun c1 => ?_)
  · skip
    exact q
  · skip
    exact absurd (show (-1 : Int32) < nI 0 by decide) c1
theorem m_digs {d b : Nat} {K : KM} {R : RM} {Q : QT} {n0 w : Nat} {σ : ST} {mo : Int32} {I0 : IM} (hM : MK K R) (hV : IV n0 σ) (hO : mO σ ≤ 4) (hw : w < 20000) (q : ∀ I' u4 u5 u6, FrA I0 I' → RF σ I' → I' (MA 25) = I0 (MA 25) → (∀ j, j < mO σ → I' (MA 26) j = nI (tN σ (dig (pn σ) (mO σ) w j))) → Mw d b N_X6_mends 60 [some (pR (some MO)), some (pI mo), some (pI (nI (nW σ))), some (pI (nI w)), u4, u5, u6] [] K I' R Q) : ∀ u, u ≤ mO σ → ∀ (I : IM) (l : Nat) (u6 : Option PV), FrA I0 I → RF σ I → I (MA 25) = I0 (MA 25) → l = w / (pn σ + 1) ^ (mO σ - u) → (∀ j, u ≤ j → j < mO σ → I (MA 26) j = nI (tN σ (dig (pn σ) (mO σ) w j))) → Mw d b N_X6_mends 31 [some (pR (some MO)), some (pI mo), some (pI (nI (nW σ))), some (pI (nI w)), some (pI (nI l)), some (pI (imu u)), u6] [] K I R Q := by
  intro u
  induction u with
  | zero =>
    intro _ I l u6 hF hRF h25 hl h26
    exact m_dig_end (q I _ _ _ hF hRF h25 (fun j hj => h26 j (Nat.zero_le _) hj))
  | succ u ih =>
    intro hu I l u6 hF hRF h25 hl h26
    have hlw : l ≤ w := by rw [hl]; exact Nat.div_le_self _ _
    refine m_dig_step hM hV hO hRF (by omega) (by omega) (fun I' v6 eI => ?_)
    rw [imu_dn (by omega)]
    refine ih (by omega) I' _ v6 (FrA_tr hF (by rw [eI]; exact FrA_up FrA_rfl rfl)) (by rw [eI]; exact RF_up hRF (Or.inr rfl)) (by rw [eI, up2_ne (by simp)]; exact h25) ?_ (fun j h1 h2 => ?_)
    · rw [hl, Nat.div_div_eq_div_mul, ← Nat.pow_succ, show (mO σ - (u + 1)).succ = mO σ - u by omega]
    · rw [eI, up2_at]
      by_cases e : j = u
      · rw [e, upd_at, hl]
        unfold dig
        rw [show mO σ - 1 - u = mO σ - (u + 1) by omega]
      · rw [upd_ne e]; exact h26 j (by omega) h2
set_option maxRecDepth 20000 in
set_option maxHeartbeats 400000 in
theorem m_cpy_lp {d : Nat} {b : Nat} {K : KM} {R : RM} {Q : QT} {n0 w : Nat} {σ : ST} {mo : Int32} {I0 : IM} {u4 u5 : Option PV} (hM : MK K R) (hV : IV n0 σ) (hO : mO σ ≤ 4)  (q : ∀ I' u6, RF σ I' → FrA I0 I' → (∀ j, j < mO σ → I' (MA 25) j = nI (tN σ (dig (pn σ) (mO σ) w j))) → Mw d b N_X6_mends 84 [some (pR (some MO)), some (pI mo), some (pI (nI (nW σ))), some (pI (nI w)), u4, u5, u6] [] K I' R Q) : ∀ (n k : Nat) (I : IM), mO σ - k < n → k ≤ mO σ → (RF σ I) → (FrA I0 I) → (∀ j, j < mO σ → I (MA 26) j = nI (tN σ (dig (pn σ) (mO σ) w j))) → (∀ j, j < k → I (MA 25) j = nI (tN σ (dig (pn σ) (mO σ) w j))) → Mw d b N_X6_mends 70 [some (pR (some MO)), some (pI mo), some (pI (nI (nW σ))), some (pI (nI w)), u4, u5, some (pI (nI k))] [] K I R Q := by
  intro n
  induction n with
  | zero => intro k I  hn; exact absurd hn (Nat.not_lt_zero _)
  | succ n ih =>
    intro k I  hn hi hRF hF h26 hb
    refine mw_iload i_103_70 (x := nI k) rfl ?_
    refine mw_aload i_103_71 (L := MO) rfl ?_
    refine mw_get i_103_72 (MK_o hM) (v := nI (mO σ)) hRF.2.1 ?_
    refine mw_ic i_103_73 (p := (mO σ) ≤ k) (nI_leI (by omega) (by omega)) (fun c1 => ?_) (fun c1 => ?_)
    · skip
      obtain rfl : k = mO σ := by omega
      exact q I _ hRF hF hb
    · skip
      refine mw_aload i_103_74 (L := MO) rfl ?_
      refine mw_getR i_103_75 (MK_o hM) (q := some (MA 25)) (MK_r hM 25 (by decide)) ?_
      refine mw_iload i_103_76 (x := nI k) rfl ?_
      refine mw_aload i_103_77 (L := MO) rfl ?_
      refine mw_getR i_103_78 (MK_o hM) (q := some (MA 26)) (MK_r hM 26 (by decide)) ?_
      refine mw_iload i_103_79 (x := nI k) rfl ?_
      refine mw_iald i_103_80 (jn := k) (n := 4) (by omega) (by omega) (show K (MA 26) = some (7, 4) from MK_k hM 26 (by decide)) (by decide) (v := nI (tN σ (dig (pn σ) (mO σ) w k))) (h26 k (by omega)) ?_
      obtain ⟨I22, e22⟩ : ∃ I22, I22 = up2 I (MA 25) k (nI (tN σ (dig (pn σ) (mO σ) w k))) := ⟨_, rfl⟩
      refine mw_iast i_103_81 (jn := k) (n := 4) (by omega) (by omega) (x := nI (tN σ (dig (pn σ) (mO σ) w k))) (show K (MA 25) = some (7, 4) from MK_k hM 25 (by decide)) (I' := I22) e22.symm ?_
      refine mw_iinc i_103_82 (x := nI k) (v := nI (k + 1)) (ls' := [some (pR (some MO)), some (pI mo), some (pI (nI (nW σ))), some (pI (nI w)), u4, u5, some (pI (nI (k + 1)))]) rfl (nI_add _ _) rfl ?_
      refine mw_goto i_103_83 ?_
      exact ih (k + 1) I22 (by omega) (by omega) (by rw [e22]; exact RF_up hRF (Or.inl rfl)) (FrA_tr hF ((e22.symm ▸ FrA_up (FrA_rfl) rfl))) (fun j hj => by rw [e22, up2_ne (by simp)]; exact h26 j hj) (fun j hj => by
        rw [e22, up2_at]
        by_cases e9 : j = k
        · rw [e9, upd_at]
        · rw [upd_ne e9]; exact hb j (by omega))
set_option maxRecDepth 20000 in
set_option maxHeartbeats 400000 in
theorem m_w84 {d b : Nat} {K : KM} {I : IM} {R : RM} {Q : QT} {w : Nat} {σ : ST} {mo : Int32} {u4 u5 u6 : Option PV}  (q : Mw d b N_X6_mends 21 [some (pR (some MO)), some (pI mo), some (pI (nI (nW σ))), some (pI (nI (w + 1))), u4, u5, u6] [] K I R Q) : Mw d b N_X6_mends 84 [some (pR (some MO)), some (pI mo), some (pI (nI (nW σ))), some (pI (nI w)), u4, u5, u6] [] K I R Q := by
  refine mw_iinc i_103_84 (x := nI w) (v := nI (w + 1)) (ls' := [some (pR (some MO)), some (pI mo), some (pI (nI (nW σ))), some (pI (nI (w + 1))), u4, u5, u6]) rfl (nI_add _ _) rfl ?_
  refine mw_goto i_103_85 ?_
  exact q
set_option maxRecDepth 20000 in
set_option maxHeartbeats 400000 in
theorem m_w60 {d b : Nat} {K : KM} {I : IM} {R : RM} {Q : QT} {n0 w tw : Nat} {σ : ST} {u4 u5 u6 : Option PV} (hd : 3 ≤ d) (hM : MK K R) (hV : IV n0 σ) (hO : mO σ ≤ 4) (htw0 : σ 21 (dn σ) = nI tw) (htw4 : tw < 4) (hRF : RF σ I) (h26 : ∀ j, j < mO σ → I (MA 26) j = nI (tN σ (dig (pn σ) (mO σ) w j))) (qn : Wb (Vw σ tw) (w + 1) = Wb (Vw σ tw) w → ∀ u4 u5 u6, Mw d b N_X6_mends 21 [some (pR (some MO)), some (pI (Wb (Vw σ tw) w).1), some (pI (nI (nW σ))), some (pI (nI (w + 1))), u4, u5, u6] [] K I R Q) (qy : Wb (Vw σ tw) (w + 1) = (Vw σ tw w, w) → ∀ I' u4 u5 u6, RF σ I' → FrA I I' → (∀ j, j < mO σ → I' (MA 25) j = nI (tN σ (dig (pn σ) (mO σ) w j))) → Mw d b N_X6_mends 21 [some (pR (some MO)), some (pI (Vw σ tw w)), some (pI (nI (nW σ))), some (pI (nI (w + 1))), u4, u5, u6] [] K I' R Q) : Mw d b N_X6_mends 60 [some (pR (some MO)), some (pI ((Wb (Vw σ tw) w).1)), some (pI (nI (nW σ))), some (pI (nI w)), u4, u5, u6] [] K I R Q := by
  obtain ⟨d9, rfl⟩ : ∃ d9, d = d9 + 1 := ⟨d - 1, by omega⟩
  have hpp := hV.1.2
  have htt := hV.2.1.2
  have hdd := hV.2.2.1.2
  refine mw_aload i_103_60 (L := MO) rfl ?_
  refine mw_callV i_103_61 mf_102 (as := []) (rest := []) (d' := d9) (b' := b) (ls0 := [some (pR (some MO)), none, none, none, none, none, none, none, none, none]) rfl rfl rfl (Nat.le_of_ble_eq_true rfl) (MK_o hM) rfl rfl rfl ?_
  refine m_sumOf (c := dig (pn σ) (mO σ) w) (by omega) hM hRF.1 hV hO hRF.2.1 hRF.2.2 h26 (fun _ _ => dig_le) htw0 htw4 ?_
  refine aft_v ?_
  refine mw_istore i_103_62 (ls' := [some (pR (some MO)), some (pI ((Wb (Vw σ tw) w).1)), some (pI (nI (nW σ))), some (pI (nI w)), u4, some (pI (Vv σ tw (dig (pn σ) (mO σ) w))), u6]) rfl (Nat.le_of_ble_eq_true rfl) ?_
  refine mw_iload i_103_63 (x := Vv σ tw (dig (pn σ) (mO σ) w)) rfl ?_
  refine mw_iload i_103_64 (x := (Wb (Vw σ tw) w).1) rfl ?_
  refine mw_ic i_103_65 (p := (Vv σ tw (dig (pn σ) (mO σ) w)) ≤ ((Wb (Vw σ tw) w).1)) Iff.rfl (fun c1 => ?_) (fun c1 => ?_)
  · skip
    exact m_w84 (qn (by rw [Wb_s, Vw_v, if_neg (Int32.not_lt.mpr c1)]) _ _ _)
  · skip
    refine mw_iload i_103_66 (x := Vv σ tw (dig (pn σ) (mO σ) w)) rfl ?_
    refine mw_istore i_103_67 (ls' := [some (pR (some MO)), some (pI (Vv σ tw (dig (pn σ) (mO σ) w))), some (pI (nI (nW σ))), some (pI (nI w)), u4, some (pI (Vv σ tw (dig (pn σ) (mO σ) w))), u6]) rfl (Nat.le_of_ble_eq_true rfl) ?_
    refine mw_const i_103_68 (v := nI 0) (by decide) ?_
    refine mw_istore i_103_69 (ls' := [some (pR (some MO)), some (pI (Vv σ tw (dig (pn σ) (mO σ) w))), some (pI (nI (nW σ))), some (pI (nI w)), u4, some (pI (Vv σ tw (dig (pn σ) (mO σ) w))), some (pI (nI 0))]) rfl (Nat.le_of_ble_eq_true rfl) ?_
    exact m_cpy_lp (I0 := I) hM hV hO (fun I8 v6 hRF8 hF8 hb8 => m_w84 (qy (by rw [Wb_s, Vw_v, if_pos (Int32.not_le.mp c1)]) I8 _ _ v6 hRF8 hF8 hb8)) (mO σ + 1) 0 I (by omega) (by omega) hRF FrA_rfl h26 (fun j hj => absurd hj (Nat.not_lt_zero _))
set_option maxRecDepth 20000 in
set_option maxHeartbeats 400000 in
theorem m_mends_lp {d : Nat} {b : Nat} {K : KM} {R : RM} {Q : QT} {n0 tw : Nat} {σ : ST} {I0 : IM} (hd : 4 ≤ d) (hM : MK K R) (hV : IV n0 σ) (hO : mO σ ≤ 4) (htw0 : σ 21 (dn σ) = nI tw) (htw4 : tw < 4)  (q : ∀ I', RF σ I' → FrA I0 I' → (∀ j, j < mO σ → I' (MA 25) j = nI (tN σ (bC σ tw j))) → Q (.inl (some (pI (bS σ tw)))) K I' R) : ∀ (n w : Nat) (I : IM) (u4 u5 u6 : Option PV), nW σ - w < n → w ≤ nW σ → (RF σ I) → (FrA I0 I) → ((Wb (Vw σ tw) w).1 ≠ (-1) → ∀ j, j < mO σ → I (MA 25) j = nI (tN σ (dig (pn σ) (mO σ) (Wb (Vw σ tw) w).2 j))) → Mw d b N_X6_mends 21 [some (pR (some MO)), some (pI ((Wb (Vw σ tw) w).1)), some (pI (nI (nW σ))), some (pI (nI w)), u4, u5, u6] [] K I R Q := by
  obtain ⟨d9, rfl⟩ : ∃ d9, d = d9 + 1 := ⟨d - 1, by omega⟩
  intro n
  induction n with
  | zero => intro w I u4 u5 u6 hn; exact absurd hn (Nat.not_lt_zero _)
  | succ n ih =>
    intro w I u4 u5 u6 hn hi hRF hF hb
    have hpp := hV.1.2
    have htt := hV.2.1.2
    have hdd := hV.2.2.1.2
    have hnw := nW_le hO hpp
    refine mw_iload i_103_21 (x := nI w) rfl ?_
    refine mw_iload i_103_22 (x := nI (nW σ)) rfl ?_
    refine mw_ic i_103_23 (p := (nW σ) ≤ w) (nI_leI (by omega) (by omega)) (fun c1 => ?_) (fun c1 => ?_)
    · skip
      refine mw_iload i_103_86 (x := (Wb (Vw σ tw) w).1) rfl ?_
      refine mw_iretI i_103_87 (x := (Wb (Vw σ tw) w).1) rt_103 ?_
      obtain rfl : w = nW σ := by omega
      exact q I hRF hF (hb bS_ne)
    · skip
      refine mw_iload i_103_24 (x := nI w) rfl ?_
      refine mw_istore i_103_25 (ls' := [some (pR (some MO)), some (pI ((Wb (Vw σ tw) w).1)), some (pI (nI (nW σ))), some (pI (nI w)), some (pI (nI w)), u5, u6]) rfl (Nat.le_of_ble_eq_true rfl) ?_
      refine mw_aload i_103_26 (L := MO) rfl ?_
      refine mw_get i_103_27 (MK_o hM) (v := nI (mO σ)) hRF.2.1 ?_
      refine mw_const i_103_28 (v := nI 1) (by decide) ?_
      refine mw_isub i_103_29 (w := imu (mO σ)) (imu_sub (by omega)) ?_
      refine mw_istore i_103_30 (ls' := [some (pR (some MO)), some (pI ((Wb (Vw σ tw) w).1)), some (pI (nI (nW σ))), some (pI (nI w)), some (pI (nI w)), some (pI (imu (mO σ))), u6]) rfl (Nat.le_of_ble_eq_true rfl) ?_
      refine m_digs (I0 := I) hM hV hO (by omega) (fun I9 v4 v5 v6 hF9 hRF9 h259 h269 => m_w60 (by omega) hM hV hO htw0 htw4 hRF9 h269 (fun e u4 u5 u6 => ?_) (fun e I8 u4 u5 u6 hRF8 hF8 hb8 => ?_)) (mO σ) (Nat.le_refl _) I w _ FrA_rfl hRF rfl (by rw [Nat.sub_self, Nat.pow_zero, Nat.div_one]) (fun j h1 h2 => absurd h1 (by omega))
      · rw [← e]
        exact ih (w + 1) I9 u4 u5 u6 (by omega) (by omega) hRF9 (FrA_tr hF hF9) (by rw [e, h259]; exact hb)
      · have e1 : Vw σ tw w = (Wb (Vw σ tw) (w + 1)).1 := by rw [e]
        rw [e1]
        exact ih (w + 1) I8 u4 u5 u6 (by omega) (by omega) hRF8 (FrA_tr hF (FrA_tr hF9 hF8)) (by rw [e]; exact fun _ => hb8)
set_option maxRecDepth 20000 in
set_option maxHeartbeats 400000 in
theorem m_mends20 {d b : Nat} {K : KM} {I : IM} {R : RM} {Q : QT} {n0 tw k : Nat} {σ : ST} {u4 u5 u6 : Option PV} (hd : 4 ≤ d) (hM : MK K R) (hV : IV n0 σ) (hO : mO σ ≤ 4) (htw0 : σ 21 (dn σ) = nI tw) (htw4 : tw < 4) (hRF : RF σ I) (q : ∀ I', RF σ I' → FrA I I' → (∀ j, j < mO σ → I' (MA 25) j = nI (tN σ (bC σ tw j))) → Q (.inl (some (pI (bS σ tw)))) K I' R) : Mw d b N_X6_mends 19 [some (pR (some MO)), some (pI (-1)), some (pI (nI (nW σ))), some (pI (nI k)), u4, u5, u6] [] K I R Q := by
  obtain ⟨d9, rfl⟩ : ∃ d9, d = d9 + 1 := ⟨d - 1, by omega⟩
  refine mw_const i_103_19 (v := nI 0) (by decide) ?_
  refine mw_istore i_103_20 (ls' := [some (pR (some MO)), some (pI (-1)), some (pI (nI (nW σ))), some (pI (nI 0)), u4, u5, u6]) rfl (Nat.le_of_ble_eq_true rfl) ?_
  exact m_mends_lp (I0 := I) (by omega) hM hV hO htw0 htw4 q (nW σ + 1) 0 I _ _ _ (by omega) (by omega) hRF FrA_rfl (fun h => absurd rfl h)
set_option maxRecDepth 20000 in
set_option maxHeartbeats 400000 in
theorem m_mends {d b : Nat} {K : KM} {I : IM} {R : RM} {Q : QT} {n0 tw : Nat} {σ : ST} (hd : 4 ≤ d) (hM : MK K R) (hV : IV n0 σ) (hO : mO σ ≤ 4) (htw0 : σ 21 (dn σ) = nI tw) (htw4 : tw < 4) (hRF : RF σ I) (q : ∀ I', RF σ I' → FrA I I' → (∀ j, j < mO σ → I' (MA 25) j = nI (tN σ (bC σ tw j))) → Q (.inl (some (pI (bS σ tw)))) K I' R) : Mw d b N_X6_mends 0 [some (pR (some MO)), none, none, none, none, none, none] [] K I R Q := by
  obtain ⟨d9, rfl⟩ : ∃ d9, d = d9 + 1 := ⟨d - 1, by omega⟩
  refine mw_const i_103_0 (v := (-1)) (by decide) ?_
  refine mw_istore i_103_1 (ls' := [some (pR (some MO)), some (pI (-1)), none, none, none, none, none]) rfl (Nat.le_of_ble_eq_true rfl) ?_
  refine mw_const i_103_2 (v := nI 1) (by decide) ?_
  refine mw_istore i_103_3 (ls' := [some (pR (some MO)), some (pI (-1)), some (pI (nI 1)), none, none, none, none]) rfl (Nat.le_of_ble_eq_true rfl) ?_
  refine mw_const i_103_4 (v := nI 0) (by decide) ?_
  refine mw_istore i_103_5 (ls' := [some (pR (some MO)), some (pI (-1)), some (pI (nI 1)), some (pI (nI 0)), none, none, none]) rfl (Nat.le_of_ble_eq_true rfl) ?_
  exact m_ways_lp hM hV hO hRF (fun u4 u5 u6 => m_mends20 (by omega) hM hV hO htw0 htw4 hRF q) (mO σ + 1) 0 _ _ _ (by omega) (by omega)
set_option maxRecDepth 20000 in
set_option maxHeartbeats 400000 in
theorem m_isMend {d b : Nat} {K : KM} {I : IM} {R : RM} {Q : QT} {n0 : Nat} {σ : ST} (hd : 2 ≤ d) (hM : MK K R) (hm : mv I = σ) (hV : IV n0 σ)  (q : ∀ I', FrM I I' → mv I' = σ → (mOK σ → RF σ I') → Q (.inl (some (pI (bI (mOK σ))))) K I' R) : Mw d b N_X6_isMendable 0 [some (pR (some MO))] [] K I R Q := by
  obtain ⟨d9, rfl⟩ : ∃ d9, d = d9 + 1 := ⟨d - 1, by omega⟩
  have hpp := hV.1.2
  have htt := hV.2.1.2
  have hdd := hV.2.2.1.2
  have h6 := (hV.2.2.2.2.2.1 (dn σ) (by omega)).2.1
  have hck : cnt (opn σ) (2 * mn σ (dn σ)) ≤ 2 * mn σ (dn σ) := cnt_le _ _
  have hck2 : mO σ ≤ 12 := by unfold mO; omega
  refine mw_aload i_104_0 (L := MO) rfl ?_
  refine mw_getR i_104_1 (MK_o hM) (q := some (MA 20)) (MK_r hM 20 (by decide)) ?_
  refine mw_aload i_104_2 (L := MO) rfl ?_
  refine mw_get i_104_3 (MK_o hM) (v := nI (dn σ)) ((rs hm (by decide)).trans hV.2.2.1.1) ?_
  refine mw_iald i_104_4 (jn := dn σ) (n := 1000) (by omega) (by omega) (show K (MA 20) = some (7, 1000) from MK_k hM 20 (by decide)) (by decide) (v := nI (mn σ (dn σ))) ((rm hm (by decide) (dn σ)).trans (hV.2.2.2.2.2.1 (dn σ) (by omega)).1) ?_
  refine mw_if i_104_5 (p := (nI (mn σ (dn σ))) ≤ nI 0) Iff.rfl (fun c1 => ?_) (fun c1 => ?_)
  · skip
    refine mw_const i_104_18 (v := nI 0) (by decide) ?_
    refine mw_iret i_104_19 (x := nI 0) (fun _ => (by decide)) ?_
    rw [show nI 0 = bI (mOK σ) from (bI_f (fun h => h.1 (by have h9 := Int32.le_iff_toInt_le.mp c1; rw [nI_toInt (by omega), nI_toInt (by omega)] at h9; omega))).symm]
    exact q I FrM_rfl hm (fun h => absurd h (by first | exact fun h => c1 h.2.1 | exact fun h => h.1 (by have h9 := Int32.le_iff_toInt_le.mp c1; rw [nI_toInt (by omega), nI_toInt (by omega)] at h9; omega)))
  · skip
    refine mw_aload i_104_6 (L := MO) rfl ?_
    refine mw_getR i_104_7 (MK_o hM) (q := some (MA 22)) (MK_r hM 22 (by decide)) ?_
    refine mw_aload i_104_8 (L := MO) rfl ?_
    refine mw_get i_104_9 (MK_o hM) (v := nI (dn σ)) ((rs hm (by decide)).trans hV.2.2.1.1) ?_
    refine mw_bald i_104_10 (jn := dn σ) (n := 1000) (by omega) (by omega) (show K (MA 22) = some (8, 1000) from MK_k hM 22 (by decide)) (v := σ 22 (dn σ)) (rm hm (by decide) (dn σ)) ?_
    refine mw_if i_104_11 (p := ¬ (σ 22 (dn σ)) = nI 0) Iff.rfl (fun c2 => ?_) (fun c2 => ?_)
    · skip
      refine mw_const i_104_18 (v := nI 0) (by decide) ?_
      refine mw_iret i_104_19 (x := nI 0) (fun _ => (by decide)) ?_
      rw [show nI 0 = bI (mOK σ) from (bI_f (fun h => c2 h.2.1)).symm]
      exact q I FrM_rfl hm (fun h => absurd h (by first | exact fun h => c2 h.2.1 | exact fun h => h.1 (by have h9 := Int32.le_iff_toInt_le.mp c1; rw [nI_toInt (by omega), nI_toInt (by omega)] at h9; omega)))
    · skip
      refine mw_aload i_104_12 (L := MO) rfl ?_
      refine mw_callV i_104_13 mf_100 (as := []) (rest := []) (d' := d9) (b' := b) (ls0 := [some (pR (some MO)), none]) rfl rfl rfl (Nat.le_of_ble_eq_true rfl) (MK_o hM) rfl rfl rfl ?_
      refine m_finds (by omega) hM hm hV (fun I9 hF9 hm9 h289 h279 hop9 => ?_)
      refine aft_v ?_
      refine mw_const i_104_14 (v := nI 4) (by decide) ?_
      refine mw_ic i_104_15 (p := 4 < (mO σ)) (nI_ltI (by omega) (by omega)) (fun c3 => ?_) (fun c3 => ?_)
      · skip
        refine mw_const i_104_18 (v := nI 0) (by decide) ?_
        refine mw_iret i_104_19 (x := nI 0) (fun _ => (by decide)) ?_
        rw [show nI 0 = bI (mOK σ) from (bI_f (fun h => absurd h.2.2 (by unfold mO at *; omega))).symm]
        exact q I9 hF9 hm9 (fun h => ⟨hm9, h279, fun i hi => hop9 i hi (by have := h.2.2; unfold mO at hi; omega)⟩)
      · skip
        refine mw_const i_104_16 (v := nI 1) (by decide) ?_
        refine mw_goto i_104_17 ?_
        refine mw_iret i_104_19 (x := nI 1) (fun _ => (by decide)) ?_
        rw [show nI 1 = bI (mOK σ) from (bI_t ⟨fun h => absurd c1 (by rw [h]; decide), Classical.not_not.mp c2, by unfold mO at *; omega⟩).symm]
        exact q I9 hF9 hm9 (fun h => ⟨hm9, h279, fun i hi => hop9 i hi (by have := h.2.2; unfold mO at hi; omega)⟩)
