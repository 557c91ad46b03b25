/-! the reference: small methods -/
theorem nlt {a b : Int32} (h : ¬ a < b) : b ≤ a := Int32.not_lt.mp h
theorem nle {a b : Int32} (h : ¬ a ≤ b) : b < a := Int32.not_le.mp h
theorem ltn {a b : Int32} (h : a < b) : ¬ b ≤ a := Int32.not_le.mpr h
set_option maxRecDepth 20000 in
theorem m_in {d b : Nat} {K : KM} {I : IM} {R : RM} {Q : QT} {v lo hi : Int32}  (q : Q (.inl (some (pI (bI (inr v lo hi))))) K I R) : Mw d b N_X6_in 0 [some (pI v), some (pI lo), some (pI hi)] [] K I R Q := by
  refine mw_iload i_75_0 (x := v) rfl ?_
  refine mw_iload i_75_1 (x := lo) rfl ?_
  refine mw_ic i_75_2 (p := v < lo) Iff.rfl (fun c1 => ?_) (fun c1 => ?_)
  · skip
    refine mw_const i_75_8 (v := nI 0) (by decide) ?_
    refine mw_iret i_75_9 (x := nI 0) (fun _ => (by decide)) ?_
    rw [show nI 0 = bI (inr v lo hi) from (bI_f (fun h => ltn c1 h.1)).symm]
    exact q
  · skip
    refine mw_iload i_75_3 (x := v) rfl ?_
    refine mw_iload i_75_4 (x := hi) rfl ?_
    refine mw_ic i_75_5 (p := hi < v) Iff.rfl (fun c2 => ?_) (fun c2 => ?_)
    · skip
      refine mw_const i_75_8 (v := nI 0) (by decide) ?_
      refine mw_iret i_75_9 (x := nI 0) (fun _ => (by decide)) ?_
      rw [show nI 0 = bI (inr v lo hi) from (bI_f (fun h => ltn c2 h.2)).symm]
      exact q
    · skip
      refine mw_const i_75_6 (v := nI 1) (by decide) ?_
      refine mw_goto i_75_7 ?_
      refine mw_iret i_75_9 (x := nI 1) (fun _ => (by decide)) ?_
      rw [show nI 1 = bI (inr v lo hi) from (bI_t (⟨nlt c1, nlt c2⟩)).symm]
      exact q
set_option maxRecDepth 20000 in
theorem k_within {d b : Nat} {K : KM} {I : IM} {R : RM} {Q : QT} {v lo hi : Int32}  (q : Q (.inl (some (pI (bI (inr v lo hi))))) K I R) : Mw d b N_X5_isWithin 0 [some (pI v), some (pI lo), some (pI hi)] [] K I R Q := by
  refine mw_iload i_59_0 (x := v) rfl ?_
  refine mw_iload i_59_1 (x := lo) rfl ?_
  refine mw_ic i_59_2 (p := v < lo) Iff.rfl (fun c1 => ?_) (fun c1 => ?_)
  · skip
    refine mw_const i_59_8 (v := nI 0) (by decide) ?_
    refine mw_iret i_59_9 (x := nI 0) (fun _ => (by decide)) ?_
    rw [show nI 0 = bI (inr v lo hi) from (bI_f (fun h => ltn c1 h.1)).symm]
    exact q
  · skip
    refine mw_iload i_59_3 (x := v) rfl ?_
    refine mw_iload i_59_4 (x := hi) rfl ?_
    refine mw_ic i_59_5 (p := hi < v) Iff.rfl (fun c2 => ?_) (fun c2 => ?_)
    · skip
      refine mw_const i_59_8 (v := nI 0) (by decide) ?_
      refine mw_iret i_59_9 (x := nI 0) (fun _ => (by decide)) ?_
      rw [show nI 0 = bI (inr v lo hi) from (bI_f (fun h => ltn c2 h.2)).symm]
      exact q
    · skip
      refine mw_const i_59_6 (v := nI 1) (by decide) ?_
      refine mw_goto i_59_7 ?_
      refine mw_iret i_59_9 (x := nI 1) (fun _ => (by decide)) ?_
      rw [show nI 1 = bI (inr v lo hi) from (bI_t (⟨nlt c1, nlt c2⟩)).symm]
      exact q
/-- the reference's error number, out of three numbers that are 0 for no -/
def gz (x1 x2 x3 : Int32) : Nat := if x1 = 0 then 1 else if x2 = 0 then 2 else if x3 = 0 then 3 else 0
noncomputable def gn (p1 p2 p3 : Prop) : Nat := gz (bI p1) (bI p2) (bI p3)
theorem gn_0 {p1 p2 p3 : Prop} : gn p1 p2 p3 = 0 ↔ p1 ∧ p2 ∧ p3 := by
  unfold gn gz
  by_cases h1 : p1 <;> by_cases h2 : p2 <;> by_cases h3 : p3 <;> simp [bI_0, h1, h2, h3]
theorem gn_1 {p1 p2 p3 : Prop} (h : ¬ p1) : gn p1 p2 p3 = 1 := by unfold gn gz; rw [if_pos (bI_f h)]
theorem gn_2 {p1 p2 p3 : Prop} (h : p1) (h2 : ¬ p2) : gn p1 p2 p3 = 2 := by unfold gn gz; rw [if_neg (by rw [bI_t h]; decide), if_pos (bI_f h2)]
theorem gn_3 {p1 p2 p3 : Prop} (h : p1) (h2 : p2) (h3 : ¬ p3) : gn p1 p2 p3 = 3 := by unfold gn gz; rw [if_neg (by rw [bI_t h]; decide), if_neg (by rw [bI_t h2]; decide), if_pos (bI_f h3)]
theorem gn_t {p1 p2 p3 : Prop} (h : p1) (h2 : p2) (h3 : p3) : gn p1 p2 p3 = 0 := gn_0.mpr ⟨h, h2, h3⟩
theorem bI_T : bI True = nI 1 := bI_t trivial
/-- a number below another one -/
def isN (x : Int32) (n : Nat) : Prop := ∃ j, j < n ∧ x = nI j
theorem isN_i {x : Int32} {n : Nat} (hn : n < 2147483648) : isN x n ↔ 0 ≤ x.toInt ∧ x.toInt < n := by
  constructor
  · rintro ⟨j, hj, rfl⟩
    rw [nI_toInt (by omega)]
    omega
  · rintro ⟨h1, h2⟩
    obtain ⟨j, hj, rfl⟩ := nI_of (x := x) (by rw [Int32.lt_iff_toInt_lt]; simpa using h1)
    rw [nI_toInt hj] at h2
    exact ⟨j, by omega, rfl⟩
theorem nI_isN {j n : Nat} (hj : j < 2147483648) (hn : n < 2147483648) : isN (nI j) n ↔ j < n := by
  rw [isN_i hn, nI_toInt hj]
  omega
theorem inr_isN {x : Int32} {n : Nat} (hn : n < 2147483647) : inr x (nI 0) (nI n) ↔ isN x (n + 1) := by
  rw [isN_i (by omega)]
  unfold inr
  rw [Int32.le_iff_toInt_le, Int32.le_iff_toInt_le, nI_toInt (show 0 < 2 ^ 31 by decide), nI_toInt (show n < 2 ^ 31 by omega)]
  omega
theorem inr_isN1 {x : Int32} {n : Nat} (hn : n < 1073741824) : inr x (nI 0) (nI n - nI 1) ↔ isN x n := by
  rw [isN_i (by omega)]
  unfold inr
  rw [Int32.le_iff_toInt_le, Int32.le_iff_toInt_le, nI_toInt (show 0 < 2 ^ 31 by decide), pk_sub_toInt (by omega) (by decide)]
  omega
set_option maxRecDepth 20000 in
theorem m_goes {d b : Nat} {K : KM} {I : IM} {R : RM} {Q : QT} {x1 x2 x3 : Int32} (hM : MK K R) (q : Q (.inl (some (pI (bI (gz x1 x2 x3 = 0))))) K (up2 I MO 28 (nI (gz x1 x2 x3))) R) : Mw d b N_X6_goes 0 [some (pR (some MO)), some (pI x1), some (pI x2), some (pI x3)] [] K I R Q := by
  refine mw_aload i_76_0 (L := MO) rfl ?_
  refine mw_iload i_76_1 (x := x1) rfl ?_
  refine mw_if i_76_2 (p := ¬ x1 = 0) Iff.rfl (fun c1 => ?_) (fun c1 => ?_)
  · skip
    refine mw_iload i_76_5 (x := x2) rfl ?_
    refine mw_if i_76_6 (p := ¬ x2 = 0) Iff.rfl (fun c2 => ?_) (fun c2 => ?_)
    · skip
      refine mw_iload i_76_9 (x := x3) rfl ?_
      refine mw_if i_76_10 (p := x3 = 0) Iff.rfl (fun c3 => ?_) (fun c3 => ?_)
      · skip
        refine mw_const i_76_13 (v := nI 3) (by decide) ?_
        refine mw_put i_76_14 (x := nI 3) (MK_o hM) (I' := up2 I MO 28 (nI 3)) rfl ?_
        refine mw_aload i_76_15 (L := MO) rfl ?_
        refine mw_get i_76_16 (MK_o hM) (v := nI 3) (by simp [up2, setI, upd]) ?_
        refine mw_ifT i_76_17 (show ¬ nI 3 = 0 by decide) ?_
        refine mw_const i_76_20 (v := nI 0) (by decide) ?_
        refine mw_iret i_76_21 (x := nI 0) (fun _ => (by decide)) ?_
        have e9 : gz x1 x2 x3 = 3 := by
          unfold gz
          simp_all
        rw [e9] at q
        rw [show nI 0 = bI ((3 : Nat) = 0) from (bI_f (by decide)).symm]
        exact q
      · skip
        refine mw_const i_76_11 (v := nI 0) (by decide) ?_
        refine mw_goto i_76_12 ?_
        refine mw_put i_76_14 (x := nI 0) (MK_o hM) (I' := up2 I MO 28 (nI 0)) rfl ?_
        refine mw_aload i_76_15 (L := MO) rfl ?_
        refine mw_get i_76_16 (MK_o hM) (v := nI 0) (by simp [up2, setI, upd]) ?_
        refine mw_ifF i_76_17 (show ¬ (¬ nI 0 = 0) by decide) ?_
        refine mw_const i_76_18 (v := nI 1) (by decide) ?_
        refine mw_goto i_76_19 ?_
        refine mw_iret i_76_21 (x := nI 1) (fun _ => (by decide)) ?_
        have e9 : gz x1 x2 x3 = 0 := by
          unfold gz
          simp_all
        rw [e9] at q
        rw [show nI 1 = bI ((0 : Nat) = 0) from (bI_t (by decide)).symm]
        exact q
    · skip
      refine mw_const i_76_7 (v := nI 2) (by decide) ?_
      refine mw_goto i_76_8 ?_
      refine mw_put i_76_14 (x := nI 2) (MK_o hM) (I' := up2 I MO 28 (nI 2)) rfl ?_
      refine mw_aload i_76_15 (L := MO) rfl ?_
      refine mw_get i_76_16 (MK_o hM) (v := nI 2) (by simp [up2, setI, upd]) ?_
      refine mw_ifT i_76_17 (show ¬ nI 2 = 0 by decide) ?_
      refine mw_const i_76_20 (v := nI 0) (by decide) ?_
      refine mw_iret i_76_21 (x := nI 0) (fun _ => (by decide)) ?_
      have e9 : gz x1 x2 x3 = 2 := by
        unfold gz
        simp_all
      rw [e9] at q
      rw [show nI 0 = bI ((2 : Nat) = 0) from (bI_f (by decide)).symm]
      exact q
  · skip
    refine mw_const i_76_3 (v := nI 1) (by decide) ?_
    refine mw_goto i_76_4 ?_
    refine mw_put i_76_14 (x := nI 1) (MK_o hM) (I' := up2 I MO 28 (nI 1)) rfl ?_
    refine mw_aload i_76_15 (L := MO) rfl ?_
    refine mw_get i_76_16 (MK_o hM) (v := nI 1) (by simp [up2, setI, upd]) ?_
    refine mw_ifT i_76_17 (show ¬ nI 1 = 0 by decide) ?_
    refine mw_const i_76_20 (v := nI 0) (by decide) ?_
    refine mw_iret i_76_21 (x := nI 0) (fun _ => (by decide)) ?_
    have e9 : gz x1 x2 x3 = 1 := by
      unfold gz
      simp_all
    rw [e9] at q
    rw [show nI 0 = bI ((1 : Nat) = 0) from (bI_f (by decide)).symm]
    exact q
set_option maxRecDepth 20000 in
theorem m_isTown {d b : Nat} {K : KM} {I : IM} {R : RM} {Q : QT} {x : Int32} (hd : 1 ≤ d)  (q : Q (.inl (some (pI (bI (isN x 4))))) K I R) : Mw d b N_X6_isTown 0 [some (pI x)] [] K I R Q := by
  obtain ⟨d9, rfl⟩ : ∃ d9, d = d9 + 1 := ⟨d - 1, by omega⟩
  refine mw_iload i_77_0 (x := x) rfl ?_
  refine mw_const i_77_1 (v := nI 0) (by decide) ?_
  refine mw_const i_77_2 (v := nI 3) (by decide) ?_
  refine mw_callS i_77_3 mf_75 (as := [pI x, pI (nI 0), pI (nI 3)]) (rest := []) (d' := d9) (b' := b) (ls0 := [some (pI x), some (pI (nI 0)), some (pI (nI 3))]) rfl rfl rfl (by decide) rfl rfl rfl ?_
  refine m_in ?_
  refine aft_v ?_
  refine mw_iretB i_77_4 ?_
  rw [bI_congr (show (inr x (nI 0) (nI 3)) ↔ (isN x 4) from (inr_isN (by decide)))]
  exact q
set_option maxRecDepth 20000 in
theorem m_isOne {d b : Nat} {K : KM} {I : IM} {R : RM} {Q : QT} {x : Int32} {pp : Nat} (hd : 1 ≤ d) (hM : MK K R) (hp : I MO 14 = nI pp) (hpp : pp ≤ 10) (q : Q (.inl (some (pI (bI (isN x pp))))) K I R) : Mw d b N_X6_isOne 0 [some (pR (some MO)), some (pI x)] [] K I R Q := by
  obtain ⟨d9, rfl⟩ : ∃ d9, d = d9 + 1 := ⟨d - 1, by omega⟩
  refine mw_iload i_78_0 (x := x) rfl ?_
  refine mw_const i_78_1 (v := nI 0) (by decide) ?_
  refine mw_aload i_78_2 (L := MO) rfl ?_
  refine mw_get i_78_3 (MK_o hM) (v := nI pp) hp ?_
  refine mw_const i_78_4 (v := nI 1) (by decide) ?_
  refine mw_isub i_78_5 (w := ((nI pp) - (nI 1))) rfl ?_
  refine mw_callS i_78_6 mf_75 (as := [pI x, pI (nI 0), pI ((nI pp) - (nI 1))]) (rest := []) (d' := d9) (b' := b) (ls0 := [some (pI x), some (pI (nI 0)), some (pI ((nI pp) - (nI 1)))]) rfl rfl rfl (by decide) rfl rfl rfl ?_
  refine m_in ?_
  refine aft_v ?_
  refine mw_iretB i_78_7 ?_
  rw [bI_congr (show (inr x (nI 0) ((nI pp) - (nI 1))) ↔ (isN x pp) from (inr_isN1 (by omega)))]
  exact q
set_option maxRecDepth 20000 in
theorem m_isTitle {d b : Nat} {K : KM} {I : IM} {R : RM} {Q : QT} {x : Int32} {tt : Nat} (hd : 1 ≤ d) (hM : MK K R) (ht : I MO 18 = nI tt) (htt : tt ≤ 4) (q : Q (.inl (some (pI (bI (isN x tt))))) K I R) : Mw d b N_X6_isTitle 0 [some (pR (some MO)), some (pI x)] [] K I R Q := by
  obtain ⟨d9, rfl⟩ : ∃ d9, d = d9 + 1 := ⟨d - 1, by omega⟩
  refine mw_iload i_79_0 (x := x) rfl ?_
  refine mw_const i_79_1 (v := nI 0) (by decide) ?_
  refine mw_aload i_79_2 (L := MO) rfl ?_
  refine mw_get i_79_3 (MK_o hM) (v := nI tt) ht ?_
  refine mw_const i_79_4 (v := nI 1) (by decide) ?_
  refine mw_isub i_79_5 (w := ((nI tt) - (nI 1))) rfl ?_
  refine mw_callS i_79_6 mf_75 (as := [pI x, pI (nI 0), pI ((nI tt) - (nI 1))]) (rest := []) (d' := d9) (b' := b) (ls0 := [some (pI x), some (pI (nI 0)), some (pI ((nI tt) - (nI 1)))]) rfl rfl rfl (by decide) rfl rfl rfl ?_
  refine m_in ?_
  refine aft_v ?_
  refine mw_iretB i_79_7 ?_
  rw [bI_congr (show (inr x (nI 0) ((nI tt) - (nI 1))) ↔ (isN x tt) from (inr_isN1 (by omega)))]
  exact q
set_option maxRecDepth 20000 in
theorem m_of {d b : Nat} {K : KM} {I : IM} {R : RM} {Q : QT} {dy k c : Nat} (hM : MK K R) (hdd : dy < 1000) (hk : k < 6) (hc : c < 6) (q : Q (.inl (some (pI (I (MA 19) (36 * dy + 6 * k + c))))) K I R) : Mw d b N_X6_of 0 [some (pR (some MO)), some (pI (nI dy)), some (pI (nI k)), some (pI (nI c))] [] K I R Q := by
  refine mw_aload i_81_0 (L := MO) rfl ?_
  refine mw_getR i_81_1 (MK_o hM) (q := some (MA 19)) (MK_r hM 19 (by decide)) ?_
  refine mw_const i_81_2 (v := nI 36) (by decide) ?_
  refine mw_iload i_81_3 (x := nI dy) rfl ?_
  refine mw_imul i_81_4 (w := nI (36 * dy)) (pk_mul _ _) ?_
  refine mw_const i_81_5 (v := nI 6) (by decide) ?_
  refine mw_iload i_81_6 (x := nI k) rfl ?_
  refine mw_imul i_81_7 (w := nI (6 * k)) (pk_mul _ _) ?_
  refine mw_iadd i_81_8 (w := nI (36 * dy + (6 * k))) (nI_add _ _) ?_
  refine mw_iload i_81_9 (x := nI c) rfl ?_
  refine mw_iadd i_81_10 (w := nI (36 * dy + (6 * k) + c)) (nI_add _ _) ?_
  refine mw_iald i_81_11 (jn := 36 * dy + (6 * k) + c) (n := 36000) (by omega) (by omega) (show K (MA 19) = some (7, 36000) from MK_k hM 19 (by decide)) (by decide) (v := I (MA 19) (36 * dy + (6 * k) + c)) rfl ?_
  refine mw_iretI i_81_12 (x := I (MA 19) (36 * dy + (6 * k) + c)) rt_81 ?_
  exact q
set_option maxRecDepth 20000 in
theorem m_isHurt {d b : Nat} {K : KM} {I : IM} {R : RM} {Q : QT} {w : Nat} {x : Int32} (hM : MK K R) (hw : w < 10) (q : Q (.inl (some (pI (bI (x < I (MA 6) w))))) K I R) : Mw d b N_X6_isHurt 0 [some (pR (some MO)), some (pI (nI w)), some (pI x)] [] K I R Q := by
  refine mw_aload i_82_0 (L := MO) rfl ?_
  refine mw_getR i_82_1 (MK_o hM) (q := some (MA 6)) (MK_r hM 6 (by decide)) ?_
  refine mw_iload i_82_2 (x := nI w) rfl ?_
  refine mw_iald i_82_3 (jn := w) (n := 10) (by omega) (by omega) (show K (MA 6) = some (7, 10) from MK_k hM 6 (by decide)) (by decide) (v := I (MA 6) w) rfl ?_
  refine mw_iload i_82_4 (x := x) rfl ?_
  refine mw_ic i_82_5 (p := (I (MA 6) w) ≤ x) Iff.rfl (fun c1 => ?_) (fun c1 => ?_)
  · skip
    refine mw_const i_82_8 (v := nI 0) (by decide) ?_
    refine mw_iret i_82_9 (x := nI 0) (fun _ => (by decide)) ?_
    rw [show nI 0 = bI (x < I (MA 6) w) from (bI_f (Int32.not_lt.mpr c1)).symm]
    exact q
  · skip
    refine mw_const i_82_6 (v := nI 1) (by decide) ?_
    refine mw_goto i_82_7 ?_
    refine mw_iret i_82_9 (x := nI 1) (fun _ => (by decide)) ?_
    rw [show nI 1 = bI (x < I (MA 6) w) from (bI_t (nle c1)).symm]
    exact q
set_option maxRecDepth 20000 in
theorem m_thrown {d b : Nat} {K : KM} {I : IM} {R : RM} {Q : QT}  (hM : MK K R) (q : Q (.inl (some (pI (I MO 28)))) K I R) : Mw d b N_X6_thrown 0 [some (pR (some MO))] [] K I R Q := by
  refine mw_aload i_74_0 (L := MO) rfl ?_
  refine mw_get i_74_1 (MK_o hM) (v := I MO 28) rfl ?_
  refine mw_iretI i_74_2 (x := I MO 28) rt_74 ?_
  exact q
set_option maxRecDepth 20000 in
theorem m_isBarred {d b : Nat} {K : KM} {I : IM} {R : RM} {Q : QT} {lo wi : Nat} {x : Int32} (hM : MK K R) (hl : lo < 10) (hw : wi < 10) (q : Q (.inl (some (pI (bI (x < I (MA 11) (10 * lo + wi) ∨ x < I (MA 12) lo))))) K I R) : Mw d b N_X6_isBarred 0 [some (pR (some MO)), some (pI (nI lo)), some (pI (nI wi)), some (pI x)] [] K I R Q := by
  refine mw_aload i_87_0 (L := MO) rfl ?_
  refine mw_getR i_87_1 (MK_o hM) (q := some (MA 11)) (MK_r hM 11 (by decide)) ?_
  refine mw_const i_87_2 (v := nI 10) (by decide) ?_
  refine mw_iload i_87_3 (x := nI lo) rfl ?_
  refine mw_imul i_87_4 (w := nI (10 * lo)) (pk_mul _ _) ?_
  refine mw_iload i_87_5 (x := nI wi) rfl ?_
  refine mw_iadd i_87_6 (w := nI (10 * lo + wi)) (nI_add _ _) ?_
  refine mw_iald i_87_7 (jn := 10 * lo + wi) (n := 100) (by omega) (by omega) (show K (MA 11) = some (7, 100) from MK_k hM 11 (by decide)) (by decide) (v := I (MA 11) (10 * lo + wi)) rfl ?_
  refine mw_iload i_87_8 (x := x) rfl ?_
  refine mw_ic i_87_9 (p := x < (I (MA 11) (10 * lo + wi))) Iff.rfl (fun c1 => ?_) (fun c1 => ?_)
  · skip
    refine mw_const i_87_16 (v := nI 1) (by decide) ?_
    refine mw_goto i_87_17 ?_
    refine mw_iret i_87_19 (x := nI 1) (fun _ => (by decide)) ?_
    rw [show nI 1 = bI (x < I (MA 11) (10 * lo + wi) ∨ x < I (MA 12) lo) from (bI_t ((by simp_all [Int32.not_le, Int32.not_lt]))).symm]
    exact q
  · skip
    refine mw_aload i_87_10 (L := MO) rfl ?_
    refine mw_getR i_87_11 (MK_o hM) (q := some (MA 12)) (MK_r hM 12 (by decide)) ?_
    refine mw_iload i_87_12 (x := nI lo) rfl ?_
    refine mw_iald i_87_13 (jn := lo) (n := 10) (by omega) (by omega) (show K (MA 12) = some (7, 10) from MK_k hM 12 (by decide)) (by decide) (v := I (MA 12) lo) rfl ?_
    refine mw_iload i_87_14 (x := x) rfl ?_
    refine mw_ic i_87_15 (p := (I (MA 12) lo) ≤ x) Iff.rfl (fun c2 => ?_) (fun c2 => ?_)
    · skip
      refine mw_const i_87_18 (v := nI 0) (by decide) ?_
      refine mw_iret i_87_19 (x := nI 0) (fun _ => (by decide)) ?_
      rw [show nI 0 = bI (x < I (MA 11) (10 * lo + wi) ∨ x < I (MA 12) lo) from (bI_f ((by simp_all [Int32.not_le, Int32.not_lt]))).symm]
      exact q
    · skip
      refine mw_const i_87_16 (v := nI 1) (by decide) ?_
      refine mw_goto i_87_17 ?_
      refine mw_iret i_87_19 (x := nI 1) (fun _ => (by decide)) ?_
      rw [show nI 1 = bI (x < I (MA 11) (10 * lo + wi) ∨ x < I (MA 12) lo) from (bI_t ((by simp_all [Int32.not_le, Int32.not_lt]))).symm]
      exact q
