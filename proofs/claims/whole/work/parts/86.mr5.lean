/-! the reference: strike, shoot, injuries -/
def FrB (I I' : IM) : Prop := ∀ L : Lb, L ≠ MA 19 → L ≠ MA 20 → I' L = I L
theorem FrB_rfl {I : IM} : FrB I I := fun _ _ _ => rfl
theorem FrB_tr {I I' I'' : IM} (h : FrB I I') (h' : FrB I' I'') : FrB I I'' := fun L a b => (h' L a b).trans (h L a b)
theorem FrB_up {I I' : IM} (h : FrB I I') {q : Nat} (hq : q = 19 ∨ q = 20) {k : Nat} {x : Int32} : FrB I (up2 I' (MA q) k x) := fun L a b => by
  rw [up2_ne (fun e => by rcases hq with rfl | rfl; exact a e; exact b e)]
  exact h L a b
theorem FrA_B {I I' : IM} (h : FrB I I') : FrA I I' := fun L a => h L (fun e => a (by rw [e])) (fun e => a (by rw [e]))
/-- rows moved up, as far as k -/
def shf (σ : ST) (x m sz k : Nat) : ST := ups (fun q => if q = 19 then (fun j => if 36 * x + 6 * m ≤ j ∧ j < k then σ 19 (j + 6) else σ 19 j) else σ q) 20 x (nI (sz - 1))
theorem shf_0 {σ : ST} {x m sz : Nat} : shf σ x m sz (36 * x + 6 * m) = ups σ 20 x (nI (sz - 1)) := by
  unfold shf
  have e : (fun q => if q = 19 then (fun j => if 36 * x + 6 * m ≤ j ∧ j < 36 * x + 6 * m then σ 19 (j + 6) else σ 19 j) else σ q) = σ := by
    funext q j
    by_cases h : q = 19
    · rw [if_pos h]
      show (if 36 * x + 6 * m ≤ j ∧ j < 36 * x + 6 * m then σ 19 (j + 6) else σ 19 j) = σ q j
      rw [if_neg (by omega), h]
    · rw [if_neg h]
  rw [e]
theorem shf_19 {σ : ST} {x m sz k j : Nat} : shf σ x m sz k 19 j = if 36 * x + 6 * m ≤ j ∧ j < k then σ 19 (j + 6) else σ 19 j := by
  unfold shf
  rw [ups_ne (by decide), if_pos rfl]
theorem shf_o {σ : ST} {x m sz k q : Nat} (h : q ≠ 19) (h2 : q ≠ 20) : shf σ x m sz k q = σ q := by
  unfold shf
  rw [ups_ne h2, if_neg h]
theorem shf_20 {σ : ST} {x m sz k : Nat} : shf σ x m sz k 20 = upd (σ 20) x (nI (sz - 1)) := by
  unfold shf
  rw [ups_at, if_neg (by decide)]
theorem shf_s {σ : ST} {x m sz k : Nat} (h : 36 * x + 6 * m ≤ k) : shf σ x m sz (k + 1) = ups (shf σ x m sz k) 19 k (σ 19 (k + 6)) := by
  funext q j
  by_cases h1 : q = 19
  · subst h1
    rw [ups_at, shf_19]
    by_cases e : j = k
    · subst e
      rw [upd_at, if_pos (by omega)]
    · rw [upd_ne e, shf_19]
      by_cases e2 : 36 * x + 6 * m ≤ j ∧ j < k
      · rw [if_pos e2, if_pos (by omega)]
      · rw [if_neg e2, if_neg (by omega)]
  · rw [ups_ne h1]
    by_cases h2 : q = 20
    · subst h2; rw [shf_20, shf_20]
    · rw [shf_o h1 h2, shf_o h1 h2]
theorem shf_st {σ : ST} {x m : Nat} : shf σ x m (mn σ x) (36 * x + 6 * (mn σ x - 1)) = stS σ x m := rfl
set_option maxRecDepth 20000 in
set_option maxHeartbeats 400000 in
theorem m_str_lp {d : Nat} {b : Nat} {K : KM} {R : RM} {Q : QT} {σ : ST} {x m sz : Nat} {I0 : IM} (hM : MK K R) (hx : x < 1000) (hsz : sz ≤ 6) (hm9 : m < sz) (q : ∀ I', FrB I0 I' → mv I' = shf σ x m sz (36 * x + 6 * (sz - 1)) → Q (.inl none) K I' R) : ∀ (n k : Nat) (I : IM), 36 * x + 6 * (sz - 1) - k < n → k ≤ 36 * x + 6 * (sz - 1) → (FrB I0 I) → (mv I = shf σ x m sz k) → (36 * x + 6 * m ≤ k) → Mw d b N_X6_strikes 16 [some (pR (some MO)), some (pI (nI x)), some (pI (nI m)), some (pI (nI k))] [] K I R Q := by
  intro n
  induction n with
  | zero => intro k I  hn; exact absurd hn (Nat.not_lt_zero _)
  | succ n ih =>
    intro k I  hn hi hF hmk hlo
    refine mw_iload i_94_16 (x := nI k) rfl ?_
    refine mw_const i_94_17 (v := nI 36) (by decide) ?_
    refine mw_iload i_94_18 (x := nI x) rfl ?_
    refine mw_imul i_94_19 (w := nI (36 * x)) (pk_mul _ _) ?_
    refine mw_const i_94_20 (v := nI 6) (by decide) ?_
    refine mw_aload i_94_21 (L := MO) rfl ?_
    refine mw_getR i_94_22 (MK_o hM) (q := some (MA 20)) (MK_r hM 20 (by decide)) ?_
    refine mw_iload i_94_23 (x := nI x) rfl ?_
    refine mw_iald i_94_24 (jn := x) (n := 1000) (by omega) (by omega) (show K (MA 20) = some (7, 1000) from MK_k hM 20 (by decide)) (by decide) (v := nI (sz - 1)) ((rm hmk (by decide) x).trans (by rw [shf_20, upd_at])) ?_
    refine mw_imul i_94_25 (w := nI (6 * (sz - 1))) (pk_mul _ _) ?_
    refine mw_iadd i_94_26 (w := nI (36 * x + (6 * (sz - 1)))) (nI_add _ _) ?_
    refine mw_ic i_94_27 (p := (36 * x + (6 * (sz - 1))) ≤ k) (nI_leI (by omega) (by omega)) (fun c1 => ?_) (fun c1 => ?_)
    · skip
      refine mw_ret i_94_40 ?_
      obtain rfl : k = 36 * x + 6 * (sz - 1) := by omega
      exact q I hF hmk
    · skip
      refine mw_aload i_94_28 (L := MO) rfl ?_
      refine mw_getR i_94_29 (MK_o hM) (q := some (MA 19)) (MK_r hM 19 (by decide)) ?_
      refine mw_iload i_94_30 (x := nI k) rfl ?_
      refine mw_aload i_94_31 (L := MO) rfl ?_
      refine mw_getR i_94_32 (MK_o hM) (q := some (MA 19)) (MK_r hM 19 (by decide)) ?_
      refine mw_iload i_94_33 (x := nI k) rfl ?_
      refine mw_const i_94_34 (v := nI 6) (by decide) ?_
      refine mw_iadd i_94_35 (w := nI (k + 6)) (nI_add _ _) ?_
      refine mw_iald i_94_36 (jn := k + 6) (n := 36000) (by omega) (by omega) (show K (MA 19) = some (7, 36000) from MK_k hM 19 (by decide)) (by decide) (v := σ 19 (k + 6)) ((rm hmk (by decide) (k + 6)).trans (by rw [shf_19, if_neg (by omega)])) ?_
      obtain ⟨I22, e22⟩ : ∃ I22, I22 = up2 I (MA 19) k (σ 19 (k + 6)) := ⟨_, rfl⟩
      refine mw_iast i_94_37 (jn := k) (n := 36000) (by omega) (by omega) (x := σ 19 (k + 6)) (show K (MA 19) = some (7, 36000) from MK_k hM 19 (by decide)) (I' := I22) e22.symm ?_
      refine mw_iinc i_94_38 (x := nI k) (v := nI (k + 1)) (ls' := [some (pR (some MO)), some (pI (nI x)), some (pI (nI m)), some (pI (nI (k + 1)))]) rfl (nI_add _ _) rfl ?_
      refine mw_goto i_94_39 ?_
      exact ih (k + 1) I22 (by omega) (by omega) (FrB_tr hF (e22.symm ▸ FrB_up FrB_rfl (Or.inl rfl))) (by rw [e22, mv_a (by decide) (by decide) (by decide) (by decide), hmk, shf_s hlo]) (by omega)
set_option maxRecDepth 20000 in
set_option maxHeartbeats 400000 in
theorem m_strikes {d b : Nat} {K : KM} {I : IM} {R : RM} {Q : QT} {σ : ST} {x m : Nat} (hM : MK K R) (hm : mv I = σ) (hx : x < 1000) (hz : σ 20 x = nI (mn σ x)) (hsz : mn σ x ≤ 6) (hm9 : m < mn σ x) (q : ∀ I', FrB I I' → mv I' = stS σ x m → Q (.inl none) K I' R) : Mw d b N_X6_strikes 0 [some (pR (some MO)), some (pI (nI x)), some (pI (nI m)), none] [] K I R Q := by
  refine mw_aload i_94_0 (L := MO) rfl ?_
  refine mw_getR i_94_1 (MK_o hM) (q := some (MA 20)) (MK_r hM 20 (by decide)) ?_
  refine mw_iload i_94_2 (x := nI x) rfl ?_
  refine mw_dup2 i_94_3 trivial trivial ?_
  refine mw_iald i_94_4 (jn := x) (n := 1000) (by omega) (by omega) (show K (MA 20) = some (7, 1000) from MK_k hM 20 (by decide)) (by decide) (v := nI (mn σ x)) ((rm hm (by decide) x).trans hz) ?_
  refine mw_const i_94_5 (v := nI 1) (by decide) ?_
  refine mw_isub i_94_6 (w := nI ((mn σ x) - 1)) (pk_sub (by omega)) ?_
  obtain ⟨I21, e21⟩ : ∃ I21, I21 = up2 I (MA 20) x (nI ((mn σ x) - 1)) := ⟨_, rfl⟩
  refine mw_iast i_94_7 (jn := x) (n := 1000) (by omega) (by omega) (x := nI ((mn σ x) - 1)) (show K (MA 20) = some (7, 1000) from MK_k hM 20 (by decide)) (I' := I21) e21.symm ?_
  refine mw_const i_94_8 (v := nI 36) (by decide) ?_
  refine mw_iload i_94_9 (x := nI x) rfl ?_
  refine mw_imul i_94_10 (w := nI (36 * x)) (pk_mul _ _) ?_
  refine mw_const i_94_11 (v := nI 6) (by decide) ?_
  refine mw_iload i_94_12 (x := nI m) rfl ?_
  refine mw_imul i_94_13 (w := nI (6 * m)) (pk_mul _ _) ?_
  refine mw_iadd i_94_14 (w := nI (36 * x + (6 * m))) (nI_add _ _) ?_
  refine mw_istore i_94_15 (ls' := [some (pR (some MO)), some (pI (nI x)), some (pI (nI m)), some (pI (nI (36 * x + (6 * m))))]) rfl (Nat.le_of_ble_eq_true rfl) ?_
  exact m_str_lp (I0 := I) hM hx hsz hm9 q (36 * x + 6 * (mn σ x - 1) + 1) (36 * x + 6 * m) I21 (by omega) (by omega) (e21.symm ▸ FrB_up FrB_rfl (Or.inr rfl)) (by rw [e21, mv_a (by decide) (by decide) (by decide) (by decide), hm, shf_0]) (Nat.le_refl _)

set_option maxRecDepth 20000 in
set_option maxHeartbeats 400000 in
theorem m_strike_o {d b : Nat} {K : KM} {I : IM} {R : RM} {Q : QT} {n0 : Nat} {σ : ST} {its ma : Int32} (hd : 2 ≤ d) (hM : MK K R) (hm : mv I = σ) (hV : IV n0 σ) (hx : ¬ isN its 1000) (q1 : ¬ (False) → ∀ I', FrM I I' → I' MO 28 = nI 1 → mv I' = σ → Q (.inl (some (pI (nI 0)))) K I' R) (q2 : (False) → ¬ (False) → ∀ I', FrM I I' → I' MO 28 = nI 2 → mv I' = σ → Q (.inl (some (pI (nI 0)))) K I' R)  : Mw d b N_X6_strike 0 [some (pR (some MO)), some (pI its), some (pI ma), none] [] K I R Q := by
  obtain ⟨d9, rfl⟩ : ∃ d9, d = d9 + 1 := ⟨d - 1, by omega⟩
  have hpp := hV.1.2
  have htt := hV.2.1.2
  have hdd := hV.2.2.1.2
  refine mw_aload i_95_0 (L := MO) rfl ?_
  refine mw_iload i_95_1 (x := its) rfl ?_
  refine mw_iload i_95_2 (x := ma) rfl ?_
  refine mw_callV i_95_3 mf_80 (as := [pI its, pI ma]) (rest := []) (d' := d9) (b' := b) (ls0 := [some (pR (some MO)), some (pI its), some (pI ma)]) rfl rfl rfl (Nat.le_of_ble_eq_true rfl) (MK_o hM) rfl rfl rfl ?_
  refine m_isMatch_o (by omega) hM hm hV hx ?_
  refine aft_v ?_
  refine mw_istore i_95_4 (ls' := [some (pR (some MO)), some (pI its), some (pI ma), some (pI (bI False))]) rfl (Nat.le_of_ble_eq_true rfl) ?_
  refine mw_aload i_95_5 (L := MO) rfl ?_
  refine mw_iload i_95_6 (x := bI False) rfl ?_
  have J1 : Mw (d9 + 1) b 95 17 [some (pR (some MO)), some (pI its), some (pI ma), some (pI (bI False))] [pI (bI False), pI (bI False), pR (some MO)] K I R Q := by
    refine mw_const i_95_17 (v := nI 1) (by decide) ?_
    refine mw_callV i_95_18 mf_76 (as := [pI (bI False), pI (bI False), pI (nI 1)]) (rest := []) (d' := d9) (b' := b) (ls0 := [some (pR (some MO)), some (pI (bI False)), some (pI (bI False)), some (pI (nI 1))]) rfl rfl rfl (Nat.le_of_ble_eq_true rfl) (MK_o hM) rfl rfl rfl ?_
    refine m_goes hM ?_
    rw [show gz (bI False) (bI False) (nI 1) = gn False False True from by unfold gn; rw [bI_T]]
    obtain ⟨Ig2, eIg2⟩ : ∃ Ig2, Ig2 = up2 I MO 28 (nI (gn False False True)) := ⟨_, rfl⟩
    rw [← eIg2]
    refine aft_v ?_
    refine mw_neB i_95_19 rfl (fun c3 => ?_) (fun c3 => ?_)
    · skip
      obtain ⟨p1, p2, p3⟩ := gn_0.mp c3
      exact p1.elim
    · skip
      refine mw_const i_95_20 (v := nI 0) (by decide) ?_
      refine mw_iretI i_95_21 (x := nI 0) rt_95 ?_
      have h28 : Ig2 MO 28 = nI (gn False False True) := by rw [eIg2, up2_at, upd_at]
      have hmv : mv Ig2 = σ := by rw [eIg2, mv_o (by decide), hm]
      have hfr : FrM I Ig2 := (eIg2.symm ▸ FrM_up (FrM_rfl) (by decide))
      by_cases p19 : False
      rotate_left
      · exact q1 p19 Ig2 hfr (h28.trans (by rw [gn_1 p19])) hmv
      by_cases p29 : False
      rotate_left
      · exact q2 p19 p29 Ig2 hfr (h28.trans (by rw [gn_2 p19 p29])) hmv
      exact absurd (gn_t p19 p29 trivial) c3
  refine mw_iload i_95_7 (x := bI False) rfl ?_
  refine mw_eqB i_95_8 rfl (fun c4 => ?_) (fun c4 => ?_)
  · skip
    refine mw_const i_95_16 (v := nI 0) (by decide) ?_
    rw [show nI 0 = bI (False) from (bI_f ((fun h => h))).symm]
    exact J1
  · skip
    exact c4.elim
set_option maxRecDepth 20000 in
set_option maxHeartbeats 400000 in
theorem m_strike_i {d b : Nat} {K : KM} {I : IM} {R : RM} {Q : QT} {n0 : Nat} {σ : ST} {x : Nat} {ma : Int32} (hd : 2 ≤ d) (hM : MK K R) (hm : mv I = σ) (hV : IV n0 σ) (hx : x < 1000) (q1 : ¬ (isN ma (mn σ x)) → ∀ I', FrM I I' → I' MO 28 = nI 1 → mv I' = σ → Q (.inl (some (pI (nI 0)))) K I' R) (q2 : (isN ma (mn σ x)) → ¬ (isN ma (mn σ x) ∧ σ 22 x = nI 0) → ∀ I', FrM I I' → I' MO 28 = nI 2 → mv I' = σ → Q (.inl (some (pI (nI 0)))) K I' R) (q0 : ∀ m, m < mn σ x → ma = nI m → σ 22 x = nI 0 → ∀ I', FrM I I' → I' MO 28 = nI 0 → mv I' = stS σ x m → ∀ v, v = nI (mn σ x - 1) → Q (.inl (some (pI v))) K I' R) : Mw d b N_X6_strike 0 [some (pR (some MO)), some (pI (nI x)), some (pI ma), none] [] K I R Q := by
  obtain ⟨d9, rfl⟩ : ∃ d9, d = d9 + 1 := ⟨d - 1, by omega⟩
  have hpp := hV.1.2
  have htt := hV.2.1.2
  have hdd := hV.2.2.1.2
  have h6 := (hV.2.2.2.2.2.1 x hx).2.1
  refine mw_aload i_95_0 (L := MO) rfl ?_
  refine mw_iload i_95_1 (x := nI x) rfl ?_
  refine mw_iload i_95_2 (x := ma) rfl ?_
  refine mw_callV i_95_3 mf_80 (as := [pI (nI x), pI ma]) (rest := []) (d' := d9) (b' := b) (ls0 := [some (pR (some MO)), some (pI (nI x)), some (pI ma)]) rfl rfl rfl (Nat.le_of_ble_eq_true rfl) (MK_o hM) rfl rfl rfl ?_
  refine m_isMatch (by omega) hM hm hV hx ?_
  refine aft_v ?_
  refine mw_istore i_95_4 (ls' := [some (pR (some MO)), some (pI (nI x)), some (pI ma), some (pI (bI (isN ma (mn σ x))))]) rfl (Nat.le_of_ble_eq_true rfl) ?_
  refine mw_aload i_95_5 (L := MO) rfl ?_
  refine mw_iload i_95_6 (x := bI (isN ma (mn σ x))) rfl ?_
  have J1 : Mw (d9 + 1) b 95 17 [some (pR (some MO)), some (pI (nI x)), some (pI ma), some (pI (bI (isN ma (mn σ x))))] [pI (bI (isN ma (mn σ x) ∧ σ 22 x = nI 0)), pI (bI (isN ma (mn σ x))), pR (some MO)] K I R Q := by
    refine mw_const i_95_17 (v := nI 1) (by decide) ?_
    refine mw_callV i_95_18 mf_76 (as := [pI (bI (isN ma (mn σ x))), pI (bI (isN ma (mn σ x) ∧ σ 22 x = nI 0)), pI (nI 1)]) (rest := []) (d' := d9) (b' := b) (ls0 := [some (pR (some MO)), some (pI (bI (isN ma (mn σ x)))), some (pI (bI (isN ma (mn σ x) ∧ σ 22 x = nI 0))), some (pI (nI 1))]) rfl rfl rfl (Nat.le_of_ble_eq_true rfl) (MK_o hM) rfl rfl rfl ?_
    refine m_goes hM ?_
    rw [show gz (bI (isN ma (mn σ x))) (bI (isN ma (mn σ x) ∧ σ 22 x = nI 0)) (nI 1) = gn (isN ma (mn σ x)) (isN ma (mn σ x) ∧ σ 22 x = nI 0) True from by unfold gn; rw [bI_T]]
    obtain ⟨Ig2, eIg2⟩ : ∃ Ig2, Ig2 = up2 I MO 28 (nI (gn (isN ma (mn σ x)) (isN ma (mn σ x) ∧ σ 22 x = nI 0) True)) := ⟨_, rfl⟩
    rw [← eIg2]
    refine aft_v ?_
    refine mw_neB i_95_19 rfl (fun c3 => ?_) (fun c3 => ?_)
    · skip
      obtain ⟨p1, p2, p3⟩ := gn_0.mp c3
      obtain ⟨j, hj, rfl⟩ := p1
      refine mw_aload i_95_22 (L := MO) rfl ?_
      refine mw_iload i_95_23 (x := nI x) rfl ?_
      refine mw_iload i_95_24 (x := nI j) rfl ?_
      have hmg : mv Ig2 = σ := by rw [eIg2, mv_o (by decide), hm]
      refine mw_callV i_95_25 mf_94 (as := [pI (nI x), pI (nI j)]) (rest := []) (d' := d9) (b' := b) (ls0 := [some (pR (some MO)), some (pI (nI x)), some (pI (nI j)), none]) rfl rfl rfl (Nat.le_of_ble_eq_true rfl) (MK_o hM) rfl rfl rfl ?_
      refine m_strikes hM hmg hx (hV.2.2.2.2.2.1 x hx).1 h6 hj (fun I9 hF9b hm9 => ?_)
      have hF9 := FrA_B hF9b
      refine aft_n ?_
      refine mw_aload i_95_26 (L := MO) rfl ?_
      refine mw_getR i_95_27 (MK_o hM) (q := some (MA 20)) (MK_r hM 20 (by decide)) ?_
      refine mw_iload i_95_28 (x := nI x) rfl ?_
      refine mw_iald i_95_29 (jn := x) (n := 1000) (by omega) (by omega) (show K (MA 20) = some (7, 1000) from MK_k hM 20 (by decide)) (by decide) (v := nI (mn σ x - 1)) ((rm hm9 (by decide) x).trans (by rw [stS_20, upd_at])) ?_
      refine mw_iretI i_95_30 (x := nI (mn σ x - 1)) rt_95 ?_
      exact q0 j hj rfl p2.2 _ (FrM_tr ((eIg2.symm ▸ FrM_up (FrM_rfl) (by decide))) (FrM_A hF9)) (by rw [hF9 MO (by decide), eIg2, up2_at, upd_at, c3]) hm9 _ rfl
    · skip
      refine mw_const i_95_20 (v := nI 0) (by decide) ?_
      refine mw_iretI i_95_21 (x := nI 0) rt_95 ?_
      have h28 : Ig2 MO 28 = nI (gn (isN ma (mn σ x)) (isN ma (mn σ x) ∧ σ 22 x = nI 0) True) := by rw [eIg2, up2_at, upd_at]
      have hmv : mv Ig2 = σ := by rw [eIg2, mv_o (by decide), hm]
      have hfr : FrM I Ig2 := (eIg2.symm ▸ FrM_up (FrM_rfl) (by decide))
      by_cases p19 : isN ma (mn σ x)
      rotate_left
      · exact q1 p19 Ig2 hfr (h28.trans (by rw [gn_1 p19])) hmv
      by_cases p29 : isN ma (mn σ x) ∧ σ 22 x = nI 0
      rotate_left
      · exact q2 p19 p29 Ig2 hfr (h28.trans (by rw [gn_2 p19 p29])) hmv
      exact absurd (gn_t p19 p29 trivial) c3
  refine mw_iload i_95_7 (x := bI (isN ma (mn σ x))) rfl ?_
  refine mw_eqB i_95_8 rfl (fun c4 => ?_) (fun c4 => ?_)
  · skip
    refine mw_const i_95_16 (v := nI 0) (by decide) ?_
    rw [show nI 0 = bI (isN ma (mn σ x) ∧ σ 22 x = nI 0) from (bI_f ((fun h => c4 h.1))).symm]
    exact J1
  · skip
    refine mw_aload i_95_9 (L := MO) rfl ?_
    refine mw_getR i_95_10 (MK_o hM) (q := some (MA 22)) (MK_r hM 22 (by decide)) ?_
    refine mw_iload i_95_11 (x := nI x) rfl ?_
    refine mw_bald i_95_12 (jn := x) (n := 1000) (by omega) (by omega) (show K (MA 22) = some (8, 1000) from MK_k hM 22 (by decide)) (v := σ 22 x) (rm hm (by decide) x) ?_
    refine mw_if i_95_13 (p := ¬ (σ 22 x) = nI 0) Iff.rfl (fun c5 => ?_) (fun c5 => ?_)
    · skip
      refine mw_const i_95_16 (v := nI 0) (by decide) ?_
      rw [show nI 0 = bI (isN ma (mn σ x) ∧ σ 22 x = nI 0) from (bI_f ((fun h => c5 h.2))).symm]
      exact J1
    · skip
      refine mw_const i_95_14 (v := nI 1) (by decide) ?_
      refine mw_goto i_95_15 ?_
      rw [show nI 1 = bI (isN ma (mn σ x) ∧ σ 22 x = nI 0) from (bI_t (⟨c4, Classical.not_not.mp c5⟩)).symm]
      exact J1
set_option maxRecDepth 20000 in
set_option maxHeartbeats 400000 in
theorem m_shoot {d b : Nat} {K : KM} {I : IM} {R : RM} {Q : QT} {n0 : Nat} {σ : ST} {ma : Int32} (hd : 2 ≤ d) (hM : MK K R) (hm : mv I = σ) (hV : IV n0 σ)  (q1 : ¬ (isN ma (mn σ (dn σ))) → ∀ I', FrM I I' → I' MO 28 = nI 1 → mv I' = σ → Q (.inl (some (pI (nI 0)))) K I' R) (q2 : (isN ma (mn σ (dn σ))) → ¬ (isN ma (mn σ (dn σ)) ∧ σ 22 (dn σ) = nI 0) → ∀ I', FrM I I' → I' MO 28 = nI 2 → mv I' = σ → Q (.inl (some (pI (nI 0)))) K I' R) (q0 : ∀ m, m < mn σ (dn σ) → ma = nI m → σ 22 (dn σ) = nI 0 → ∀ I', FrM I I' → I' MO 28 = nI 0 → mv I' = ups σ 19 (36 * dn σ + 6 * m + 5) (nI 1) → ∀ v, v = σ 19 (36 * dn σ + 6 * m + 5) → Q (.inl (some (pI v))) K I' R) : Mw d b N_X6_shoot 0 [some (pR (some MO)), some (pI ma), none, none] [] K I R Q := by
  obtain ⟨d9, rfl⟩ : ∃ d9, d = d9 + 1 := ⟨d - 1, by omega⟩
  have hpp := hV.1.2
  have htt := hV.2.1.2
  have hdd := hV.2.2.1.2
  have h6 := (hV.2.2.2.2.2.1 (dn σ) (by omega)).2.1
  refine mw_aload i_96_0 (L := MO) rfl ?_
  refine mw_aload i_96_1 (L := MO) rfl ?_
  refine mw_get i_96_2 (MK_o hM) (v := nI (dn σ)) ((rs hm (by decide)).trans hV.2.2.1.1) ?_
  refine mw_iload i_96_3 (x := ma) rfl ?_
  refine mw_callV i_96_4 mf_80 (as := [pI (nI (dn σ)), pI ma]) (rest := []) (d' := d9) (b' := b) (ls0 := [some (pR (some MO)), some (pI (nI (dn σ))), some (pI ma)]) rfl rfl rfl (Nat.le_of_ble_eq_true rfl) (MK_o hM) rfl rfl rfl ?_
  refine m_isMatch (by omega) hM hm hV (by omega) ?_
  refine aft_v ?_
  refine mw_istore i_96_5 (ls' := [some (pR (some MO)), some (pI ma), some (pI (bI (isN ma (mn σ (dn σ))))), none]) rfl (Nat.le_of_ble_eq_true rfl) ?_
  refine mw_aload i_96_6 (L := MO) rfl ?_
  refine mw_iload i_96_7 (x := bI (isN ma (mn σ (dn σ)))) rfl ?_
  have J1 : Mw (d9 + 1) b 96 19 [some (pR (some MO)), some (pI ma), some (pI (bI (isN ma (mn σ (dn σ))))), none] [pI (bI (isN ma (mn σ (dn σ)) ∧ σ 22 (dn σ) = nI 0)), pI (bI (isN ma (mn σ (dn σ)))), pR (some MO)] K I R Q := by
    refine mw_const i_96_19 (v := nI 1) (by decide) ?_
    refine mw_callV i_96_20 mf_76 (as := [pI (bI (isN ma (mn σ (dn σ)))), pI (bI (isN ma (mn σ (dn σ)) ∧ σ 22 (dn σ) = nI 0)), pI (nI 1)]) (rest := []) (d' := d9) (b' := b) (ls0 := [some (pR (some MO)), some (pI (bI (isN ma (mn σ (dn σ))))), some (pI (bI (isN ma (mn σ (dn σ)) ∧ σ 22 (dn σ) = nI 0))), some (pI (nI 1))]) rfl rfl rfl (Nat.le_of_ble_eq_true rfl) (MK_o hM) rfl rfl rfl ?_
    refine m_goes hM ?_
    rw [show gz (bI (isN ma (mn σ (dn σ)))) (bI (isN ma (mn σ (dn σ)) ∧ σ 22 (dn σ) = nI 0)) (nI 1) = gn (isN ma (mn σ (dn σ))) (isN ma (mn σ (dn σ)) ∧ σ 22 (dn σ) = nI 0) True from by unfold gn; rw [bI_T]]
    obtain ⟨Ig2, eIg2⟩ : ∃ Ig2, Ig2 = up2 I MO 28 (nI (gn (isN ma (mn σ (dn σ))) (isN ma (mn σ (dn σ)) ∧ σ 22 (dn σ) = nI 0) True)) := ⟨_, rfl⟩
    rw [← eIg2]
    refine aft_v ?_
    refine mw_neB i_96_21 rfl (fun c3 => ?_) (fun c3 => ?_)
    · skip
      obtain ⟨p1, p2, p3⟩ := gn_0.mp c3
      obtain ⟨j, hj, rfl⟩ := p1
      have J4 : Mw (d9 + 1) b 96 35 [some (pR (some MO)), some (pI (nI j)), some (pI (bI (isN (nI j) (mn σ (dn σ))))), none] [pI (bI (σ 19 (36 * dn σ + 6 * j + 5) = nI 1))] K Ig2 R Q := by
        refine mw_istore i_96_35 (ls' := [some (pR (some MO)), some (pI (nI j)), some (pI (bI (isN (nI j) (mn σ (dn σ))))), some (pI (bI (σ 19 (36 * dn σ + 6 * j + 5) = nI 1)))]) rfl (Nat.le_of_ble_eq_true rfl) ?_
        refine mw_aload i_96_36 (L := MO) rfl ?_
        refine mw_getR i_96_37 (MK_o hM) (q := some (MA 19)) (MK_r hM 19 (by decide)) ?_
        refine mw_const i_96_38 (v := nI 36) (by decide) ?_
        refine mw_aload i_96_39 (L := MO) rfl ?_
        refine mw_get i_96_40 (MK_o hM) (v := nI (dn σ)) (by rw [eIg2, up2_slot (by decide)]; exact ((rs hm (by decide)).trans hV.2.2.1.1)) ?_
        refine mw_imul i_96_41 (w := nI (36 * (dn σ))) (pk_mul _ _) ?_
        refine mw_const i_96_42 (v := nI 6) (by decide) ?_
        refine mw_iload i_96_43 (x := nI j) rfl ?_
        refine mw_imul i_96_44 (w := nI (6 * j)) (pk_mul _ _) ?_
        refine mw_iadd i_96_45 (w := nI (36 * (dn σ) + (6 * j))) (nI_add _ _) ?_
        refine mw_const i_96_46 (v := nI 5) (by decide) ?_
        refine mw_iadd i_96_47 (w := nI (36 * (dn σ) + (6 * j) + 5)) (nI_add _ _) ?_
        refine mw_const i_96_48 (v := nI 1) (by decide) ?_
        obtain ⟨I25, e25⟩ : ∃ I25, I25 = up2 Ig2 (MA 19) (36 * (dn σ) + (6 * j) + 5) (nI 1) := ⟨_, rfl⟩
        refine mw_iast i_96_49 (jn := 36 * (dn σ) + (6 * j) + 5) (n := 36000) (by omega) (by omega) (x := nI 1) (show K (MA 19) = some (7, 36000) from MK_k hM 19 (by decide)) (I' := I25) e25.symm ?_
        refine mw_iload i_96_50 (x := bI (σ 19 (36 * dn σ + 6 * j + 5) = nI 1)) rfl ?_
        refine mw_iretB i_96_51 ?_
        have h01 : bI (σ 19 (36 * dn σ + 6 * j + 5) = nI 1) = σ 19 (36 * dn σ + 6 * j + 5) := by
          rcases ((hV.2.2.2.2.2.1 (dn σ) (by omega)).2.2.2.2.1 j hj).2.2.2.2.2.2 with h9 | h9
          · rw [h9]; exact bI_f (by decide)
          · rw [h9]; exact bI_t rfl
        exact q0 j hj rfl p2.2 _ ((e25.symm ▸ FrM_up ((eIg2.symm ▸ FrM_up (FrM_rfl) (by decide))) (by decide))) (by rw [e25, up2_ne (by simp), eIg2, up2_at, upd_at, c3]) (by rw [e25, mv_a (by decide) (by decide) (by decide) (by decide), eIg2, mv_o (by decide), hm]) _ h01
      refine mw_aload i_96_24 (L := MO) rfl ?_
      refine mw_aload i_96_25 (L := MO) rfl ?_
      refine mw_get i_96_26 (MK_o hM) (v := nI (dn σ)) (by rw [eIg2, up2_slot (by decide)]; exact ((rs hm (by decide)).trans hV.2.2.1.1)) ?_
      refine mw_iload i_96_27 (x := nI j) rfl ?_
      refine mw_const i_96_28 (v := nI 5) (by decide) ?_
      have hmg : mv Ig2 = σ := by rw [eIg2, mv_o (by decide), hm]
      refine mw_callV i_96_29 mf_81 (as := [pI (nI (dn σ)), pI (nI j), pI (nI 5)]) (rest := []) (d' := d9) (b' := b) (ls0 := [some (pR (some MO)), some (pI (nI (dn σ))), some (pI (nI j)), some (pI (nI 5))]) rfl rfl rfl (Nat.le_of_ble_eq_true rfl) (MK_o hM) rfl rfl rfl ?_
      refine m_of hM (by omega) (by omega) (by omega) ?_
      rw [show Ig2 (MA 19) (36 * dn σ + 6 * j + 5) = σ 19 (36 * dn σ + 6 * j + 5) from rm hmg (by decide) _]
      refine aft_v ?_
      refine mw_const i_96_30 (v := nI 1) (by decide) ?_
      refine mw_ic i_96_31 (p := ¬ (σ 19 (36 * dn σ + 6 * j + 5)) = (nI 1)) Iff.rfl (fun c6 => ?_) (fun c6 => ?_)
      · skip
        refine mw_const i_96_34 (v := nI 0) (by decide) ?_
        rw [show nI 0 = bI (σ 19 (36 * dn σ + 6 * j + 5) = nI 1) from (bI_f (c6)).symm]
        exact J4
      · skip
        refine mw_const i_96_32 (v := nI 1) (by decide) ?_
        refine mw_goto i_96_33 ?_
        rw [show nI 1 = bI (σ 19 (36 * dn σ + 6 * j + 5) = nI 1) from (bI_t ((Classical.not_not.mp c6))).symm]
        exact J4
    · skip
      refine mw_const i_96_22 (v := nI 0) (by decide) ?_
      refine mw_iret i_96_23 (x := nI 0) (fun _ => (by decide)) ?_
      have h28 : Ig2 MO 28 = nI (gn (isN ma (mn σ (dn σ))) (isN ma (mn σ (dn σ)) ∧ σ 22 (dn σ) = nI 0) True) := by rw [eIg2, up2_at, upd_at]
      have hmv : mv Ig2 = σ := by rw [eIg2, mv_o (by decide), hm]
      have hfr : FrM I Ig2 := (eIg2.symm ▸ FrM_up (FrM_rfl) (by decide))
      by_cases p19 : isN ma (mn σ (dn σ))
      rotate_left
      · exact q1 p19 Ig2 hfr (h28.trans (by rw [gn_1 p19])) hmv
      by_cases p29 : isN ma (mn σ (dn σ)) ∧ σ 22 (dn σ) = nI 0
      rotate_left
      · exact q2 p19 p29 Ig2 hfr (h28.trans (by rw [gn_2 p19 p29])) hmv
      exact absurd (gn_t p19 p29 trivial) c3
  refine mw_iload i_96_8 (x := bI (isN ma (mn σ (dn σ)))) rfl ?_
  refine mw_eqB i_96_9 rfl (fun c7 => ?_) (fun c7 => ?_)
  · skip
    refine mw_const i_96_18 (v := nI 0) (by decide) ?_
    rw [show nI 0 = bI (isN ma (mn σ (dn σ)) ∧ σ 22 (dn σ) = nI 0) from (bI_f ((fun h => c7 h.1))).symm]
    exact J1
  · skip
    refine mw_aload i_96_10 (L := MO) rfl ?_
    refine mw_getR i_96_11 (MK_o hM) (q := some (MA 22)) (MK_r hM 22 (by decide)) ?_
    refine mw_aload i_96_12 (L := MO) rfl ?_
    refine mw_get i_96_13 (MK_o hM) (v := nI (dn σ)) ((rs hm (by decide)).trans hV.2.2.1.1) ?_
    refine mw_bald i_96_14 (jn := dn σ) (n := 1000) (by omega) (by omega) (show K (MA 22) = some (8, 1000) from MK_k hM 22 (by decide)) (v := σ 22 (dn σ)) (rm hm (by decide) (dn σ)) ?_
    refine mw_if i_96_15 (p := ¬ (σ 22 (dn σ)) = nI 0) Iff.rfl (fun c8 => ?_) (fun c8 => ?_)
    · skip
      refine mw_const i_96_18 (v := nI 0) (by decide) ?_
      rw [show nI 0 = bI (isN ma (mn σ (dn σ)) ∧ σ 22 (dn σ) = nI 0) from (bI_f ((fun h => c8 h.2))).symm]
      exact J1
    · skip
      refine mw_const i_96_16 (v := nI 1) (by decide) ?_
      refine mw_goto i_96_17 ?_
      rw [show nI 1 = bI (isN ma (mn σ (dn σ)) ∧ σ 22 (dn σ) = nI 0) from (bI_t (⟨c7, Classical.not_not.mp c8⟩)).symm]
      exact J1
