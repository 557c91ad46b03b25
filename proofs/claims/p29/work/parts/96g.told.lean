/-! a row of a card changes; a match is struck -/
theorem LR_row {n : Nat} {σ : ST} {I : IM} (h : LR n σ I) {x m f : Nat} {v : Int32} (h1 : dn σ ≤ x) (h2 : x < dn σ + 3) (hm : m < 3) (hf : f < 6) (h4 : f ≠ 4) : LR n (ups σ 19 (36 * x + 6 * m + f) v) (up2 I QK (18 * (x % 3) + 6 * m + f) v) := by
  have g19 : ∀ j, j ≠ 36 * x + 6 * m + f → ups σ 19 (36 * x + 6 * m + f) v 19 j = σ 19 j := fun j hj => by rw [ups_at, upd_ne hj]
  have gk : ∀ j, j ≠ 18 * (x % 3) + 6 * m + f → up2 I QK (18 * (x % 3) + 6 * m + f) v QK j = I QK j := fun j hj => by rw [up2_at, upd_ne hj]
  have g20 : mn (ups σ 19 (36 * x + 6 * m + f) v) = mn σ := funext (fun q => mn_eq (ups_ne (by decide)) q)
  refine LR_K h (fun L a b => up2_ne b) (fun j _ => by rw [up2_ne (by decide)]) (fun k hk => ups_ne (by omega)) (fun y hy1 hy2 => ?_) (fun y _ _ => ⟨by rw [ups_ne (by decide)], by rw [ups_ne (by decide)]⟩)
  have hK := LR_card h hy1 hy2
  by_cases e : y = x
  · subst e
    obtain ⟨g1, g2, g3, g4, g5⟩ := hK
    refine ⟨?_, ?_, ?_, ?_, fun j hj => ?_⟩
    · rw [up2_ne (by decide), g20]; exact g1
    · rw [g20]; exact g2
    · rw [g20, up2_ne (by decide), ups_ne (by decide)]; exact g3
    · rw [up2_ne (by decide), ups_ne (by decide)]; exact g4
    · rw [g20] at hj
      have hk := g5 j hj
      by_cases ej : j = m
      · subst ej
        have e2 : ∀ q, q < 6 → q ≠ f → ups σ 19 (36 * y + 6 * j + f) v 19 (36 * y + 6 * j + q) = σ 19 (36 * y + 6 * j + q) := fun q _ hq2 => g19 _ (by omega)
        have e3 : ∀ q, q < 6 → q ≠ f → up2 I QK (18 * (y % 3) + 6 * j + f) v QK (18 * (y % 3) + 6 * j + q) = I QK (18 * (y % 3) + 6 * j + q) := fun q _ hq2 => gk _ (by omega)
        have e4 : ups σ 19 (36 * y + 6 * j + f) v 19 (36 * y + 6 * j + f) = v := by rw [ups_at, upd_at]
        have e5 : up2 I QK (18 * (y % 3) + 6 * j + f) v QK (18 * (y % 3) + 6 * j + f) = v := by rw [up2_at, upd_at]
        have e6 : ∀ q, q < 6 → q ≠ 4 → I QK (18 * (y % 3) + 6 * j + q) = σ 19 (36 * y + 6 * j + q) → up2 I QK (18 * (y % 3) + 6 * j + f) v QK (18 * (y % 3) + 6 * j + q) = ups σ 19 (36 * y + 6 * j + f) v 19 (36 * y + 6 * j + q) := fun q hq _ hr => by
          by_cases eq : q = f
          · subst eq; rw [e4, e5]
          · rw [e2 q hq eq, e3 q hq eq]; exact hr
        exact ⟨e6 0 (by decide) (by decide) hk.1, e6 1 (by decide) (by decide) hk.2.1, e6 2 (by decide) (by decide) hk.2.2.1, e6 3 (by decide) (by decide) hk.2.2.2.1, by rw [e2 4 (by decide) (Ne.symm h4), e3 4 (by decide) (Ne.symm h4)]; exact hk.2.2.2.2.1, e6 5 (by decide) (by decide) hk.2.2.2.2.2⟩
      · have e2 : ∀ q, q < 6 → ups σ 19 (36 * y + 6 * m + f) v 19 (36 * y + 6 * j + q) = σ 19 (36 * y + 6 * j + q) := fun q _ => g19 _ (by omega)
        have e3 : ∀ q, q < 6 → up2 I QK (18 * (y % 3) + 6 * m + f) v QK (18 * (y % 3) + 6 * j + q) = I QK (18 * (y % 3) + 6 * j + q) := fun q _ => gk _ (by omega)
        have e20 := e2 0 (by decide)
        have e30 := e3 0 (by decide)
        rw [Nat.add_zero] at e20 e30
        unfold LKj
        rw [e20, e30, e2 1 (by decide), e2 2 (by decide), e2 3 (by decide), e2 4 (by decide), e2 5 (by decide), e3 1 (by decide), e3 2 (by decide), e3 3 (by decide), e3 4 (by decide), e3 5 (by decide)]
        exact hk
  · have hy3 : y % 3 ≠ x % 3 := by omega
    exact LK_o hK (by rw [ups_ne (by decide)]) (by rw [ups_ne (by decide)]) (by rw [ups_ne (by decide)]) (fun q hq => g19 _ (by omega)) (fun q hq => gk _ (by omega)) ⟨by rw [up2_ne (by decide)], by rw [up2_ne (by decide)], by rw [up2_ne (by decide)]⟩
theorem mn_stS {σ : ST} {x m : Nat} (h0 : mn σ x < 1000) : mn (stS σ x m) x = mn σ x - 1 := by
  show (stS σ x m 20 x).toNatClampNeg = _
  unfold stS
  rw [ups_at, upd_at, nI_clamp (by omega)]
theorem stS_20o {σ : ST} {x m y : Nat} (h : y ≠ x) : stS σ x m 20 y = σ 20 y := by
  unfold stS
  rw [ups_at, upd_ne h]
  rfl
/-- the law's rows behind a strike -/
def ShK (k : Nat → Int32) (lo hi : Nat) : Nat → Int32 := fun j => if lo ≤ j ∧ j < hi then k (j + 6) else k j
theorem LR_strike {n : Nat} {σ : ST} {I I' : IM} (h : LR n σ I) {x m : Nat} (h1 : dn σ ≤ x) (h2 : x < dn σ + 3) (hx : x < 1000) (hm : m < mn σ x) (hI : ∀ L, L ≠ QM → L ≠ QK → I' L = I L) (hM : I' QM = upd (I QM) (1 + x % 3) (nI (mn σ x - 1))) (hK : I' QK = ShK (I QK) (18 * (x % 3) + 6 * m) (18 * (x % 3) + 6 * (mn σ x - 1))) : LR n (stS σ x m) I' := by
  have hc := LR_card h h1 h2
  have g2 := hc.2.1
  refine LR_K h hI (fun j hj => by rw [hM, upd_ne (by omega)]) (fun k hk => stS_o (by omega) (by omega)) (fun y hy1 hy2 => ?_) (fun y hy1 hy2 => ⟨stS_20o (by omega), by rw [stS_o (by decide) (by decide)]⟩)
  by_cases e : y = x
  · subst e
    obtain ⟨g1, -, g3, g4, g5⟩ := hc
    have en := mn_stS (σ := σ) (x := y) (m := m) (by omega)
    refine ⟨?_, ?_, fun h0 => ?_, ?_, fun j hj => ?_⟩
    · rw [hM, upd_at, en]
    · rw [en]; omega
    · rw [hM, upd_ne (by omega), stS_o (by decide) (by decide)]; exact g3 (by omega)
    · rw [hM, upd_ne (by omega), stS_o (by decide) (by decide)]; exact g4
    · rw [en] at hj
      by_cases hjm : m ≤ j
      · have hk := g5 (j + 1) (by omega)
        have e2 : ∀ q, q < 6 → stS σ y m 19 (36 * y + 6 * j + q) = σ 19 (36 * y + 6 * (j + 1) + q) := fun q hq => by
          rw [stS_19, if_pos (by omega)]
          congr 1; omega
        have e3 : ∀ q, q < 6 → I' QK (18 * (y % 3) + 6 * j + q) = I QK (18 * (y % 3) + 6 * (j + 1) + q) := fun q hq => by
          rw [hK]; unfold ShK
          rw [if_pos (by omega)]
          congr 1; omega
        have e20 := e2 0 (by decide)
        have e30 := e3 0 (by decide)
        rw [Nat.add_zero, Nat.add_zero] at e20 e30
        unfold LKj
        rw [e20, e30, e2 1 (by decide), e2 2 (by decide), e2 3 (by decide), e2 4 (by decide), e2 5 (by decide), e3 1 (by decide), e3 2 (by decide), e3 3 (by decide), e3 4 (by decide), e3 5 (by decide)]
        exact hk
      · have hk := g5 j (by omega)
        have e2 : ∀ q, q < 6 → stS σ y m 19 (36 * y + 6 * j + q) = σ 19 (36 * y + 6 * j + q) := fun q hq => by
          rw [stS_19, if_neg (by omega)]
        have e3 : ∀ q, q < 6 → I' QK (18 * (y % 3) + 6 * j + q) = I QK (18 * (y % 3) + 6 * j + q) := fun q hq => by
          rw [hK]; unfold ShK
          rw [if_neg (by omega)]
        have e20 := e2 0 (by decide)
        have e30 := e3 0 (by decide)
        rw [Nat.add_zero] at e20 e30
        unfold LKj
        rw [e20, e30, e2 1 (by decide), e2 2 (by decide), e2 3 (by decide), e2 4 (by decide), e2 5 (by decide), e3 1 (by decide), e3 2 (by decide), e3 3 (by decide), e3 4 (by decide), e3 5 (by decide)]
        exact hk
  · have hy3 : y % 3 ≠ x % 3 := by omega
    refine LK_o (LR_card h hy1 hy2) (stS_20o e) (by rw [stS_o (by decide) (by decide)]) (by rw [stS_o (by decide) (by decide)]) (fun q hq => ?_) (fun q hq => ?_) ⟨?_, ?_, ?_⟩
    · rw [stS_19, if_neg (by omega)]
    · rw [hK]; unfold ShK; rw [if_neg (by omega)]
    · rw [hM, upd_ne (by omega)]
    · rw [hM, upd_ne (by omega)]
    · rw [hM, upd_ne (by omega)]
theorem ShK_0 {k : Nat → Int32} {lo : Nat} : ShK k lo lo = k := by
  funext j
  unfold ShK
  rw [if_neg (by omega)]
theorem ShK_s {k : Nat → Int32} {lo hi : Nat} (h : lo ≤ hi) : upd (ShK k lo hi) hi (k (hi + 6)) = ShK k lo (hi + 1) := by
  funext j
  show (if j = hi then k (hi + 6) else (if lo ≤ j ∧ j < hi then k (j + 6) else k j)) = (if lo ≤ j ∧ j < hi + 1 then k (j + 6) else k j)
  by_cases e : j = hi
  · subst e
    rw [if_pos rfl, if_pos (by omega)]
  · rw [if_neg e]
    by_cases h2 : lo ≤ j ∧ j < hi
    · rw [if_pos h2, if_pos (by omega)]
    · rw [if_neg h2, if_neg (by omega)]
theorem ShK_at {k : Nat → Int32} {lo hi j : Nat} (h : hi ≤ j) : ShK k lo hi j = k j := by
  unfold ShK
  rw [if_neg (by omega)]
set_option maxRecDepth 20000 in
set_option maxHeartbeats 400000 in
theorem a_strike_lp {d : Nat} {b : Nat} {K : KM} {R : RM} {Q : QT} {x m c : Nat} {I0 : IM} (hQ : KQ K) (hx : x < 1000) (h3 : c ≤ 3) (hm : m < c) (hc : I0 QM (1 + x % 3) = nI c) (q : ∀ I', (∀ L, L ≠ QM → L ≠ QK → I' L = I0 L) → I' QM = upd (I0 QM) (1 + x % 3) (nI (c - 1)) → I' QK = ShK (I0 QK) (18 * (x % 3) + 6 * m) (18 * (x % 3) + 6 * (c - 1)) → Q (.inl none) K I' R) : ∀ (n j : Nat) (I : IM), (18 * (x % 3) + 6 * c) - j < n → j ≤ (18 * (x % 3) + 6 * c) → (∀ L, L ≠ QK → I L = I0 L) → (I QK = ShK (I0 QK) (18 * (x % 3) + 6 * m) (j - 6)) → (18 * (x % 3) + 6 * m + 6 ≤ j) → Mw d b N_L_strike 20 [some (pR (some QK)), some (pR (some QM)), some (pI (nI x)), some (pI (nI m)), some (pI (nI (18 * (x % 3) + 6 * c))), some (pI (nI j))] [] K I R Q := by
  intro n
  induction n with
  | zero => intro j I  hn; exact absurd hn (Nat.not_lt_zero _)
  | succ n ih =>
    intro j I  hn hi hI hK hj
    refine mw_iload i_86_20 (x := nI j) rfl ?_
    refine mw_iload i_86_21 (x := nI (18 * (x % 3) + 6 * c)) rfl ?_
    refine mw_ic i_86_22 (p := (18 * (x % 3) + 6 * c) ≤ j) (nI_leI (by omega) (by omega)) (fun c1 => ?_) (fun c1 => ?_)
    · skip
      refine mw_aload i_86_33 (L := QM) rfl ?_
      refine mw_const i_86_34 (v := nI 1) (by decide) ?_
      refine mw_iload i_86_35 (x := nI x) rfl ?_
      refine mw_const i_86_36 (v := nI 3) (by decide) ?_
      refine mw_irem i_86_37 (by decide) (w := nI (x % 3)) (pk_rem (by omega) (by omega) (by omega)) ?_
      refine mw_iadd i_86_38 (w := nI (1 + (x % 3))) (nI_add _ _) ?_
      refine mw_dup2 i_86_39 trivial trivial ?_
      refine mw_iald i_86_40 (jn := 1 + (x % 3)) (n := 18) (by omega) (by omega) hQ.2.2.2.2.2 (by decide) (v := nI c) (by rw [hI QM (by decide)]; exact hc) ?_
      refine mw_const i_86_41 (v := nI 1) (by decide) ?_
      refine mw_isub i_86_42 (w := nI (c - 1)) (pk_sub (by omega)) ?_
      refine mw_iast i_86_43 (jn := 1 + (x % 3)) (n := 18) (by omega) (by omega) (x := nI (c - 1)) hQ.2.2.2.2.2 (I' := up2 I QM (1 + (x % 3)) (nI (c - 1))) rfl ?_
      refine mw_ret i_86_44 ?_
      refine q _ (fun L a b => by rw [up2_ne a]; exact hI L b) (by rw [up2_at, hI QM (by decide)]) ?_
      rw [up2_ne (by decide), hK]
      congr 1
      omega
    · skip
      refine mw_aload i_86_23 (L := QK) rfl ?_
      refine mw_iload i_86_24 (x := nI j) rfl ?_
      refine mw_const i_86_25 (v := nI 6) (by decide) ?_
      refine mw_isub i_86_26 (w := nI (j - 6)) (pk_sub (by omega)) ?_
      refine mw_aload i_86_27 (L := QK) rfl ?_
      refine mw_iload i_86_28 (x := nI j) rfl ?_
      refine mw_iald i_86_29 (jn := j) (n := 54) (by omega) (by omega) hQ.2.2.2.2.1 (by decide) (v := I0 QK j) (by rw [hK, ShK_at (by omega)]) ?_
      refine mw_iast i_86_30 (jn := j - 6) (n := 54) (by omega) (by omega) (x := I0 QK j) hQ.2.2.2.2.1 (I' := up2 I QK (j - 6) (I0 QK j)) rfl ?_
      refine mw_iinc i_86_31 (x := nI j) (v := nI (j + 1)) (ls' := [some (pR (some QK)), some (pR (some QM)), some (pI (nI x)), some (pI (nI m)), some (pI (nI (18 * (x % 3) + 6 * c))), some (pI (nI (j + 1)))]) rfl (nI_add _ _) rfl ?_
      refine mw_goto i_86_32 ?_
      exact ih (j + 1) _ (by omega) (by omega) (fun L hL => by rw [up2_ne hL]; exact hI L hL) (by rw [up2_at, hK, show j = (j - 6) + 6 by omega, Nat.add_sub_cancel, ShK_s (by omega), show j - 6 + 6 + 1 - 6 = j - 6 + 1 by omega]) (by omega)
set_option maxRecDepth 20000 in
set_option maxHeartbeats 400000 in
theorem a_strike {d b : Nat} {K : KM} {I : IM} {R : RM} {Q : QT} {x m c : Nat} (hd : 1 ≤ d) (hQ : KQ K) (hx : x < 1000) (h3 : c ≤ 3) (hm : m < c) (hc : I QM (1 + x % 3) = nI c) (q : ∀ I', (∀ L, L ≠ QM → L ≠ QK → I' L = I L) → I' QM = upd (I QM) (1 + x % 3) (nI (c - 1)) → I' QK = ShK (I QK) (18 * (x % 3) + 6 * m) (18 * (x % 3) + 6 * (c - 1)) → Q (.inl none) K I' R) : Mw d b N_L_strike 0 [some (pR (some QK)), some (pR (some QM)), some (pI (nI x)), some (pI (nI m)), none, none] [] K I R Q := by
  obtain ⟨d9, rfl⟩ : ∃ d9, d = d9 + 1 := ⟨d - 1, by omega⟩
  refine mw_aload i_86_0 (L := QM) rfl ?_
  refine mw_iload i_86_1 (x := nI x) rfl ?_
  refine mw_callS i_86_2 mf_78 (as := [pR (some QM), pI (nI x)]) (rest := []) (d' := d9) (b' := b) (ls0 := [some (pR (some QM)), some (pI (nI x))]) rfl rfl rfl (Nat.le_of_ble_eq_true rfl) rfl rfl rfl ?_
  refine a_slot hx ?_
  refine aft_v ?_
  refine mw_const i_86_3 (v := nI 6) (by decide) ?_
  refine mw_aload i_86_4 (L := QM) rfl ?_
  refine mw_iload i_86_5 (x := nI x) rfl ?_
  refine mw_callS i_86_6 mf_79 (as := [pR (some QM), pI (nI x)]) (rest := [pI (nI 6), pI (nI (18 * (x % 3)))]) (d' := d9) (b' := b) (ls0 := [some (pR (some QM)), some (pI (nI x))]) rfl rfl rfl (Nat.le_of_ble_eq_true rfl) rfl rfl rfl ?_
  refine a_many hQ hx hc ?_
  refine aft_v ?_
  refine mw_imul i_86_7 (w := nI (6 * c)) (pk_mul _ _) ?_
  refine mw_iadd i_86_8 (w := nI (18 * (x % 3) + (6 * c))) (nI_add _ _) ?_
  refine mw_istore i_86_9 (ls' := [some (pR (some QK)), some (pR (some QM)), some (pI (nI x)), some (pI (nI m)), some (pI (nI (18 * (x % 3) + (6 * c)))), none]) rfl (Nat.le_of_ble_eq_true rfl) ?_
  refine mw_aload i_86_10 (L := QM) rfl ?_
  refine mw_iload i_86_11 (x := nI x) rfl ?_
  refine mw_callS i_86_12 mf_78 (as := [pR (some QM), pI (nI x)]) (rest := []) (d' := d9) (b' := b) (ls0 := [some (pR (some QM)), some (pI (nI x))]) rfl rfl rfl (Nat.le_of_ble_eq_true rfl) rfl rfl rfl ?_
  refine a_slot hx ?_
  refine aft_v ?_
  refine mw_const i_86_13 (v := nI 6) (by decide) ?_
  refine mw_iload i_86_14 (x := nI m) rfl ?_
  refine mw_imul i_86_15 (w := nI (6 * m)) (pk_mul _ _) ?_
  refine mw_iadd i_86_16 (w := nI (18 * (x % 3) + (6 * m))) (nI_add _ _) ?_
  refine mw_const i_86_17 (v := nI 6) (by decide) ?_
  refine mw_iadd i_86_18 (w := nI (18 * (x % 3) + (6 * m) + 6)) (nI_add _ _) ?_
  refine mw_istore i_86_19 (ls' := [some (pR (some QK)), some (pR (some QM)), some (pI (nI x)), some (pI (nI m)), some (pI (nI (18 * (x % 3) + (6 * c)))), some (pI (nI (18 * (x % 3) + (6 * m) + 6)))]) rfl (Nat.le_of_ble_eq_true rfl) ?_
  exact a_strike_lp (I0 := I) hQ hx h3 hm hc q (18 * (x % 3) + 6 * c + 1) (18 * (x % 3) + 6 * m + 6) I (by omega) (by omega) (fun _ _ => rfl) (by rw [Nat.add_sub_cancel, ShK_0]) (by omega)
theorem b_strike {d b : Nat} {K : KM} {I : IM} {R : RM} {Q : QT} {n x m : Nat} {σ : ST} (hd : 1 ≤ d) (hQ : KQ K) (hL : LR n σ I) (h1 : dn σ ≤ x) (h2 : x < dn σ + 3) (hx : x < 1000) (hm : m < mn σ x) (q : ∀ I', FrQ I I' → LR n (stS σ x m) I' → Q (.inl none) K I' R) : Mw d b N_L_strike 0 [some (pR (some QK)), some (pR (some QM)), some (pI (nI x)), some (pI (nI m)), none, none] [] K I R Q := by
  have hc := LR_card hL h1 h2
  refine a_strike hd hQ hx hc.2.1 hm hc.1 (fun I' e1 e2 e3 => ?_)
  exact q I' (fun L hn => e1 L (fun e => hn (by rw [e])) (fun e => hn (by rw [e]))) (LR_strike hL h1 h2 hx hm e1 e2 e3)
theorem pch_0 {σ : ST} {i mc sl : Nat} (e : σ 2 i = nI mc) (hm : mc ≤ 99) (hs : sl < 10) (h : mc / 10 ≤ sl) : nI 0 = pch σ i (nI sl) := by
  unfold pch
  rw [e, pk_div (by omega) (by decide) (by decide), if_neg]
  rw [Int32.lt_iff_toInt_lt, pk_sub_toInt (by omega) (by omega), nI_toInt (by decide)]
  omega
theorem pch_1 {σ : ST} {i mc sl : Nat} (e : σ 2 i = nI mc) (hm : mc ≤ 99) (hs : sl < 10) (h : ¬ mc / 10 ≤ sl) : nI (mc / 10 - sl) = pch σ i (nI sl) := by
  unfold pch
  rw [e, pk_div (by omega) (by decide) (by decide), pk_sub (by omega), if_pos]
  rw [nI_ltI (by decide) (by omega)]
  omega
theorem b01 {x : Int32} (h : x = nI 0 ∨ x = nI 1) : x = bI (x = nI 1) := by
  rcases h with h | h
  · rw [h]; exact (bI_f (by decide)).symm
  · rw [h]; exact (bI_t rfl).symm
theorem un_ok {cv : Nat} (h : cv ≤ 1000) : inr (nI cv - nI 1) (-1) (nI 999) := by
  unfold inr
  rw [Int32.le_iff_toInt_le, Int32.le_iff_toInt_le, pk_sub_toInt (by omega) (by decide), nI_toInt (by decide)]
  constructor
  · show (-1 : Int) ≤ (cv : Int) - ((1 : Nat) : Int)
    omega
  · omega
set_option maxRecDepth 20000 in
set_option maxHeartbeats 400000 in
theorem c_told0 {d b : Nat} {K : KM} {I : IM} {R : RM} {Q : QT} {L n z : Nat} {σ : ST} (hd : 20 ≤ d) (hW9 : WQ L n σ K I R) (hn : n < 512) (hz : z < 1000000000)  (q : ∀ σ' K' I' R', WQ L (n + 1) σ' K' I' R' → Q (.inl (some (pI (nI 1)))) K' I' R') : Mw d (b + 35) N_L_isTold 0 [some (pR (some RING)), some (pR (some QW)), some (pR (some QV)), some (pR (some QC)), some (pR (some QK)), some (pR (some QM)), some (pI (nI 0)), some (pI (nI z)), none, none, none, none, none] [] K I R Q := by
  obtain ⟨d9, rfl⟩ : ∃ d9, d = d9 + 1 := ⟨d - 1, by omega⟩
  obtain ⟨hW, hL, hQ, hK0⟩ := hW9
  have hV := hW.2.2
  have hdd9 := hV.2.2.1.2
  have h10 := hL.2.2.2.2.2.2.2.2.2.1
  have hd0 := hV.2.2.1.1
  have hdn := hL.2.2.2.2.2.2.2.2.2.2.2
  obtain ⟨i, ei⟩ : ∃ i, i = z % 7 := ⟨_, rfl⟩
  have hi : i < 7 := by rw [ei]; exact Nat.mod_lt _ (by decide)
  obtain ⟨j, ej⟩ : ∃ j, j = (i + 1 + z / 7 % 6) % 7 := ⟨_, rfl⟩
  have hj : j < 7 := by rw [ej]; exact Nat.mod_lt _ (by decide)
  have hij : ¬ i = j := by omega
  obtain ⟨cv, ecv⟩ : ∃ cv, cv = (if z / 42 % 3 = 0 then 0 else dn σ + z / 126 % 5 + 1) := ⟨_, rfl⟩
  have hcv : cv ≤ 1000 := by
    rw [ecv]
    split <;> omega
  refine mw_iload i_98_0 (x := nI z) rfl ?_
  refine mw_const i_98_1 (v := nI 7) (by decide) ?_
  refine mw_irem i_98_2 (by decide) (w := nI i) (by rw [ei]; exact pk_rem (by omega) (by decide) (by decide)) ?_
  refine mw_istore i_98_3 (ls' := [some (pR (some RING)), some (pR (some QW)), some (pR (some QV)), some (pR (some QC)), some (pR (some QK)), some (pR (some QM)), some (pI (nI 0)), some (pI (nI z)), some (pI (nI i)), none, none, none, none]) rfl (Nat.le_of_ble_eq_true rfl) ?_
  refine mw_iload i_98_4 (x := nI i) rfl ?_
  refine mw_const i_98_5 (v := nI 1) (by decide) ?_
  refine mw_iadd i_98_6 (w := nI (i + 1)) (nI_add _ _) ?_
  refine mw_iload i_98_7 (x := nI z) rfl ?_
  refine mw_const i_98_8 (v := nI 7) (by decide) ?_
  refine mw_idiv i_98_9 (by decide) (w := nI (z / 7)) (pk_div (by omega) (by omega) (by omega)) ?_
  refine mw_const i_98_10 (v := nI 6) (by decide) ?_
  refine mw_irem i_98_11 (by decide) (w := nI ((z / 7) % 6)) (pk_rem (by omega) (by omega) (by omega)) ?_
  refine mw_iadd i_98_12 (w := nI (i + 1 + ((z / 7) % 6))) (nI_add _ _) ?_
  refine mw_const i_98_13 (v := nI 7) (by decide) ?_
  refine mw_irem i_98_14 (by decide) (w := nI j) (by rw [ej]; exact pk_rem (by omega) (by decide) (by decide)) ?_
  refine mw_istore i_98_15 (ls' := [some (pR (some RING)), some (pR (some QW)), some (pR (some QV)), some (pR (some QC)), some (pR (some QK)), some (pR (some QM)), some (pI (nI 0)), some (pI (nI z)), some (pI (nI i)), some (pI (nI j)), none, none, none]) rfl (Nat.le_of_ble_eq_true rfl) ?_
  refine mw_iload i_98_16 (x := nI 0) rfl ?_
  refine mw_ifF i_98_17 (show ¬ (¬ nI 0 = 0) by decide) ?_
  refine mw_aload i_98_18 (L := QC) rfl ?_
  refine mw_const i_98_19 (v := nI 7) (by decide) ?_
  refine mw_iload i_98_20 (x := nI i) rfl ?_
  refine mw_imul i_98_21 (w := nI (7 * i)) (pk_mul _ _) ?_
  refine mw_iload i_98_22 (x := nI j) rfl ?_
  refine mw_iadd i_98_23 (w := nI (7 * i + j)) (nI_add _ _) ?_
  refine mw_iald i_98_24 (jn := 7 * i + j) (n := 49) (by omega) (by omega) hQ.2.2.1 (by decide) (v := σ 11 (10 * i + j)) (hL.2.2.1 i (by omega) j (by omega)) ?_
  refine mw_const i_98_25 (v := nI 1) (by decide) ?_
  refine mw_isub i_98_26 (w := ((σ 11 (10 * i + j)) - (nI 1))) rfl ?_
  refine mw_istore i_98_27 (ls' := [some (pR (some RING)), some (pR (some QW)), some (pR (some QV)), some (pR (some QC)), some (pR (some QK)), some (pR (some QM)), some (pI (nI 0)), some (pI (nI z)), some (pI (nI i)), some (pI (nI j)), some (pI ((σ 11 (10 * i + j)) - (nI 1))), none, none]) rfl (Nat.le_of_ble_eq_true rfl) ?_
  refine mw_aload i_98_28 (L := QC) rfl ?_
  refine mw_const i_98_29 (v := nI 7) (by decide) ?_
  refine mw_iload i_98_30 (x := nI i) rfl ?_
  refine mw_imul i_98_31 (w := nI (7 * i)) (pk_mul _ _) ?_
  refine mw_iload i_98_32 (x := nI j) rfl ?_
  refine mw_iadd i_98_33 (w := nI (7 * i + j)) (nI_add _ _) ?_
  have J1 : Mw (d9 + 1) (b + 35) 98 53 [some (pR (some RING)), some (pR (some QW)), some (pR (some QV)), some (pR (some QC)), some (pR (some QK)), some (pR (some QM)), some (pI (nI 0)), some (pI (nI z)), some (pI (nI i)), some (pI (nI j)), some (pI ((σ 11 (10 * i + j)) - (nI 1))), none, none] [pI (nI cv), pI (nI (7 * i + j)), pR (some QC)] K I R Q := by
    obtain ⟨I22, e22⟩ : ∃ I22, I22 = up2 I QC (7 * i + j) (nI cv) := ⟨_, rfl⟩
    refine mw_iast i_98_53 (jn := 7 * i + j) (n := 49) (by omega) (by omega) (x := nI cv) hQ.2.2.1 (I' := I22) e22.symm ?_
    obtain ⟨S3, eS3⟩ : ∃ S3, S3 = ups σ 11 (10 * i + j) (nI cv) := ⟨_, rfl⟩
    have hL3 : LR n S3 I22 := by rw [e22, eS3]; exact LR_cl hL (by omega)
    refine mw_aload i_98_54 (L := RING) rfl ?_
    refine mw_iload i_98_55 (x := nI i) rfl ?_
    refine mw_iload i_98_56 (x := nI j) rfl ?_
    refine mw_aload i_98_57 (L := QC) rfl ?_
    refine mw_const i_98_58 (v := nI 7) (by decide) ?_
    refine mw_iload i_98_59 (x := nI i) rfl ?_
    refine mw_imul i_98_60 (w := nI (7 * i)) (pk_mul _ _) ?_
    refine mw_iload i_98_61 (x := nI j) rfl ?_
    refine mw_iadd i_98_62 (w := nI (7 * i + j)) (nI_add _ _) ?_
    refine mw_iald i_98_63 (jn := 7 * i + j) (n := 49) (by omega) (by omega) hQ.2.2.1 (by decide) (v := nI cv) ((hL3.2.2.1 i (by omega) j (by omega)).trans (by rw [eS3, ups_at, upd_at])) ?_
    refine mw_const i_98_64 (v := nI 1) (by decide) ?_
    refine mw_isub i_98_65 (w := ((nI cv) - (nI 1))) rfl ?_
    have hW1 : CW n σ K I22 R := CW_Q hW (show FrQ I I22 from by rw [e22]; exact FrQ_up FrQ_rfl rfl)
    refine mw_callV i_98_66 mf_35 (as := [pI (nI i), pI (nI j), pI ((nI cv) - (nI 1))]) (rest := []) (d' := d9) (b' := b + 28) (ls0 := [some (pR (some RING)), some (pI (nI i)), some (pI (nI j)), some (pI ((nI cv) - (nI 1))), none, none]) rfl rfl rfl (Nat.le_of_ble_eq_true rfl) hW.1.1.1.1 rfl (by omega) rfl ?_
    refine k_clause (by omega) hW1 (by omega) hn (fun h => absurd ⟨⟨i, by omega, rfl⟩, ⟨j, by omega, rfl⟩⟩ h) (fun x y hx hy ex ey h => absurd ⟨fun e => hij ((nI_inj ex (by omega) (by omega)).trans (e.trans (nI_inj ey (by omega) (by omega)).symm)), un_ok hcv⟩ h) (fun x y hx hy ex ey h I9 hF9 hR9 v hv => ?_)
    obtain rfl := nI_inj ex (by omega) (by omega)
    obtain rfl := nI_inj ey (by omega) (by omega)
    have hV9 := IV_clause hV (x := i) (y := j) (un_ok hcv)
    rw [Int32.sub_add_cancel] at hR9 hV9
    refine aft_v ?_
    refine mw_iload i_98_67 (x := ((σ 11 (10 * i + j)) - (nI 1))) rfl ?_
    refine mw_icF i_98_68 (fun h => h hv) ?_
    refine mw_const i_98_69 (v := nI 1) (by decide) ?_
    refine mw_goto i_98_70 ?_
    refine mw_iret i_98_72 (x := nI 1) (fun _ => (by decide)) ?_
    exact q _ K I9 R ⟨⟨hW.1, hR9, hV9⟩, LR_n (LR_C0 (eS3 ▸ hL3) hF9) (Nat.le_succ n), hQ, hK0⟩
  refine mw_iload i_98_34 (x := nI z) rfl ?_
  refine mw_const i_98_35 (v := nI 42) (by decide) ?_
  refine mw_idiv i_98_36 (by decide) (w := nI (z / 42)) (pk_div (by omega) (by omega) (by omega)) ?_
  refine mw_const i_98_37 (v := nI 3) (by decide) ?_
  refine mw_irem i_98_38 (by decide) (w := nI ((z / 42) % 3)) (pk_rem (by omega) (by omega) (by omega)) ?_
  refine mw_if i_98_39 (p := ¬ (nI ((z / 42) % 3)) = nI 0) Iff.rfl (fun c4 => ?_) (fun c4 => ?_)
  · skip
    refine mw_aload i_98_42 (L := QM) rfl ?_
    refine mw_const i_98_43 (v := nI 0) (by decide) ?_
    refine mw_iald i_98_44 (jn := 0) (n := 18) (by omega) (by omega) hQ.2.2.2.2.2 (by decide) (v := nI (dn σ)) (hL.2.2.2.2.1.trans hd0) ?_
    refine mw_iload i_98_45 (x := nI z) rfl ?_
    refine mw_const i_98_46 (v := nI 126) (by decide) ?_
    refine mw_idiv i_98_47 (by decide) (w := nI (z / 126)) (pk_div (by omega) (by omega) (by omega)) ?_
    refine mw_const i_98_48 (v := nI 5) (by decide) ?_
    refine mw_irem i_98_49 (by decide) (w := nI ((z / 126) % 5)) (pk_rem (by omega) (by omega) (by omega)) ?_
    refine mw_iadd i_98_50 (w := nI (dn σ + ((z / 126) % 5))) (nI_add _ _) ?_
    refine mw_const i_98_51 (v := nI 1) (by decide) ?_
    refine mw_iadd i_98_52 (w := nI (dn σ + ((z / 126) % 5) + 1)) (nI_add _ _) ?_
    exact mw_top (show nI (dn σ + ((z / 126) % 5) + 1) = nI cv from congrArg nI (by rw [ecv, if_neg (fun h => c4 (by rw [h]))])) J1
  · skip
    refine mw_const i_98_40 (v := nI 0) (by decide) ?_
    refine mw_goto i_98_41 ?_
    exact mw_top (show nI 0 = nI cv from congrArg nI (by rw [ecv, if_pos ((nI_eq (by omega) (by decide)).mp (Classical.not_not.mp c4))])) J1
set_option maxRecDepth 20000 in
set_option maxHeartbeats 400000 in
theorem c_told1 {d b : Nat} {K : KM} {I : IM} {R : RM} {Q : QT} {L n z : Nat} {σ : ST} (hd : 20 ≤ d) (hW9 : WQ L n σ K I R) (hn : n < 512) (hz : z < 1000000000)  (q : ∀ σ' K' I' R', WQ L (n + 1) σ' K' I' R' → Q (.inl (some (pI (nI 1)))) K' I' R') : Mw d (b + 35) N_L_isTold 0 [some (pR (some RING)), some (pR (some QW)), some (pR (some QV)), some (pR (some QC)), some (pR (some QK)), some (pR (some QM)), some (pI (nI 1)), some (pI (nI z)), none, none, none, none, none] [] K I R Q := by
  obtain ⟨d9, rfl⟩ : ∃ d9, d = d9 + 1 := ⟨d - 1, by omega⟩
  obtain ⟨hW, hL, hQ, hK0⟩ := hW9
  have hV := hW.2.2
  have hdd9 := hV.2.2.1.2
  have h10 := hL.2.2.2.2.2.2.2.2.2.1
  have hd0 := hV.2.2.1.1
  have hdn := hL.2.2.2.2.2.2.2.2.2.2.2
  obtain ⟨i, ei⟩ : ∃ i, i = z % 7 := ⟨_, rfl⟩
  have hi : i < 7 := by rw [ei]; exact Nat.mod_lt _ (by decide)
  obtain ⟨j, ej⟩ : ∃ j, j = (i + 1 + z / 7 % 6) % 7 := ⟨_, rfl⟩
  have hj : j < 7 := by rw [ej]; exact Nat.mod_lt _ (by decide)
  have hij : ¬ i = j := by omega
  obtain ⟨p, z0, hp, hz0, e12, e10, e8⟩ := (hL.1 i hi).2.2.2.2.2.2.2.2.1
  obtain ⟨dv, edv⟩ : ∃ dv, dv = (if z / 42 % 3 = 0 then 0 else dn σ + z / 126 % 4) := ⟨_, rfl⟩
  have hdv : dv ≤ 900 := by
    rw [edv]
    split <;> omega
  refine mw_iload i_98_0 (x := nI z) rfl ?_
  refine mw_const i_98_1 (v := nI 7) (by decide) ?_
  refine mw_irem i_98_2 (by decide) (w := nI i) (by rw [ei]; exact pk_rem (by omega) (by decide) (by decide)) ?_
  refine mw_istore i_98_3 (ls' := [some (pR (some RING)), some (pR (some QW)), some (pR (some QV)), some (pR (some QC)), some (pR (some QK)), some (pR (some QM)), some (pI (nI 1)), some (pI (nI z)), some (pI (nI i)), none, none, none, none]) rfl (Nat.le_of_ble_eq_true rfl) ?_
  refine mw_iload i_98_4 (x := nI i) rfl ?_
  refine mw_const i_98_5 (v := nI 1) (by decide) ?_
  refine mw_iadd i_98_6 (w := nI (i + 1)) (nI_add _ _) ?_
  refine mw_iload i_98_7 (x := nI z) rfl ?_
  refine mw_const i_98_8 (v := nI 7) (by decide) ?_
  refine mw_idiv i_98_9 (by decide) (w := nI (z / 7)) (pk_div (by omega) (by omega) (by omega)) ?_
  refine mw_const i_98_10 (v := nI 6) (by decide) ?_
  refine mw_irem i_98_11 (by decide) (w := nI ((z / 7) % 6)) (pk_rem (by omega) (by omega) (by omega)) ?_
  refine mw_iadd i_98_12 (w := nI (i + 1 + ((z / 7) % 6))) (nI_add _ _) ?_
  refine mw_const i_98_13 (v := nI 7) (by decide) ?_
  refine mw_irem i_98_14 (by decide) (w := nI j) (by rw [ej]; exact pk_rem (by omega) (by decide) (by decide)) ?_
  refine mw_istore i_98_15 (ls' := [some (pR (some RING)), some (pR (some QW)), some (pR (some QV)), some (pR (some QC)), some (pR (some QK)), some (pR (some QM)), some (pI (nI 1)), some (pI (nI z)), some (pI (nI i)), some (pI (nI j)), none, none, none]) rfl (Nat.le_of_ble_eq_true rfl) ?_
  refine mw_iload i_98_16 (x := nI 1) rfl ?_
  refine mw_ifT i_98_17 (show ¬ nI 1 = 0 by decide) ?_
  refine mw_iload i_98_73 (x := nI 1) rfl ?_
  refine mw_const i_98_74 (v := nI 1) (by decide) ?_
  refine mw_icF i_98_75 (show ¬ (¬ nI 1 = nI 1) by decide) ?_
  refine mw_aload i_98_76 (L := QW) rfl ?_
  refine mw_const i_98_77 (v := nI 9) (by decide) ?_
  refine mw_iload i_98_78 (x := nI i) rfl ?_
  refine mw_imul i_98_79 (w := nI (9 * i)) (pk_mul _ _) ?_
  refine mw_const i_98_80 (v := nI 8) (by decide) ?_
  refine mw_iadd i_98_81 (w := nI (9 * i + 8)) (nI_add _ _) ?_
  refine mw_iald i_98_82 (jn := 9 * i + 8) (n := 63) (by omega) (by omega) hQ.1 (by decide) (v := nI (2 * p + z0)) e8 ?_
  refine mw_const i_98_83 (v := nI 2) (by decide) ?_
  refine mw_idiv i_98_84 (by decide) (w := nI ((2 * p + z0) / 2)) (pk_div (by omega) (by omega) (by omega)) ?_
  refine mw_istore i_98_85 (ls' := [some (pR (some RING)), some (pR (some QW)), some (pR (some QV)), some (pR (some QC)), some (pR (some QK)), some (pR (some QM)), some (pI (nI 1)), some (pI (nI z)), some (pI (nI i)), some (pI (nI j)), some (pI (nI ((2 * p + z0) / 2))), none, none]) rfl (Nat.le_of_ble_eq_true rfl) ?_
  have J1 : Mw (d9 + 1) (b + 35) 98 103 [some (pR (some RING)), some (pR (some QW)), some (pR (some QV)), some (pR (some QC)), some (pR (some QK)), some (pR (some QM)), some (pI (nI 1)), some (pI (nI z)), some (pI (nI i)), some (pI (nI j)), some (pI (nI ((2 * p + z0) / 2))), none, none] [pI (nI dv)] K I R Q := by
    refine mw_istore i_98_103 (ls' := [some (pR (some RING)), some (pR (some QW)), some (pR (some QV)), some (pR (some QC)), some (pR (some QK)), some (pR (some QM)), some (pI (nI 1)), some (pI (nI z)), some (pI (nI i)), some (pI (nI j)), some (pI (nI ((2 * p + z0) / 2))), some (pI (nI dv)), none]) rfl (Nat.le_of_ble_eq_true rfl) ?_
    refine mw_aload i_98_104 (L := QW) rfl ?_
    refine mw_const i_98_105 (v := nI 9) (by decide) ?_
    refine mw_iload i_98_106 (x := nI i) rfl ?_
    refine mw_imul i_98_107 (w := nI (9 * i)) (pk_mul _ _) ?_
    refine mw_const i_98_108 (v := nI 8) (by decide) ?_
    refine mw_iadd i_98_109 (w := nI (9 * i + 8)) (nI_add _ _) ?_
    refine mw_const i_98_110 (v := nI 2) (by decide) ?_
    refine mw_iload i_98_111 (x := nI dv) rfl ?_
    refine mw_imul i_98_112 (w := nI (2 * dv)) (pk_mul _ _) ?_
    refine mw_aload i_98_113 (L := QW) rfl ?_
    refine mw_const i_98_114 (v := nI 9) (by decide) ?_
    refine mw_iload i_98_115 (x := nI i) rfl ?_
    refine mw_imul i_98_116 (w := nI (9 * i)) (pk_mul _ _) ?_
    refine mw_const i_98_117 (v := nI 8) (by decide) ?_
    refine mw_iadd i_98_118 (w := nI (9 * i + 8)) (nI_add _ _) ?_
    refine mw_iald i_98_119 (jn := 9 * i + 8) (n := 63) (by omega) (by omega) hQ.1 (by decide) (v := nI (2 * p + z0)) e8 ?_
    refine mw_const i_98_120 (v := nI 2) (by decide) ?_
    refine mw_irem i_98_121 (by decide) (w := nI ((2 * p + z0) % 2)) (pk_rem (by omega) (by omega) (by omega)) ?_
    refine mw_iadd i_98_122 (w := nI (2 * dv + ((2 * p + z0) % 2))) (nI_add _ _) ?_
    obtain ⟨I22, e22⟩ : ∃ I22, I22 = up2 I QW (9 * i + 8) (nI (2 * dv + ((2 * p + z0) % 2))) := ⟨_, rfl⟩
    refine mw_iast i_98_123 (jn := 9 * i + 8) (n := 63) (by omega) (by omega) (x := nI (2 * dv + ((2 * p + z0) % 2))) hQ.1 (I' := I22) e22.symm ?_
    obtain ⟨S3, eS3⟩ : ∃ S3, S3 = ups σ 12 i (nI dv) := ⟨_, rfl⟩
    have hL3 : LR n S3 I22 := by rw [e22, eS3]; exact LR_w8 hL (p := dv) (z := z0) (Or.inr rfl) (by omega) hz0 (by rw [ups_at, upd_at]) (by rw [ups_ne (by decide)]; exact e10) (congrArg nI (by omega))
    refine mw_aload i_98_124 (L := RING) rfl ?_
    refine mw_iload i_98_125 (x := nI i) rfl ?_
    refine mw_iload i_98_126 (x := nI dv) rfl ?_
    have hW1 : CW n σ K I22 R := CW_Q hW (show FrQ I I22 from by rw [e22]; exact FrQ_up FrQ_rfl rfl)
    refine mw_callV i_98_127 mf_36 (as := [pI (nI i), pI (nI dv)]) (rest := []) (d' := d9) (b' := b + 28) (ls0 := [some (pR (some RING)), some (pI (nI i)), some (pI (nI dv)), none]) rfl rfl rfl (Nat.le_of_ble_eq_true rfl) hW.1.1.1.1 rfl (by omega) rfl ?_
    refine k_protect (by omega) hW1 (by omega) hn (fun h => absurd ⟨i, by omega, rfl⟩ h) (fun x hx ex h => absurd ⟨dv, by omega, rfl⟩ h) (fun x hx ex h I9 hF9 hR9 v hv => ?_)
    obtain rfl := nI_inj ex (by omega) (by omega)
    have hv9 : v = nI ((2 * p + z0) / 2) := by rw [hv, e12]; congr 1; omega
    refine aft_v ?_
    refine mw_iload i_98_128 (x := nI ((2 * p + z0) / 2)) rfl ?_
    refine mw_icF i_98_129 (fun h => h hv9) ?_
    refine mw_const i_98_130 (v := nI 1) (by decide) ?_
    refine mw_goto i_98_131 ?_
    refine mw_iret i_98_133 (x := nI 1) (fun _ => (by decide)) ?_
    exact q _ K I9 R ⟨⟨hW.1, hR9, IV_prot hV⟩, LR_n (LR_C0 (eS3 ▸ hL3) hF9) (Nat.le_succ n), hQ, hK0⟩
  refine mw_iload i_98_86 (x := nI z) rfl ?_
  refine mw_const i_98_87 (v := nI 42) (by decide) ?_
  refine mw_idiv i_98_88 (by decide) (w := nI (z / 42)) (pk_div (by omega) (by omega) (by omega)) ?_
  refine mw_const i_98_89 (v := nI 3) (by decide) ?_
  refine mw_irem i_98_90 (by decide) (w := nI ((z / 42) % 3)) (pk_rem (by omega) (by omega) (by omega)) ?_
  refine mw_if i_98_91 (p := ¬ (nI ((z / 42) % 3)) = nI 0) Iff.rfl (fun c4 => ?_) (fun c4 => ?_)
  · skip
    refine mw_aload i_98_94 (L := QM) rfl ?_
    refine mw_const i_98_95 (v := nI 0) (by decide) ?_
    refine mw_iald i_98_96 (jn := 0) (n := 18) (by omega) (by omega) hQ.2.2.2.2.2 (by decide) (v := nI (dn σ)) (hL.2.2.2.2.1.trans hd0) ?_
    refine mw_iload i_98_97 (x := nI z) rfl ?_
    refine mw_const i_98_98 (v := nI 126) (by decide) ?_
    refine mw_idiv i_98_99 (by decide) (w := nI (z / 126)) (pk_div (by omega) (by omega) (by omega)) ?_
    refine mw_const i_98_100 (v := nI 4) (by decide) ?_
    refine mw_irem i_98_101 (by decide) (w := nI ((z / 126) % 4)) (pk_rem (by omega) (by omega) (by omega)) ?_
    refine mw_iadd i_98_102 (w := nI (dn σ + ((z / 126) % 4))) (nI_add _ _) ?_
    exact mw_top (show nI (dn σ + ((z / 126) % 4)) = nI dv from congrArg nI (by rw [edv, if_neg (fun h => c4 (by rw [h]))])) J1
  · skip
    refine mw_const i_98_92 (v := nI 0) (by decide) ?_
    refine mw_goto i_98_93 ?_
    exact mw_top (show nI 0 = nI dv from congrArg nI (by rw [edv, if_pos ((nI_eq (by omega) (by decide)).mp (Classical.not_not.mp c4))])) J1
set_option maxRecDepth 20000 in
set_option maxHeartbeats 400000 in
theorem c_told2 {d b : Nat} {K : KM} {I : IM} {R : RM} {Q : QT} {L n z : Nat} {σ : ST} (hd : 20 ≤ d) (hW9 : WQ L n σ K I R) (hn : n < 512) (hz : z < 1000000000)  (q : ∀ σ' K' I' R', WQ L (n + 1) σ' K' I' R' → Q (.inl (some (pI (nI 1)))) K' I' R') : Mw d (b + 35) N_L_isTold 0 [some (pR (some RING)), some (pR (some QW)), some (pR (some QV)), some (pR (some QC)), some (pR (some QK)), some (pR (some QM)), some (pI (nI 2)), some (pI (nI z)), none, none, none, none, none] [] K I R Q := by
  obtain ⟨d9, rfl⟩ : ∃ d9, d = d9 + 1 := ⟨d - 1, by omega⟩
  obtain ⟨hW, hL, hQ, hK0⟩ := hW9
  have hV := hW.2.2
  have hdd9 := hV.2.2.1.2
  have h10 := hL.2.2.2.2.2.2.2.2.2.1
  have hd0 := hV.2.2.1.1
  have hdn := hL.2.2.2.2.2.2.2.2.2.2.2
  obtain ⟨i, ei⟩ : ∃ i, i = z % 7 := ⟨_, rfl⟩
  have hi : i < 7 := by rw [ei]; exact Nat.mod_lt _ (by decide)
  obtain ⟨j, ej⟩ : ∃ j, j = (i + 1 + z / 7 % 6) % 7 := ⟨_, rfl⟩
  have hj : j < 7 := by rw [ej]; exact Nat.mod_lt _ (by decide)
  have hij : ¬ i = j := by omega
  obtain ⟨p, z0, hp, hz0, e12, e10, e8⟩ := (hL.1 i hi).2.2.2.2.2.2.2.2.1
  obtain ⟨mc, hmc, emc⟩ := (hV.2.2.2.1 i (by omega)).2.1
  obtain ⟨t, et9⟩ : ∃ t, t = z / 7 % 4 := ⟨_, rfl⟩
  obtain ⟨sl, esl⟩ : ∃ sl, sl = z / 28 % 10 := ⟨_, rfl⟩
  have ht : t < 4 := by omega
  have hsl : sl < 10 := by omega
  refine mw_iload i_98_0 (x := nI z) rfl ?_
  refine mw_const i_98_1 (v := nI 7) (by decide) ?_
  refine mw_irem i_98_2 (by decide) (w := nI i) (by rw [ei]; exact pk_rem (by omega) (by decide) (by decide)) ?_
  refine mw_istore i_98_3 (ls' := [some (pR (some RING)), some (pR (some QW)), some (pR (some QV)), some (pR (some QC)), some (pR (some QK)), some (pR (some QM)), some (pI (nI 2)), some (pI (nI z)), some (pI (nI i)), none, none, none, none]) rfl (Nat.le_of_ble_eq_true rfl) ?_
  refine mw_iload i_98_4 (x := nI i) rfl ?_
  refine mw_const i_98_5 (v := nI 1) (by decide) ?_
  refine mw_iadd i_98_6 (w := nI (i + 1)) (nI_add _ _) ?_
  refine mw_iload i_98_7 (x := nI z) rfl ?_
  refine mw_const i_98_8 (v := nI 7) (by decide) ?_
  refine mw_idiv i_98_9 (by decide) (w := nI (z / 7)) (pk_div (by omega) (by omega) (by omega)) ?_
  refine mw_const i_98_10 (v := nI 6) (by decide) ?_
  refine mw_irem i_98_11 (by decide) (w := nI ((z / 7) % 6)) (pk_rem (by omega) (by omega) (by omega)) ?_
  refine mw_iadd i_98_12 (w := nI (i + 1 + ((z / 7) % 6))) (nI_add _ _) ?_
  refine mw_const i_98_13 (v := nI 7) (by decide) ?_
  refine mw_irem i_98_14 (by decide) (w := nI j) (by rw [ej]; exact pk_rem (by omega) (by decide) (by decide)) ?_
  refine mw_istore i_98_15 (ls' := [some (pR (some RING)), some (pR (some QW)), some (pR (some QV)), some (pR (some QC)), some (pR (some QK)), some (pR (some QM)), some (pI (nI 2)), some (pI (nI z)), some (pI (nI i)), some (pI (nI j)), none, none, none]) rfl (Nat.le_of_ble_eq_true rfl) ?_
  refine mw_iload i_98_16 (x := nI 2) rfl ?_
  refine mw_ifT i_98_17 (show ¬ nI 2 = 0 by decide) ?_
  refine mw_iload i_98_73 (x := nI 2) rfl ?_
  refine mw_const i_98_74 (v := nI 1) (by decide) ?_
  refine mw_icT i_98_75 (show ¬ nI 2 = nI 1 by decide) ?_
  refine mw_iload i_98_134 (x := nI 2) rfl ?_
  refine mw_const i_98_135 (v := nI 2) (by decide) ?_
  refine mw_icF i_98_136 (show ¬ (¬ nI 2 = nI 2) by decide) ?_
  refine mw_iload i_98_137 (x := nI z) rfl ?_
  refine mw_const i_98_138 (v := nI 7) (by decide) ?_
  refine mw_idiv i_98_139 (by decide) (w := nI (z / 7)) (pk_div (by omega) (by omega) (by omega)) ?_
  refine mw_const i_98_140 (v := nI 4) (by decide) ?_
  refine mw_irem i_98_141 (by decide) (w := nI t) (by rw [et9]; exact pk_rem (by omega) (by decide) (by decide)) ?_
  refine mw_istore i_98_142 (ls' := [some (pR (some RING)), some (pR (some QW)), some (pR (some QV)), some (pR (some QC)), some (pR (some QK)), some (pR (some QM)), some (pI (nI 2)), some (pI (nI z)), some (pI (nI i)), some (pI (nI j)), some (pI (nI t)), none, none]) rfl (Nat.le_of_ble_eq_true rfl) ?_
  refine mw_iload i_98_143 (x := nI z) rfl ?_
  refine mw_const i_98_144 (v := nI 28) (by decide) ?_
  refine mw_idiv i_98_145 (by decide) (w := nI (z / 28)) (pk_div (by omega) (by omega) (by omega)) ?_
  refine mw_const i_98_146 (v := nI 10) (by decide) ?_
  refine mw_irem i_98_147 (by decide) (w := nI sl) (by rw [esl]; exact pk_rem (by omega) (by decide) (by decide)) ?_
  refine mw_istore i_98_148 (ls' := [some (pR (some RING)), some (pR (some QW)), some (pR (some QV)), some (pR (some QC)), some (pR (some QK)), some (pR (some QM)), some (pI (nI 2)), some (pI (nI z)), some (pI (nI i)), some (pI (nI j)), some (pI (nI t)), some (pI (nI sl)), none]) rfl (Nat.le_of_ble_eq_true rfl) ?_
  refine mw_aload i_98_149 (L := QW) rfl ?_
  refine mw_iload i_98_150 (x := nI i) rfl ?_
  refine mw_aload i_98_151 (L := QM) rfl ?_
  refine mw_const i_98_152 (v := nI 0) (by decide) ?_
  refine mw_iald i_98_153 (jn := 0) (n := 18) (by omega) (by omega) hQ.2.2.2.2.2 (by decide) (v := nI (dn σ)) (hL.2.2.2.2.1.trans hd0) ?_
  refine mw_callS i_98_154 mf_80 (as := [pR (some QW), pI (nI i), pI (nI (dn σ))]) (rest := []) (d' := d9) (b' := b + 35) (ls0 := [some (pR (some QW)), some (pI (nI i)), some (pI (nI (dn σ)))]) rfl rfl rfl (Nat.le_of_ble_eq_true rfl) rfl rfl rfl ?_
  refine b_isHurt hQ hL (by omega) ?_
  refine aft_v ?_
  refine mw_neB i_98_155 rfl (fun c1 => ?_) (fun c1 => ?_)
  · skip
    refine mw_const i_98_167 (v := nI 1) (by decide) ?_
    refine mw_iret i_98_168 (x := nI 1) (fun _ => (by decide)) ?_
    exact q σ K I R ⟨CW_up hW, LR_n hL (Nat.le_succ n), hQ, hK0⟩
  · skip
    refine mw_aload i_98_156 (L := QW) rfl ?_
    refine mw_const i_98_157 (v := nI 9) (by decide) ?_
    refine mw_iload i_98_158 (x := nI i) rfl ?_
    refine mw_imul i_98_159 (w := nI (9 * i)) (pk_mul _ _) ?_
    refine mw_const i_98_160 (v := nI 8) (by decide) ?_
    refine mw_iadd i_98_161 (w := nI (9 * i + 8)) (nI_add _ _) ?_
    refine mw_iald i_98_162 (jn := 9 * i + 8) (n := 63) (by omega) (by omega) hQ.1 (by decide) (v := nI (2 * p + z0)) e8 ?_
    refine mw_const i_98_163 (v := nI 2) (by decide) ?_
    refine mw_irem i_98_164 (by decide) (w := nI ((2 * p + z0) % 2)) (pk_rem (by omega) (by omega) (by omega)) ?_
    refine mw_const i_98_165 (v := nI 1) (by decide) ?_
    refine mw_ic i_98_166 (p := ¬ ((2 * p + z0) % 2) = 1) (not_congr (nI_eq (by omega) (by omega))) (fun c2 => ?_) (fun c2 => ?_)
    · skip
      have J3 : Mw (d9 + 1) (b + 35) 98 193 [some (pR (some RING)), some (pR (some QW)), some (pR (some QV)), some (pR (some QC)), some (pR (some QK)), some (pR (some QM)), some (pI (nI 2)), some (pI (nI z)), some (pI (nI i)), some (pI (nI j)), some (pI (nI t)), some (pI (nI sl)), none] [pI (pch σ i (nI sl))] K I R Q := by
        refine mw_istore i_98_193 (ls' := [some (pR (some RING)), some (pR (some QW)), some (pR (some QV)), some (pR (some QC)), some (pR (some QK)), some (pR (some QM)), some (pI (nI 2)), some (pI (nI z)), some (pI (nI i)), some (pI (nI j)), some (pI (nI t)), some (pI (nI sl)), some (pI (pch σ i (nI sl)))]) rfl (Nat.le_of_ble_eq_true rfl) ?_
        refine mw_aload i_98_194 (L := QW) rfl ?_
        refine mw_const i_98_195 (v := nI 9) (by decide) ?_
        refine mw_iload i_98_196 (x := nI i) rfl ?_
        refine mw_imul i_98_197 (w := nI (9 * i)) (pk_mul _ _) ?_
        refine mw_const i_98_198 (v := nI 8) (by decide) ?_
        refine mw_iadd i_98_199 (w := nI (9 * i + 8)) (nI_add _ _) ?_
        refine mw_dup2 i_98_200 trivial trivial ?_
        refine mw_iald i_98_201 (jn := 9 * i + 8) (n := 63) (by omega) (by omega) hQ.1 (by decide) (v := nI (2 * p + z0)) e8 ?_
        refine mw_const i_98_202 (v := nI 1) (by decide) ?_
        refine mw_iadd i_98_203 (w := nI (2 * p + z0 + 1)) (nI_add _ _) ?_
        obtain ⟨I24, e24⟩ : ∃ I24, I24 = up2 I QW (9 * i + 8) (nI (2 * p + z0 + 1)) := ⟨_, rfl⟩
        refine mw_iast i_98_204 (jn := 9 * i + 8) (n := 63) (by omega) (by omega) (x := nI (2 * p + z0 + 1)) hQ.1 (I' := I24) e24.symm ?_
        obtain ⟨S5, eS5⟩ : ∃ S5, S5 = ups σ 10 i (nI 1) := ⟨_, rfl⟩
        have hL5 : LR n S5 I24 := by rw [e24, eS5]; exact LR_w8 hL (p := p) (z := 1) (Or.inl rfl) hp (by decide) (by rw [ups_ne (by decide)]; exact e12) (by rw [ups_at, upd_at]) (congrArg nI (by omega))
        have h0S5 : S5 0 0 = nI (dn σ) := by rw [eS5, ups_ne (by decide)]; exact hd0
        refine mw_aload i_98_205 (L := QV) rfl ?_
        refine mw_iload i_98_206 (x := nI t) rfl ?_
        refine mw_iload i_98_207 (x := nI i) rfl ?_
        have J6 : Mw (d9 + 1) (b + 35) 98 220 [some (pR (some RING)), some (pR (some QW)), some (pR (some QV)), some (pR (some QC)), some (pR (some QK)), some (pR (some QM)), some (pI (nI 2)), some (pI (nI z)), some (pI (nI i)), some (pI (nI j)), some (pI (nI t)), some (pI (nI sl)), some (pI (pch σ i (nI sl)))] [pI (pcg σ i (nI sl)), pI (nI i), pI (nI t), pR (some QV)] K I24 R Q := by
          refine mw_callS i_98_220 mf_93 (as := [pR (some QV), pI (nI t), pI (nI i), pI (pcg σ i (nI sl))]) (rest := []) (d' := d9) (b' := b + 35) (ls0 := [some (pR (some QV)), some (pI (nI t)), some (pI (nI i)), some (pI (pcg σ i (nI sl))), none]) rfl rfl rfl (Nat.le_of_ble_eq_true rfl) rfl rfl rfl ?_
          refine b_love hQ hL5 (by omega) (by omega) ?_
          intro I37 hF7 hL7
          refine aft_n ?_
          refine mw_aload i_98_221 (L := QW) rfl ?_
          refine mw_aload i_98_222 (L := QV) rfl ?_
          refine mw_iload i_98_223 (x := nI i) rfl ?_
          refine mw_callS i_98_224 mf_94 (as := [pR (some QW), pR (some QV), pI (nI i)]) (rest := []) (d' := d9) (b' := b + 35) (ls0 := [some (pR (some QW)), some (pR (some QV)), some (pI (nI i)), none, none, none]) rfl rfl rfl (Nat.le_of_ble_eq_true rfl) rfl rfl rfl ?_
          refine b_turn hQ hL7 (by omega) ?_
          intro I38 hF8 hL8
          refine aft_n ?_
          refine mw_aload i_98_225 (L := RING) rfl ?_
          refine mw_iload i_98_226 (x := nI t) rfl ?_
          refine mw_iload i_98_227 (x := nI i) rfl ?_
          refine mw_iload i_98_228 (x := nI sl) rfl ?_
          have hW1 : CW n σ K I38 R := CW_Q hW (FrQ_tr (FrQ_tr (show FrQ I I24 from by rw [e24]; exact FrQ_up FrQ_rfl rfl) hF7) hF8)
          have h0p : ¬ nI (dn σ) < σ 6 i ∧ σ 10 i = nI 0 := ⟨c1, by rw [e10]; congr 1; omega⟩
          refine mw_callV i_98_229 mf_44 (as := [pI (nI t), pI (nI i), pI (nI sl)]) (rest := []) (d' := d9) (b' := b + 28) (ls0 := [some (pR (some RING)), some (pI (nI t)), some (pI (nI i)), some (pI (nI sl)), none, none]) rfl rfl rfl (Nat.le_of_ble_eq_true rfl) hW.1.1.1.1 rfl (by omega) rfl ?_
          refine k_promo (by omega) hW1 (by omega) hn (fun h => absurd ⟨⟨t, by omega, rfl⟩, ⟨i, by omega, rfl⟩⟩ h) (fun t x ht hx et ex h => absurd ⟨sl, by omega, rfl⟩ h) (fun t9 x ht9 hx et ex hs h => absurd (by rw [← nI_inj ex (by omega) (by omega)]; exact h0p) h) (fun t9 x ht9 hx et ex hs h I9 hF9 hR9 v hv => ?_)
          obtain rfl := nI_inj et (by omega) (by omega)
          obtain rfl := nI_inj ex (by omega) (by omega)
          refine aft_v ?_
          refine mw_aload i_98_230 (L := QV) rfl ?_
          refine mw_const i_98_231 (v := nI 7) (by decide) ?_
          refine mw_iload i_98_232 (x := nI t) rfl ?_
          refine mw_imul i_98_233 (w := nI (7 * t)) (pk_mul _ _) ?_
          refine mw_iload i_98_234 (x := nI i) rfl ?_
          refine mw_iadd i_98_235 (w := nI (7 * t + i)) (nI_add _ _) ?_
          refine mw_iald i_98_236 (jn := 7 * t + i) (n := 28) (by omega) (by omega) hQ.2.1 (by decide) (v := prS σ t i (nI sl) 4 (10 * t + i)) ((congrFun (hF9 QV (by decide)) _).trans ((hL8.2.1 t (by omega) i (by omega)).1.trans (by rw [eS5]; rfl))) ?_
          refine mw_icF i_98_237 (fun h => h hv) ?_
          refine mw_const i_98_238 (v := nI 1) (by decide) ?_
          refine mw_goto i_98_239 ?_
          refine mw_iret i_98_241 (x := nI 1) (fun _ => (by decide)) ?_
          exact q _ K I9 R ⟨⟨hW.1, hR9, IV_pr hV (by omega)⟩, LR_n (LR_C0 (by have := hL8; rw [eS5] at this; exact this) hF9) (Nat.le_succ n), hQ, hK0⟩
        refine mw_aload i_98_208 (L := QW) rfl ?_
        refine mw_const i_98_209 (v := nI 9) (by decide) ?_
        refine mw_iload i_98_210 (x := nI i) rfl ?_
        refine mw_imul i_98_211 (w := nI (9 * i)) (pk_mul _ _) ?_
        refine mw_const i_98_212 (v := nI 2) (by decide) ?_
        refine mw_iadd i_98_213 (w := nI (9 * i + 2)) (nI_add _ _) ?_
        refine mw_iald i_98_214 (jn := 9 * i + 2) (n := 63) (by omega) (by omega) hQ.1 (by decide) (v := σ 3 i) ((hL5.1 i (by omega)).2.2.1.trans (by rw [eS5, ups_ne (by decide)])) ?_
        refine mw_if i_98_215 (p := ¬ (σ 3 i) = nI 0) Iff.rfl (fun c9 => ?_) (fun c9 => ?_)
        · skip
          refine mw_iload i_98_218 (x := pch σ i (nI sl)) rfl ?_
          refine mw_ineg i_98_219 (w := -(pch σ i (nI sl))) rfl ?_
          exact mw_top (show -(pch σ i (nI sl)) = pcg σ i (nI sl) from by unfold pcg; rw [if_neg c9]) J6
        · skip
          refine mw_iload i_98_216 (x := pch σ i (nI sl)) rfl ?_
          refine mw_goto i_98_217 ?_
          exact mw_top (show pch σ i (nI sl) = pcg σ i (nI sl) from by unfold pcg; rw [if_pos (Classical.not_not.mp c9)]) J6
      refine mw_aload i_98_169 (L := QW) rfl ?_
      refine mw_const i_98_170 (v := nI 9) (by decide) ?_
      refine mw_iload i_98_171 (x := nI i) rfl ?_
      refine mw_imul i_98_172 (w := nI (9 * i)) (pk_mul _ _) ?_
      refine mw_const i_98_173 (v := nI 1) (by decide) ?_
      refine mw_iadd i_98_174 (w := nI (9 * i + 1)) (nI_add _ _) ?_
      refine mw_iald i_98_175 (jn := 9 * i + 1) (n := 63) (by omega) (by omega) hQ.1 (by decide) (v := nI mc) ((hL.1 i (by omega)).2.1.trans emc) ?_
      refine mw_const i_98_176 (v := nI 10) (by decide) ?_
      refine mw_idiv i_98_177 (by decide) (w := nI (mc / 10)) (pk_div (by omega) (by omega) (by omega)) ?_
      refine mw_iload i_98_178 (x := nI sl) rfl ?_
      refine mw_ic i_98_179 (p := (mc / 10) ≤ sl) (nI_leI (by omega) (by omega)) (fun c10 => ?_) (fun c10 => ?_)
      · skip
        refine mw_const i_98_192 (v := nI 0) (by decide) ?_
        exact mw_top (show nI 0 = pch σ i (nI sl) from pch_0 emc hmc (by omega) c10) J3
      · skip
        refine mw_aload i_98_180 (L := QW) rfl ?_
        refine mw_const i_98_181 (v := nI 9) (by decide) ?_
        refine mw_iload i_98_182 (x := nI i) rfl ?_
        refine mw_imul i_98_183 (w := nI (9 * i)) (pk_mul _ _) ?_
        refine mw_const i_98_184 (v := nI 1) (by decide) ?_
        refine mw_iadd i_98_185 (w := nI (9 * i + 1)) (nI_add _ _) ?_
        refine mw_iald i_98_186 (jn := 9 * i + 1) (n := 63) (by omega) (by omega) hQ.1 (by decide) (v := nI mc) ((hL.1 i (by omega)).2.1.trans emc) ?_
        refine mw_const i_98_187 (v := nI 10) (by decide) ?_
        refine mw_idiv i_98_188 (by decide) (w := nI (mc / 10)) (pk_div (by omega) (by omega) (by omega)) ?_
        refine mw_iload i_98_189 (x := nI sl) rfl ?_
        refine mw_isub i_98_190 (w := nI ((mc / 10) - sl)) (pk_sub (by omega)) ?_
        refine mw_goto i_98_191 ?_
        exact mw_top (show nI ((mc / 10) - sl) = pch σ i (nI sl) from pch_1 emc hmc (by omega) c10) J3
    · skip
      refine mw_const i_98_167 (v := nI 1) (by decide) ?_
      refine mw_iret i_98_168 (x := nI 1) (fun _ => (by decide)) ?_
      exact q σ K I R ⟨CW_up hW, LR_n hL (Nat.le_succ n), hQ, hK0⟩
set_option maxRecDepth 20000 in
set_option maxHeartbeats 400000 in
theorem c_told3 {d b : Nat} {K : KM} {I : IM} {R : RM} {Q : QT} {L n z : Nat} {σ : ST} (hd : 20 ≤ d) (hW9 : WQ L n σ K I R) (hn : n < 512) (hz : z < 1000000000)  (q : ∀ σ' K' I' R', WQ L (n + 1) σ' K' I' R' → Q (.inl (some (pI (nI 1)))) K' I' R') : Mw d (b + 35) N_L_isTold 0 [some (pR (some RING)), some (pR (some QW)), some (pR (some QV)), some (pR (some QC)), some (pR (some QK)), some (pR (some QM)), some (pI (nI 3)), some (pI (nI z)), none, none, none, none, none] [] K I R Q := by
  obtain ⟨d9, rfl⟩ : ∃ d9, d = d9 + 1 := ⟨d - 1, by omega⟩
  obtain ⟨hW, hL, hQ, hK0⟩ := hW9
  have hV := hW.2.2
  have hdd9 := hV.2.2.1.2
  have h10 := hL.2.2.2.2.2.2.2.2.2.1
  have hd0 := hV.2.2.1.1
  have hdn := hL.2.2.2.2.2.2.2.2.2.2.2
  obtain ⟨i, ei⟩ : ∃ i, i = z % 7 := ⟨_, rfl⟩
  have hi : i < 7 := by rw [ei]; exact Nat.mod_lt _ (by decide)
  obtain ⟨j, ej⟩ : ∃ j, j = (i + 1 + z / 7 % 6) % 7 := ⟨_, rfl⟩
  have hj : j < 7 := by rw [ej]; exact Nat.mod_lt _ (by decide)
  have hij : ¬ i = j := by omega
  obtain ⟨g1, g2, g3, g4, g5⟩ := LR_card hL (x := dn σ) (by omega) (by omega)
  have g6 := (hV.2.2.2.2.2.1 (dn σ) (by omega)).2.1
  refine mw_iload i_98_0 (x := nI z) rfl ?_
  refine mw_const i_98_1 (v := nI 7) (by decide) ?_
  refine mw_irem i_98_2 (by decide) (w := nI i) (by rw [ei]; exact pk_rem (by omega) (by decide) (by decide)) ?_
  refine mw_istore i_98_3 (ls' := [some (pR (some RING)), some (pR (some QW)), some (pR (some QV)), some (pR (some QC)), some (pR (some QK)), some (pR (some QM)), some (pI (nI 3)), some (pI (nI z)), some (pI (nI i)), none, none, none, none]) rfl (Nat.le_of_ble_eq_true rfl) ?_
  refine mw_iload i_98_4 (x := nI i) rfl ?_
  refine mw_const i_98_5 (v := nI 1) (by decide) ?_
  refine mw_iadd i_98_6 (w := nI (i + 1)) (nI_add _ _) ?_
  refine mw_iload i_98_7 (x := nI z) rfl ?_
  refine mw_const i_98_8 (v := nI 7) (by decide) ?_
  refine mw_idiv i_98_9 (by decide) (w := nI (z / 7)) (pk_div (by omega) (by omega) (by omega)) ?_
  refine mw_const i_98_10 (v := nI 6) (by decide) ?_
  refine mw_irem i_98_11 (by decide) (w := nI ((z / 7) % 6)) (pk_rem (by omega) (by omega) (by omega)) ?_
  refine mw_iadd i_98_12 (w := nI (i + 1 + ((z / 7) % 6))) (nI_add _ _) ?_
  refine mw_const i_98_13 (v := nI 7) (by decide) ?_
  refine mw_irem i_98_14 (by decide) (w := nI j) (by rw [ej]; exact pk_rem (by omega) (by decide) (by decide)) ?_
  refine mw_istore i_98_15 (ls' := [some (pR (some RING)), some (pR (some QW)), some (pR (some QV)), some (pR (some QC)), some (pR (some QK)), some (pR (some QM)), some (pI (nI 3)), some (pI (nI z)), some (pI (nI i)), some (pI (nI j)), none, none, none]) rfl (Nat.le_of_ble_eq_true rfl) ?_
  refine mw_iload i_98_16 (x := nI 3) rfl ?_
  refine mw_ifT i_98_17 (show ¬ nI 3 = 0 by decide) ?_
  refine mw_iload i_98_73 (x := nI 3) rfl ?_
  refine mw_const i_98_74 (v := nI 1) (by decide) ?_
  refine mw_icT i_98_75 (show ¬ nI 3 = nI 1 by decide) ?_
  refine mw_iload i_98_134 (x := nI 3) rfl ?_
  refine mw_const i_98_135 (v := nI 2) (by decide) ?_
  refine mw_icT i_98_136 (show ¬ nI 3 = nI 2 by decide) ?_
  refine mw_iload i_98_242 (x := nI 3) rfl ?_
  refine mw_const i_98_243 (v := nI 3) (by decide) ?_
  refine mw_icF i_98_244 (show ¬ (¬ nI 3 = nI 3) by decide) ?_
  refine mw_aload i_98_245 (L := QM) rfl ?_
  refine mw_const i_98_246 (v := nI 0) (by decide) ?_
  refine mw_iald i_98_247 (jn := 0) (n := 18) (by omega) (by omega) hQ.2.2.2.2.2 (by decide) (v := nI (dn σ)) (hL.2.2.2.2.1.trans hd0) ?_
  refine mw_goto i_98_248 ?_
  refine mw_istore i_98_256 (ls' := [some (pR (some RING)), some (pR (some QW)), some (pR (some QV)), some (pR (some QC)), some (pR (some QK)), some (pR (some QM)), some (pI (nI 3)), some (pI (nI z)), some (pI (nI i)), some (pI (nI j)), some (pI (nI (dn σ))), none, none]) rfl (Nat.le_of_ble_eq_true rfl) ?_
  refine mw_aload i_98_257 (L := QM) rfl ?_
  refine mw_iload i_98_258 (x := nI (dn σ)) rfl ?_
  refine mw_callS i_98_259 mf_79 (as := [pR (some QM), pI (nI (dn σ))]) (rest := []) (d' := d9) (b' := b + 35) (ls0 := [some (pR (some QM)), some (pI (nI (dn σ)))]) rfl rfl rfl (Nat.le_of_ble_eq_true rfl) rfl rfl rfl ?_
  refine b_many hQ hL (Nat.le_refl _) (by omega) (by omega) ?_
  refine aft_v ?_
  refine mw_if i_98_260 (p := (nI (mn σ (dn σ))) = nI 0) Iff.rfl (fun c1 => ?_) (fun c1 => ?_)
  · skip
    refine mw_const i_98_270 (v := nI 1) (by decide) ?_
    refine mw_iret i_98_271 (x := nI 1) (fun _ => (by decide)) ?_
    exact q σ K I R ⟨CW_up hW, LR_n hL (Nat.le_succ n), hQ, hK0⟩
  · skip
    have cz9 := c1
    have hmp : 0 < mn σ (dn σ) := Nat.pos_of_ne_zero (fun h => c1 (by rw [h]))
    refine mw_aload i_98_261 (L := QM) rfl ?_
    refine mw_const i_98_262 (v := nI 7) (by decide) ?_
    refine mw_iload i_98_263 (x := nI (dn σ)) rfl ?_
    refine mw_const i_98_264 (v := nI 3) (by decide) ?_
    refine mw_irem i_98_265 (by decide) (w := nI ((dn σ) % 3)) (pk_rem (by omega) (by omega) (by omega)) ?_
    refine mw_iadd i_98_266 (w := nI (7 + ((dn σ) % 3))) (nI_add _ _) ?_
    refine mw_iald i_98_267 (jn := 7 + ((dn σ) % 3)) (n := 18) (by omega) (by omega) hQ.2.2.2.2.2 (by decide) (v := σ 22 (dn σ)) g4 ?_
    refine mw_const i_98_268 (v := nI 1) (by decide) ?_
    refine mw_ic i_98_269 (p := ¬ (σ 22 (dn σ)) = (nI 1)) Iff.rfl (fun c2 => ?_) (fun c2 => ?_)
    · skip
      obtain ⟨mt, emt⟩ : ∃ mt, mt = z / 3 % mn σ (dn σ) := ⟨_, rfl⟩
      have hmt : mt < mn σ (dn σ) := by rw [emt]; exact Nat.mod_lt _ hmp
      have h22 : σ 22 (dn σ) = nI 0 := (hV.2.2.2.2.2.1 (dn σ) (by omega)).2.2.1.resolve_right (fun h => c2 h.1)
      refine mw_iload i_98_272 (x := nI z) rfl ?_
      refine mw_const i_98_273 (v := nI 3) (by decide) ?_
      refine mw_idiv i_98_274 (by decide) (w := nI (z / 3)) (pk_div (by omega) (by omega) (by omega)) ?_
      refine mw_aload i_98_275 (L := QM) rfl ?_
      refine mw_iload i_98_276 (x := nI (dn σ)) rfl ?_
      refine mw_callS i_98_277 mf_79 (as := [pR (some QM), pI (nI (dn σ))]) (rest := [pI (nI (z / 3))]) (d' := d9) (b' := b + 35) (ls0 := [some (pR (some QM)), some (pI (nI (dn σ)))]) rfl rfl rfl (Nat.le_of_ble_eq_true rfl) rfl rfl rfl ?_
      refine b_many hQ hL (Nat.le_refl _) (by omega) (by omega) ?_
      refine aft_v ?_
      refine mw_irem i_98_278 cz9 (w := nI mt) (by rw [emt]; exact pk_rem (by omega) (by omega) (by omega)) ?_
      refine mw_istore i_98_279 (ls' := [some (pR (some RING)), some (pR (some QW)), some (pR (some QV)), some (pR (some QC)), some (pR (some QK)), some (pR (some QM)), some (pI (nI 3)), some (pI (nI z)), some (pI (nI i)), some (pI (nI j)), some (pI (nI (dn σ))), some (pI (nI mt)), none]) rfl (Nat.le_of_ble_eq_true rfl) ?_
      refine mw_iload i_98_280 (x := nI 3) rfl ?_
      refine mw_const i_98_281 (v := nI 3) (by decide) ?_
      refine mw_icF i_98_282 (show ¬ (¬ nI 3 = nI 3) by decide) ?_
      have J3 : Mw (d9 + 1) (b + 35) 98 299 [some (pR (some RING)), some (pR (some QW)), some (pR (some QV)), some (pR (some QC)), some (pR (some QK)), some (pR (some QM)), some (pI (nI 3)), some (pI (nI z)), some (pI (nI i)), some (pI (nI j)), some (pI (nI (dn σ))), some (pI (nI mt)), none] [pI (bI (σ 19 (36 * dn σ + 6 * mt + 5) = nI 1))] K I R Q := by
        refine mw_istore i_98_299 (ls' := [some (pR (some RING)), some (pR (some QW)), some (pR (some QV)), some (pR (some QC)), some (pR (some QK)), some (pR (some QM)), some (pI (nI 3)), some (pI (nI z)), some (pI (nI i)), some (pI (nI j)), some (pI (nI (dn σ))), some (pI (nI mt)), some (pI (bI (σ 19 (36 * dn σ + 6 * mt + 5) = nI 1)))]) rfl (Nat.le_of_ble_eq_true rfl) ?_
        refine mw_aload i_98_300 (L := QK) rfl ?_
        refine mw_aload i_98_301 (L := QM) rfl ?_
        refine mw_iload i_98_302 (x := nI (dn σ)) rfl ?_
        refine mw_callS i_98_303 mf_78 (as := [pR (some QM), pI (nI (dn σ))]) (rest := [pR (some QK)]) (d' := d9) (b' := b + 35) (ls0 := [some (pR (some QM)), some (pI (nI (dn σ)))]) rfl rfl rfl (Nat.le_of_ble_eq_true rfl) rfl rfl rfl ?_
        refine a_slot (by omega) ?_
        refine aft_v ?_
        refine mw_const i_98_304 (v := nI 6) (by decide) ?_
        refine mw_iload i_98_305 (x := nI mt) rfl ?_
        refine mw_imul i_98_306 (w := nI (6 * mt)) (pk_mul _ _) ?_
        refine mw_iadd i_98_307 (w := nI (18 * ((dn σ) % 3) + (6 * mt))) (nI_add _ _) ?_
        refine mw_const i_98_308 (v := nI 5) (by decide) ?_
        refine mw_iadd i_98_309 (w := nI (18 * ((dn σ) % 3) + (6 * mt) + 5)) (nI_add _ _) ?_
        refine mw_const i_98_310 (v := nI 1) (by decide) ?_
        obtain ⟨I24, e24⟩ : ∃ I24, I24 = up2 I QK (18 * ((dn σ) % 3) + (6 * mt) + 5) (nI 1) := ⟨_, rfl⟩
        refine mw_iast i_98_311 (jn := 18 * ((dn σ) % 3) + (6 * mt) + 5) (n := 54) (by omega) (by omega) (x := nI 1) hQ.2.2.2.2.1 (I' := I24) e24.symm ?_
        obtain ⟨S5, eS5⟩ : ∃ S5, S5 = ups σ 19 (36 * dn σ + 6 * mt + 5) (nI 1) := ⟨_, rfl⟩
        have hL5 : LR n S5 I24 := by rw [e24, eS5]; exact LR_row hL (Nat.le_refl _) (by omega) (by omega) (by decide) (by decide)
        refine mw_aload i_98_312 (L := RING) rfl ?_
        refine mw_iload i_98_313 (x := nI mt) rfl ?_
        have hW1 : CW n σ K I24 R := CW_Q hW (show FrQ I I24 from by rw [e24]; exact FrQ_up FrQ_rfl rfl)
        refine mw_callV i_98_314 mf_39 (as := [pI (nI mt)]) (rest := []) (d' := d9) (b' := b + 28) (ls0 := [some (pR (some RING)), some (pI (nI mt)), none, none]) rfl rfl rfl (Nat.le_of_ble_eq_true rfl) hW.1.1.1.1 rfl (by omega) rfl ?_
        refine k_shoot (by omega) hW1 (by omega) (by omega) rfl (fun h => absurd ⟨mt, hmt, rfl⟩ h) (fun m hm em h => absurd h22 h) (fun m hm em h0 I9 hF9 hR9 => ?_)
        obtain rfl := nI_inj em (by omega) (by omega)
        have h5 := ((hV.2.2.2.2.2.1 (dn σ) (by omega)).2.2.2.2.1 mt hmt).2.2.2.2.2.2
        refine aft_v ?_
        refine mw_iload i_98_315 (x := bI (σ 19 (36 * dn σ + 6 * mt + 5) = nI 1)) rfl ?_
        refine mw_icF i_98_316 (fun h => h (b01 h5)) ?_
        refine mw_const i_98_317 (v := nI 1) (by decide) ?_
        refine mw_goto i_98_318 ?_
        refine mw_iret i_98_320 (x := nI 1) (fun _ => (by decide)) ?_
        exact q _ K I9 R ⟨⟨hW.1, hR9, IV_up (IV_shoot hV (by omega) hmt h22) (Nat.le_succ n)⟩, LR_n (LR_C0 (eS5 ▸ hL5) hF9) (Nat.le_succ n), hQ, hK0⟩
      refine mw_aload i_98_283 (L := QK) rfl ?_
      refine mw_aload i_98_284 (L := QM) rfl ?_
      refine mw_iload i_98_285 (x := nI (dn σ)) rfl ?_
      refine mw_callS i_98_286 mf_78 (as := [pR (some QM), pI (nI (dn σ))]) (rest := [pR (some QK)]) (d' := d9) (b' := b + 35) (ls0 := [some (pR (some QM)), some (pI (nI (dn σ)))]) rfl rfl rfl (Nat.le_of_ble_eq_true rfl) rfl rfl rfl ?_
      refine a_slot (by omega) ?_
      refine aft_v ?_
      refine mw_const i_98_287 (v := nI 6) (by decide) ?_
      refine mw_iload i_98_288 (x := nI mt) rfl ?_
      refine mw_imul i_98_289 (w := nI (6 * mt)) (pk_mul _ _) ?_
      refine mw_iadd i_98_290 (w := nI (18 * ((dn σ) % 3) + (6 * mt))) (nI_add _ _) ?_
      refine mw_const i_98_291 (v := nI 5) (by decide) ?_
      refine mw_iadd i_98_292 (w := nI (18 * ((dn σ) % 3) + (6 * mt) + 5)) (nI_add _ _) ?_
      refine mw_iald i_98_293 (jn := 18 * ((dn σ) % 3) + (6 * mt) + 5) (n := 54) (by omega) (by omega) hQ.2.2.2.2.1 (by decide) (v := σ 19 (36 * (dn σ) + 6 * mt + 5)) (g5 mt hmt).2.2.2.2.2 ?_
      refine mw_const i_98_294 (v := nI 1) (by decide) ?_
      refine mw_ic i_98_295 (p := ¬ (σ 19 (36 * (dn σ) + 6 * mt + 5)) = (nI 1)) Iff.rfl (fun c6 => ?_) (fun c6 => ?_)
      · skip
        refine mw_const i_98_298 (v := nI 0) (by decide) ?_
        exact mw_top (show nI 0 = bI (σ 19 (36 * dn σ + 6 * mt + 5) = nI 1) from (bI_f (c6)).symm) J3
      · skip
        refine mw_const i_98_296 (v := nI 1) (by decide) ?_
        refine mw_goto i_98_297 ?_
        exact mw_top (show nI 1 = bI (σ 19 (36 * dn σ + 6 * mt + 5) = nI 1) from (bI_t ((Classical.not_not.mp c6))).symm) J3
    · skip
      refine mw_const i_98_270 (v := nI 1) (by decide) ?_
      refine mw_iret i_98_271 (x := nI 1) (fun _ => (by decide)) ?_
      exact q σ K I R ⟨CW_up hW, LR_n hL (Nat.le_succ n), hQ, hK0⟩
set_option maxRecDepth 20000 in
set_option maxHeartbeats 400000 in
theorem c_told4 {d b : Nat} {K : KM} {I : IM} {R : RM} {Q : QT} {L n z : Nat} {σ : ST} (hd : 20 ≤ d) (hW9 : WQ L n σ K I R) (hn : n < 512) (hz : z < 1000000000)  (q : ∀ σ' K' I' R', WQ L (n + 1) σ' K' I' R' → Q (.inl (some (pI (nI 1)))) K' I' R') : Mw d (b + 35) N_L_isTold 0 [some (pR (some RING)), some (pR (some QW)), some (pR (some QV)), some (pR (some QC)), some (pR (some QK)), some (pR (some QM)), some (pI (nI 4)), some (pI (nI z)), none, none, none, none, none] [] K I R Q := by
  obtain ⟨d9, rfl⟩ : ∃ d9, d = d9 + 1 := ⟨d - 1, by omega⟩
  obtain ⟨hW, hL, hQ, hK0⟩ := hW9
  have hV := hW.2.2
  have hdd9 := hV.2.2.1.2
  have h10 := hL.2.2.2.2.2.2.2.2.2.1
  have hd0 := hV.2.2.1.1
  have hdn := hL.2.2.2.2.2.2.2.2.2.2.2
  obtain ⟨i, ei⟩ : ∃ i, i = z % 7 := ⟨_, rfl⟩
  have hi : i < 7 := by rw [ei]; exact Nat.mod_lt _ (by decide)
  obtain ⟨j, ej⟩ : ∃ j, j = (i + 1 + z / 7 % 6) % 7 := ⟨_, rfl⟩
  have hj : j < 7 := by rw [ej]; exact Nat.mod_lt _ (by decide)
  have hij : ¬ i = j := by omega
  obtain ⟨x, ex9⟩ : ∃ x, x = dn σ + z % 3 := ⟨_, rfl⟩
  obtain ⟨g1, g2, g3, g4, g5⟩ := LR_card hL (x := x) (by omega) (by omega)
  have g6 := (hV.2.2.2.2.2.1 x (by omega)).2.1
  refine mw_iload i_98_0 (x := nI z) rfl ?_
  refine mw_const i_98_1 (v := nI 7) (by decide) ?_
  refine mw_irem i_98_2 (by decide) (w := nI i) (by rw [ei]; exact pk_rem (by omega) (by decide) (by decide)) ?_
  refine mw_istore i_98_3 (ls' := [some (pR (some RING)), some (pR (some QW)), some (pR (some QV)), some (pR (some QC)), some (pR (some QK)), some (pR (some QM)), some (pI (nI 4)), some (pI (nI z)), some (pI (nI i)), none, none, none, none]) rfl (Nat.le_of_ble_eq_true rfl) ?_
  refine mw_iload i_98_4 (x := nI i) rfl ?_
  refine mw_const i_98_5 (v := nI 1) (by decide) ?_
  refine mw_iadd i_98_6 (w := nI (i + 1)) (nI_add _ _) ?_
  refine mw_iload i_98_7 (x := nI z) rfl ?_
  refine mw_const i_98_8 (v := nI 7) (by decide) ?_
  refine mw_idiv i_98_9 (by decide) (w := nI (z / 7)) (pk_div (by omega) (by omega) (by omega)) ?_
  refine mw_const i_98_10 (v := nI 6) (by decide) ?_
  refine mw_irem i_98_11 (by decide) (w := nI ((z / 7) % 6)) (pk_rem (by omega) (by omega) (by omega)) ?_
  refine mw_iadd i_98_12 (w := nI (i + 1 + ((z / 7) % 6))) (nI_add _ _) ?_
  refine mw_const i_98_13 (v := nI 7) (by decide) ?_
  refine mw_irem i_98_14 (by decide) (w := nI j) (by rw [ej]; exact pk_rem (by omega) (by decide) (by decide)) ?_
  refine mw_istore i_98_15 (ls' := [some (pR (some RING)), some (pR (some QW)), some (pR (some QV)), some (pR (some QC)), some (pR (some QK)), some (pR (some QM)), some (pI (nI 4)), some (pI (nI z)), some (pI (nI i)), some (pI (nI j)), none, none, none]) rfl (Nat.le_of_ble_eq_true rfl) ?_
  refine mw_iload i_98_16 (x := nI 4) rfl ?_
  refine mw_ifT i_98_17 (show ¬ nI 4 = 0 by decide) ?_
  refine mw_iload i_98_73 (x := nI 4) rfl ?_
  refine mw_const i_98_74 (v := nI 1) (by decide) ?_
  refine mw_icT i_98_75 (show ¬ nI 4 = nI 1 by decide) ?_
  refine mw_iload i_98_134 (x := nI 4) rfl ?_
  refine mw_const i_98_135 (v := nI 2) (by decide) ?_
  refine mw_icT i_98_136 (show ¬ nI 4 = nI 2 by decide) ?_
  refine mw_iload i_98_242 (x := nI 4) rfl ?_
  refine mw_const i_98_243 (v := nI 3) (by decide) ?_
  refine mw_icT i_98_244 (show ¬ nI 4 = nI 3 by decide) ?_
  refine mw_aload i_98_249 (L := QM) rfl ?_
  refine mw_const i_98_250 (v := nI 0) (by decide) ?_
  refine mw_iald i_98_251 (jn := 0) (n := 18) (by omega) (by omega) hQ.2.2.2.2.2 (by decide) (v := nI (dn σ)) (hL.2.2.2.2.1.trans hd0) ?_
  refine mw_iload i_98_252 (x := nI z) rfl ?_
  refine mw_const i_98_253 (v := nI 3) (by decide) ?_
  refine mw_irem i_98_254 (by decide) (w := nI (z % 3)) (pk_rem (by omega) (by omega) (by omega)) ?_
  refine mw_iadd i_98_255 (w := nI x) (by rw [ex9]; exact nI_add _ _) ?_
  refine mw_istore i_98_256 (ls' := [some (pR (some RING)), some (pR (some QW)), some (pR (some QV)), some (pR (some QC)), some (pR (some QK)), some (pR (some QM)), some (pI (nI 4)), some (pI (nI z)), some (pI (nI i)), some (pI (nI j)), some (pI (nI x)), none, none]) rfl (Nat.le_of_ble_eq_true rfl) ?_
  refine mw_aload i_98_257 (L := QM) rfl ?_
  refine mw_iload i_98_258 (x := nI x) rfl ?_
  refine mw_callS i_98_259 mf_79 (as := [pR (some QM), pI (nI x)]) (rest := []) (d' := d9) (b' := b + 35) (ls0 := [some (pR (some QM)), some (pI (nI x))]) rfl rfl rfl (Nat.le_of_ble_eq_true rfl) rfl rfl rfl ?_
  refine b_many hQ hL (by omega) (by omega) (by omega) ?_
  refine aft_v ?_
  refine mw_if i_98_260 (p := (nI (mn σ x)) = nI 0) Iff.rfl (fun c1 => ?_) (fun c1 => ?_)
  · skip
    refine mw_const i_98_270 (v := nI 1) (by decide) ?_
    refine mw_iret i_98_271 (x := nI 1) (fun _ => (by decide)) ?_
    exact q σ K I R ⟨CW_up hW, LR_n hL (Nat.le_succ n), hQ, hK0⟩
  · skip
    have cz9 := c1
    have hmp : 0 < mn σ x := Nat.pos_of_ne_zero (fun h => c1 (by rw [h]))
    refine mw_aload i_98_261 (L := QM) rfl ?_
    refine mw_const i_98_262 (v := nI 7) (by decide) ?_
    refine mw_iload i_98_263 (x := nI x) rfl ?_
    refine mw_const i_98_264 (v := nI 3) (by decide) ?_
    refine mw_irem i_98_265 (by decide) (w := nI (x % 3)) (pk_rem (by omega) (by omega) (by omega)) ?_
    refine mw_iadd i_98_266 (w := nI (7 + (x % 3))) (nI_add _ _) ?_
    refine mw_iald i_98_267 (jn := 7 + (x % 3)) (n := 18) (by omega) (by omega) hQ.2.2.2.2.2 (by decide) (v := σ 22 x) g4 ?_
    refine mw_const i_98_268 (v := nI 1) (by decide) ?_
    refine mw_ic i_98_269 (p := ¬ (σ 22 x) = (nI 1)) Iff.rfl (fun c2 => ?_) (fun c2 => ?_)
    · skip
      obtain ⟨mt, emt⟩ : ∃ mt, mt = z / 3 % mn σ x := ⟨_, rfl⟩
      have hmt : mt < mn σ x := by rw [emt]; exact Nat.mod_lt _ hmp
      have h22 : σ 22 x = nI 0 := (hV.2.2.2.2.2.1 x (by omega)).2.2.1.resolve_right (fun h => c2 h.1)
      refine mw_iload i_98_272 (x := nI z) rfl ?_
      refine mw_const i_98_273 (v := nI 3) (by decide) ?_
      refine mw_idiv i_98_274 (by decide) (w := nI (z / 3)) (pk_div (by omega) (by omega) (by omega)) ?_
      refine mw_aload i_98_275 (L := QM) rfl ?_
      refine mw_iload i_98_276 (x := nI x) rfl ?_
      refine mw_callS i_98_277 mf_79 (as := [pR (some QM), pI (nI x)]) (rest := [pI (nI (z / 3))]) (d' := d9) (b' := b + 35) (ls0 := [some (pR (some QM)), some (pI (nI x))]) rfl rfl rfl (Nat.le_of_ble_eq_true rfl) rfl rfl rfl ?_
      refine b_many hQ hL (by omega) (by omega) (by omega) ?_
      refine aft_v ?_
      refine mw_irem i_98_278 cz9 (w := nI mt) (by rw [emt]; exact pk_rem (by omega) (by omega) (by omega)) ?_
      refine mw_istore i_98_279 (ls' := [some (pR (some RING)), some (pR (some QW)), some (pR (some QV)), some (pR (some QC)), some (pR (some QK)), some (pR (some QM)), some (pI (nI 4)), some (pI (nI z)), some (pI (nI i)), some (pI (nI j)), some (pI (nI x)), some (pI (nI mt)), none]) rfl (Nat.le_of_ble_eq_true rfl) ?_
      refine mw_iload i_98_280 (x := nI 4) rfl ?_
      refine mw_const i_98_281 (v := nI 3) (by decide) ?_
      refine mw_icT i_98_282 (show ¬ nI 4 = nI 3 by decide) ?_
      refine mw_aload i_98_321 (L := QK) rfl ?_
      refine mw_aload i_98_322 (L := QM) rfl ?_
      refine mw_iload i_98_323 (x := nI x) rfl ?_
      refine mw_iload i_98_324 (x := nI mt) rfl ?_
      refine mw_callS i_98_325 mf_86 (as := [pR (some QK), pR (some QM), pI (nI x), pI (nI mt)]) (rest := []) (d' := d9) (b' := b + 35) (ls0 := [some (pR (some QK)), some (pR (some QM)), some (pI (nI x)), some (pI (nI mt)), none, none]) rfl rfl rfl (Nat.le_of_ble_eq_true rfl) rfl rfl rfl ?_
      refine b_strike (by omega) hQ hL (by omega) (by omega) (by omega) hmt ?_
      intro I33 hF3 hL3
      refine aft_n ?_
      refine mw_aload i_98_326 (L := RING) rfl ?_
      refine mw_iload i_98_327 (x := nI x) rfl ?_
      refine mw_iload i_98_328 (x := nI mt) rfl ?_
      have hW1 : CW n σ K I33 R := CW_Q hW (FrQ_tr FrQ_rfl hF3)
      refine mw_callV i_98_329 mf_38 (as := [pI (nI x), pI (nI mt)]) (rest := []) (d' := d9) (b' := b + 28) (ls0 := [some (pR (some RING)), some (pI (nI x)), some (pI (nI mt)), none]) rfl rfl rfl (Nat.le_of_ble_eq_true rfl) hW.1.1.1.1 rfl (by omega) rfl ?_
      refine k_strike_i (by omega) hW1 (by omega) (by omega) (fun h => absurd ⟨mt, hmt, rfl⟩ h) (fun m hm em h => absurd h22 h) (fun m hm em h0 I9 R9 hX9 hKR9 hF9 hR9 => ?_)
      obtain rfl := nI_inj em (by omega) (by omega)
      refine aft_v ?_
      refine mw_aload i_98_330 (L := QM) rfl ?_
      refine mw_iload i_98_331 (x := nI x) rfl ?_
      refine mw_callS i_98_332 mf_79 (as := [pR (some QM), pI (nI x)]) (rest := [pI (nI (mn σ x - 1))]) (d' := d9) (b' := b + 28) (ls0 := [some (pR (some QM)), some (pI (nI x))]) rfl rfl rfl (Nat.le_of_ble_eq_true rfl) rfl rfl rfl ?_
      refine a_many hQ (by omega) ((congrFun (hF9 QM (by decide)) _).trans ((LR_card hL3 (x := x) (by rw [dn_eq (stS_o (by decide) (by decide))]; omega) (by rw [dn_eq (stS_o (by decide) (by decide))]; omega)).1.trans (by rw [mn_stS (by omega)]))) ?_
      refine aft_v ?_
      refine mw_icF i_98_333 (fun h => h rfl) ?_
      refine mw_const i_98_334 (v := nI 1) (by decide) ?_
      refine mw_goto i_98_335 ?_
      refine mw_iret i_98_337 (x := nI 1) (fun _ => (by decide)) ?_
      exact q _ K I9 R9 ⟨⟨hX9, hR9, IV_up (IV_st hV (by omega) hmt h22) (Nat.le_succ n)⟩, LR_n (LR_C0 hL3 hF9) (Nat.le_succ n), hQ, hK0⟩
    · skip
      refine mw_const i_98_270 (v := nI 1) (by decide) ?_
      refine mw_iret i_98_271 (x := nI 1) (fun _ => (by decide)) ?_
      exact q σ K I R ⟨CW_up hW, LR_n hL (Nat.le_succ n), hQ, hK0⟩
