/-! the law's small methods, over the class's numbers -/
/-- a seat of today's card is open -/
def oP (σ : ST) (s : Nat) : Prop := s < 2 * mn σ (dn σ) ∧ opn σ s
theorem orl7 : ∀ a, a < 128 → ∀ w, w < 7 → a / 2 ^ w % 2 = 0 → nI a ||| nI (2 ^ w) = nI (a + 2 ^ w) := by decide +kernel
theorem or0 (x : Int32) : x ||| nI 0 = x := Int32.or_zero
theorem bs_or {p : Nat → Prop} {n : Nat} (hn : n < 7) : nI (bs p n) ||| nI (2 ^ n) = nI (bs p n + 2 ^ n) := by
  have h := bs_lt p n
  have h2 : (2 : Nat) ^ n ≤ 2 ^ 6 := Nat.pow_le_pow_right (by decide) (by omega)
  exact orl7 _ (by omega) n hn (by rw [Nat.div_eq_of_lt h])
theorem shl1 {n : Nat} (hn : n < 30) : nI 1 <<< (nI n &&& 31) = nI (2 ^ n) := by
  have h : (2 : Nat) ^ n ≤ 2 ^ 29 := Nat.pow_le_pow_right (by decide) (by omega)
  rw [pk_shlN _ n (s_l6 n (by omega)) (by omega), Nat.one_mul]
theorem shl2 {n : Nat} (hn : n < 28) : nI 2 <<< (nI n &&& 31) = nI (2 ^ (n + 1)) := by
  have h : (2 : Nat) ^ n ≤ 2 ^ 27 := Nat.pow_le_pow_right (by decide) (by omega)
  rw [pk_shlN _ n (s_l6 n (by omega)) (by omega), Nat.pow_succ, Nat.mul_comm]
theorem LR_card {n : Nat} {σ : ST} {I : IM} (h : LR n σ I) {x : Nat} (h1 : dn σ ≤ x) (h2 : x < dn σ + 3) : LK σ (I QK) (I QM) x := h.2.2.2.2.2.1 x h1 h2
theorem LR_day {n n0 : Nat} {σ : ST} {I : IM} (h : LR n σ I) (hV : IV n0 σ) : I QM 0 = nI (dn σ) := h.2.2.2.2.1.trans hV.2.2.1.1
theorem cl_bd {n0 : Nat} {σ : ST} (hV : IV n0 σ) {i j : Nat} (hi : i < 10) (hj : j < 10) : ∃ v, v ≤ 1000 ∧ σ 11 (10 * i + j) = nI v := (hV.2.2.2.1 i hi).2.2.2.2.2.2.1 j hj
theorem b_many {d b : Nat} {K : KM} {I : IM} {R : RM} {Q : QT} {n x : Nat} {σ : ST} (hQ : KQ K) (hL : LR n σ I) (h1 : dn σ ≤ x) (h2 : x < dn σ + 3) (hx : x < 1000) (q : Q (.inl (some (pI (nI (mn σ x))))) K I R) : Mw d b N_L_many 0 [some (pR (some QM)), some (pI (nI x))] [] K I R Q := a_many hQ hx (LR_card hL h1 h2).1 q
theorem b_isHurt {d b : Nat} {K : KM} {I : IM} {R : RM} {Q : QT} {n i x : Nat} {σ : ST} (hQ : KQ K) (hL : LR n σ I) (hi : i < 7) (q : Q (.inl (some (pI (bI (nI x < σ 6 i))))) K I R) : Mw d b N_L_isHurt 0 [some (pR (some QW)), some (pI (nI i)), some (pI (nI x))] [] K I R Q := a_isHurt hQ hi (hL.1 i hi).2.2.2.2.1 q
theorem b_worth {d b : Nat} {K : KM} {I : IM} {R : RM} {Q : QT} {n t i : Nat} {σ : ST} (hQ : KQ K) (hL : LR n σ I) (ht : t < 4) (hi : i < 7) (q : Q (.inl (some (pI (wrt σ t i)))) K I R) : Mw d b N_L_worth 0 [some (pR (some QW)), some (pR (some QV)), some (pI (nI t)), some (pI (nI i)), none, none] [] K I R Q := a_worth hQ ht hi (hL.1 i hi).1 (hL.2.1 t ht i hi).1 (hL.1 i hi).2.2.2.1 q
theorem b_isBarred {d b : Nat} {K : KM} {I : IM} {R : RM} {Q : QT} {n n0 x lo wi : Nat} {σ : ST} (hQ : KQ K) (hL : LR n σ I) (hV : IV n0 σ) (hx : x < 1000) (hl : lo < 7) (hw : wi < 7) (q : Q (.inl (some (pI (bI (brd σ lo wi (nI x)))))) K I R) : Mw d b N_L_isBarred 0 [some (pR (some QW)), some (pR (some QC)), some (pI (nI lo)), some (pI (nI wi)), some (pI (nI x))] [] K I R Q := by
  obtain ⟨cc, hcc, ecc⟩ := cl_bd hV (show lo < 10 by omega) (show wi < 10 by omega)
  obtain ⟨p, z, hp, hz, e12, -, e8⟩ := (hL.1 lo hl).2.2.2.2.2.2.2.2.1
  refine a_isBarred hQ hx hl hw hcc hp hz ((hL.2.2.1 lo hl wi hw).trans ecc) e8 ?_
  rw [← ecc, ← e12]
  exact q
theorem b_isOn {d b : Nat} {K : KM} {I : IM} {R : RM} {Q : QT} {n x one : Nat} {σ : ST} (hd : 1 ≤ d) (hQ : KQ K) (hL : LR n σ I) (h1 : dn σ ≤ x) (h2 : x < dn σ + 3) (hx : x < 1000) (ho : one < 7) (q : Q (.inl (some (pI (bI (onC σ x (nI one)))))) K I R) : Mw d b N_L_isOn 0 [some (pR (some QK)), some (pR (some QM)), some (pI (nI x)), some (pI (nI one)), none, none, none] [] K I R Q := by
  obtain ⟨g1, g2, g3, g4, g5⟩ := LR_card hL h1 h2
  refine a_isOn hd hQ hx ho g2 g1 ?_
  rw [bI_congr (Ex_congr (p := oN I x one) (q := fun j => σ 19 (36 * x + 6 * j) = nI one ∨ σ 19 (36 * x + 6 * j + 1) = nI one) (n := mn σ x) (fun j hj => by unfold oN; rw [(g5 j hj).1, (g5 j hj).2.1]))]
  exact q
theorem b_love {d b : Nat} {K : KM} {I : IM} {R : RM} {Q : QT} {n t i : Nat} {σ : ST} {m : Int32} (hQ : KQ K) (hL : LR n σ I) (ht : t < 4) (hi : i < 7) (q : ∀ I', FrQ I I' → LR n (lov σ t i m) I' → Q (.inl none) K I' R) : Mw d b N_L_love 0 [some (pR (some QV)), some (pI (nI t)), some (pI (nI i)), some (pI m), none] [] K I R Q := by
  refine a_love hQ ht hi ?_
  rw [(hL.2.1 t ht i hi).1]
  exact q _ (FrQ_up FrQ_rfl rfl) (LR_lov hL (cl99_b _) hi)
theorem b_turn {d b : Nat} {K : KM} {I : IM} {R : RM} {Q : QT} {n i : Nat} {σ : ST} (hQ : KQ K) (hL : LR n σ I) (hi : i < 7) (q : ∀ I', FrQ I I' → LR n (trS σ i) I' → Q (.inl none) K I' R) : Mw d b N_L_turn 0 [some (pR (some QW)), some (pR (some QV)), some (pI (nI i)), none, none, none] [] K I R Q := by
  refine a_turn hQ hi ?_
  rw [(hL.1 i hi).2.2.1, trl_ok hL hi]
  exact q _ (FrQ_up FrQ_rfl rfl) (LR_fld hL (Or.inl ⟨rfl, rfl⟩) (fun _ => trn_b (hL.1 i hi).2.2.2.2.2.2.2.2.2.2))
theorem b_crown {d b : Nat} {K : KM} {I : IM} {R : RM} {Q : QT} {n t l : Nat} {σ : ST} {x y : Int32} (hQ : KQ K) (hL : LR n σ I) (ht : t < 2) (hl : l < 2000) (h17 : σ 17 t = nI l) (hln : ∀ t, t < 2 → (σ 17 t).toNatClampNeg ≤ 2000) (hx : x = (-1) ∨ ∃ w, w < 7 ∧ x = nI w) (q : ∀ I', FrQ I I' → LR n (crn σ t l x y) I' → Q (.inl none) K I' R) : Mw d b N_L_crown 0 [some (pR (some QM)), some (pI (nI t)), some (pI x)] [] K I R Q := by
  refine a_crown hQ ht ?_
  exact q _ (FrQ_up (FrQ_up FrQ_rfl rfl) rfl) (LR_crn hL ht hl h17 hln hx)
set_option maxRecDepth 20000 in
theorem b_opens_lp {d b : Nat} {K : KM} {I : IM} {R : RM} {Q : QT} {n n0 : Nat} {σ : ST} (hd : 1 ≤ d) (hQ : KQ K) (hL : LR n σ I) (hV : IV n0 σ)  (q : Q (.inl (some (pI (nI (bs (oP σ) (2 * mn σ (dn σ))))))) K I R) : ∀ (n j : Nat) (u5 : Option PV), mn σ (dn σ) - j < n → j ≤ mn σ (dn σ) → Mw d b N_L_opens 4 [some (pR (some QW)), some (pR (some QK)), some (pR (some QM)), some (pI (nI (bs (oP σ) (2 * j)))), some (pI (nI j)), u5] [] K I R Q := by
  obtain ⟨d9, rfl⟩ : ∃ d9, d = d9 + 1 := ⟨d - 1, by omega⟩
  intro n
  induction n with
  | zero => intro j u5 hn; exact absurd hn (Nat.not_lt_zero _)
  | succ n ih =>
    intro j u5 hn hi
    have hdd := hV.2.2.1.2
    have h10 := hL.2.2.2.2.2.2.2.2.2.1
    obtain ⟨g1, g2, g3, g4, g5⟩ := LR_card hL (x := dn σ) (Nat.le_refl _) (by omega)
    have hs0 : j < mn σ (dn σ) → sw σ (2 * j) < 7 := fun h => by have : sw σ (2 * j) < pn σ := (sw_at hV (r := 0) h (by decide)).2; omega
    have hs1 : j < mn σ (dn σ) → sw σ (2 * j + 1) < 7 := fun h => by have := (sw_at hV (r := 1) h (by decide)).2; omega
    refine mw_iload i_87_4 (x := nI j) rfl ?_
    refine mw_aload i_87_5 (L := QM) rfl ?_
    refine mw_aload i_87_6 (L := QM) rfl ?_
    refine mw_const i_87_7 (v := nI 0) (by decide) ?_
    refine mw_iald i_87_8 (jn := 0) (n := 18) (by omega) (by omega) hQ.2.2.2.2.2 (by decide) (v := nI (dn σ)) (LR_day hL hV) ?_
    refine mw_callS i_87_9 mf_79 (as := [pR (some QM), pI (nI (dn σ))]) (rest := [pI (nI j)]) (d' := d9) (b' := b) (ls0 := [some (pR (some QM)), some (pI (nI (dn σ)))]) rfl rfl rfl (Nat.le_of_ble_eq_true rfl) rfl rfl rfl ?_
    refine b_many hQ hL (Nat.le_refl _) (by omega) (by omega) ?_
    refine aft_v ?_
    refine mw_ic i_87_10 (p := (mn σ (dn σ)) ≤ j) (nI_leI (by omega) (by omega)) (fun c1 => ?_) (fun c1 => ?_)
    · skip
      refine mw_iload i_87_63 (x := nI (bs (oP σ) (2 * j))) rfl ?_
      refine mw_iretI i_87_64 (x := nI (bs (oP σ) (2 * j))) rt_87 ?_
      obtain rfl : j = mn σ (dn σ) := by omega
      exact q
    · skip
      refine mw_aload i_87_11 (L := QM) rfl ?_
      refine mw_aload i_87_12 (L := QM) rfl ?_
      refine mw_const i_87_13 (v := nI 0) (by decide) ?_
      refine mw_iald i_87_14 (jn := 0) (n := 18) (by omega) (by omega) hQ.2.2.2.2.2 (by decide) (v := nI (dn σ)) (LR_day hL hV) ?_
      refine mw_callS i_87_15 mf_78 (as := [pR (some QM), pI (nI (dn σ))]) (rest := []) (d' := d9) (b' := b) (ls0 := [some (pR (some QM)), some (pI (nI (dn σ)))]) rfl rfl rfl (Nat.le_of_ble_eq_true rfl) rfl rfl rfl ?_
      refine a_slot (by omega) ?_
      refine aft_v ?_
      refine mw_const i_87_16 (v := nI 6) (by decide) ?_
      refine mw_iload i_87_17 (x := nI j) rfl ?_
      refine mw_imul i_87_18 (w := nI (6 * j)) (pk_mul _ _) ?_
      refine mw_iadd i_87_19 (w := nI (18 * ((dn σ) % 3) + (6 * j))) (nI_add _ _) ?_
      refine mw_istore i_87_20 (ls' := [some (pR (some QW)), some (pR (some QK)), some (pR (some QM)), some (pI (nI (bs (oP σ) (2 * j)))), some (pI (nI j)), some (pI (nI (18 * ((dn σ) % 3) + (6 * j))))]) rfl (Nat.le_of_ble_eq_true rfl) ?_
      have J2 : Mw (d9 + 1) b 87 39 [some (pR (some QW)), some (pR (some QK)), some (pR (some QM)), some (pI (nI (bs (oP σ) (2 * j)))), some (pI (nI j)), some (pI (nI (18 * ((dn σ) % 3) + (6 * j))))] [pI (nI (bs (oP σ) (2 * j + 1)))] K I R Q := by
        refine mw_istore i_87_39 (ls' := [some (pR (some QW)), some (pR (some QK)), some (pR (some QM)), some (pI (nI (bs (oP σ) (2 * j + 1)))), some (pI (nI j)), some (pI (nI (18 * ((dn σ) % 3) + (6 * j))))]) rfl (Nat.le_of_ble_eq_true rfl) ?_
        have J3 : Mw (d9 + 1) b 87 60 [some (pR (some QW)), some (pR (some QK)), some (pR (some QM)), some (pI (nI (bs (oP σ) (2 * j + 1)))), some (pI (nI j)), some (pI (nI (18 * ((dn σ) % 3) + (6 * j))))] [pI (nI (bs (oP σ) (2 * (j + 1))))] K I R Q := by
          refine mw_istore i_87_60 (ls' := [some (pR (some QW)), some (pR (some QK)), some (pR (some QM)), some (pI (nI (bs (oP σ) (2 * (j + 1))))), some (pI (nI j)), some (pI (nI (18 * ((dn σ) % 3) + (6 * j))))]) rfl (Nat.le_of_ble_eq_true rfl) ?_
          refine mw_iinc i_87_61 (x := nI j) (v := nI (j + 1)) (ls' := [some (pR (some QW)), some (pR (some QK)), some (pR (some QM)), some (pI (nI (bs (oP σ) (2 * (j + 1))))), some (pI (nI (j + 1))), some (pI (nI (18 * ((dn σ) % 3) + (6 * j))))]) rfl (nI_add _ _) rfl ?_
          refine mw_goto i_87_62 ?_
          exact ih (j + 1) _ (by omega) (by omega)
        refine mw_iload i_87_40 (x := nI (bs (oP σ) (2 * j + 1))) rfl ?_
        refine mw_aload i_87_41 (L := QW) rfl ?_
        refine mw_aload i_87_42 (L := QK) rfl ?_
        refine mw_iload i_87_43 (x := nI (18 * ((dn σ) % 3) + (6 * j))) rfl ?_
        refine mw_const i_87_44 (v := nI 1) (by decide) ?_
        refine mw_iadd i_87_45 (w := nI (18 * ((dn σ) % 3) + (6 * j) + 1)) (nI_add _ _) ?_
        refine mw_iald i_87_46 (jn := 18 * ((dn σ) % 3) + (6 * j) + 1) (n := 54) (by omega) (by omega) hQ.2.2.2.2.1 (by decide) (v := nI (sw σ (2 * j + 1))) ((g5 j (by omega)).2.1.trans (sw_at hV (r := 1) (by omega) (by decide)).1) ?_
        refine mw_aload i_87_47 (L := QM) rfl ?_
        refine mw_const i_87_48 (v := nI 0) (by decide) ?_
        refine mw_iald i_87_49 (jn := 0) (n := 18) (by omega) (by omega) hQ.2.2.2.2.2 (by decide) (v := nI (dn σ)) (LR_day hL hV) ?_
        refine mw_callS i_87_50 mf_80 (as := [pR (some QW), pI (nI (sw σ (2 * j + 1))), pI (nI (dn σ))]) (rest := [pI (nI (bs (oP σ) (2 * j + 1)))]) (d' := d9) (b' := b) (ls0 := [some (pR (some QW)), some (pI (nI (sw σ (2 * j + 1)))), some (pI (nI (dn σ)))]) rfl rfl rfl (Nat.le_of_ble_eq_true rfl) rfl rfl rfl ?_
        refine b_isHurt hQ hL (by omega) ?_
        refine aft_v ?_
        refine mw_eqB i_87_51 rfl (fun c4 => ?_) (fun c4 => ?_)
        · skip
          refine mw_const i_87_58 (v := nI 0) (by decide) ?_
          refine mw_ior i_87_59 (w := nI (bs (oP σ) (2 * j + 1))) (or0 _) ?_
          exact mw_top (show nI (bs (oP σ) (2 * j + 1)) = nI (bs (oP σ) (2 * (j + 1))) from congrArg nI (bs_f (p := oP σ) (fun h => c4 h.2)).symm) J3
        · skip
          refine mw_const i_87_52 (v := nI 2) (by decide) ?_
          refine mw_const i_87_53 (v := nI 2) (by decide) ?_
          refine mw_iload i_87_54 (x := nI j) rfl ?_
          refine mw_imul i_87_55 (w := nI (2 * j)) (pk_mul _ _) ?_
          refine mw_ishl i_87_56 (w := nI (2 ^ (2 * j + 1))) (shl2 (by omega)) ?_
          refine mw_goto i_87_57 ?_
          refine mw_ior i_87_59 (w := nI (bs (oP σ) (2 * j + 1) + 2 ^ (2 * j + 1))) (bs_or (by omega)) ?_
          exact mw_top (show nI (bs (oP σ) (2 * j + 1) + 2 ^ (2 * j + 1)) = nI (bs (oP σ) (2 * (j + 1))) from congrArg nI (bs_t (p := oP σ) ⟨by omega, c4⟩).symm) J3
      refine mw_iload i_87_21 (x := nI (bs (oP σ) (2 * j))) rfl ?_
      refine mw_aload i_87_22 (L := QW) rfl ?_
      refine mw_aload i_87_23 (L := QK) rfl ?_
      refine mw_iload i_87_24 (x := nI (18 * ((dn σ) % 3) + (6 * j))) rfl ?_
      refine mw_iald i_87_25 (jn := 18 * ((dn σ) % 3) + (6 * j)) (n := 54) (by omega) (by omega) hQ.2.2.2.2.1 (by decide) (v := nI (sw σ (2 * j))) ((g5 j (by omega)).1.trans (sw_at hV (r := 0) (by omega) (by decide)).1) ?_
      refine mw_aload i_87_26 (L := QM) rfl ?_
      refine mw_const i_87_27 (v := nI 0) (by decide) ?_
      refine mw_iald i_87_28 (jn := 0) (n := 18) (by omega) (by omega) hQ.2.2.2.2.2 (by decide) (v := nI (dn σ)) (LR_day hL hV) ?_
      refine mw_callS i_87_29 mf_80 (as := [pR (some QW), pI (nI (sw σ (2 * j))), pI (nI (dn σ))]) (rest := [pI (nI (bs (oP σ) (2 * j)))]) (d' := d9) (b' := b) (ls0 := [some (pR (some QW)), some (pI (nI (sw σ (2 * j)))), some (pI (nI (dn σ)))]) rfl rfl rfl (Nat.le_of_ble_eq_true rfl) rfl rfl rfl ?_
      refine b_isHurt hQ hL (by omega) ?_
      refine aft_v ?_
      refine mw_eqB i_87_30 rfl (fun c5 => ?_) (fun c5 => ?_)
      · skip
        refine mw_const i_87_37 (v := nI 0) (by decide) ?_
        refine mw_ior i_87_38 (w := nI (bs (oP σ) (2 * j))) (or0 _) ?_
        exact mw_top (show nI (bs (oP σ) (2 * j)) = nI (bs (oP σ) (2 * j + 1)) from congrArg nI (bs_f (p := oP σ) (fun h => c5 h.2)).symm) J2
      · skip
        refine mw_const i_87_31 (v := nI 1) (by decide) ?_
        refine mw_const i_87_32 (v := nI 2) (by decide) ?_
        refine mw_iload i_87_33 (x := nI j) rfl ?_
        refine mw_imul i_87_34 (w := nI (2 * j)) (pk_mul _ _) ?_
        refine mw_ishl i_87_35 (w := nI (2 ^ (2 * j))) (shl1 (by omega)) ?_
        refine mw_goto i_87_36 ?_
        refine mw_ior i_87_38 (w := nI (bs (oP σ) (2 * j) + 2 ^ (2 * j))) (bs_or (by omega)) ?_
        exact mw_top (show nI (bs (oP σ) (2 * j) + 2 ^ (2 * j)) = nI (bs (oP σ) (2 * j + 1)) from congrArg nI (bs_t (p := oP σ) ⟨by omega, c5⟩).symm) J2
set_option maxRecDepth 20000 in
set_option maxHeartbeats 400000 in
theorem b_opens0 {d b : Nat} {K : KM} {I : IM} {R : RM} {Q : QT} {n n0 : Nat} {σ : ST} (hd : 1 ≤ d) (hQ : KQ K) (hL : LR n σ I) (hV : IV n0 σ)  (q : Q (.inl (some (pI (nI (bs (oP σ) (2 * mn σ (dn σ))))))) K I R) : Mw d b N_L_opens 0 [some (pR (some QW)), some (pR (some QK)), some (pR (some QM)), none, none, none] [] K I R Q := by
  obtain ⟨d9, rfl⟩ : ∃ d9, d = d9 + 1 := ⟨d - 1, by omega⟩
  refine mw_const i_87_0 (v := nI 0) (by decide) ?_
  refine mw_istore i_87_1 (ls' := [some (pR (some QW)), some (pR (some QK)), some (pR (some QM)), some (pI (nI 0)), none, none]) rfl (Nat.le_of_ble_eq_true rfl) ?_
  refine mw_const i_87_2 (v := nI 0) (by decide) ?_
  refine mw_istore i_87_3 (ls' := [some (pR (some QW)), some (pR (some QK)), some (pR (some QM)), some (pI (nI 0)), some (pI (nI 0)), none]) rfl (Nat.le_of_ble_eq_true rfl) ?_
  exact b_opens_lp hd hQ hL hV q (mn σ (dn σ) + 1) 0 _ (by omega) (by omega)
theorem bs_ext {p : Nat → Prop} {a : Nat} : ∀ {b : Nat}, a ≤ b → (∀ s, a ≤ s → s < b → ¬ p s) → bs p b = bs p a
  | 0, h, _ => by rw [show a = 0 by omega]
  | b + 1, h, h0 => by
    by_cases e : a = b + 1
    · rw [e]
    · rw [bs_f (h0 b (by omega) (by omega))]
      exact bs_ext (by omega) (fun s h1 h2 => h0 s h1 (by omega))
theorem b_opens {d b : Nat} {K : KM} {I : IM} {R : RM} {Q : QT} {n n0 : Nat} {σ : ST} (hd : 1 ≤ d) (hQ : KQ K) (hL : LR n σ I) (hV : IV n0 σ) (q : Q (.inl (some (pI (nI (bs (oP σ) 6))))) K I R) : Mw d b N_L_opens 0 [some (pR (some QW)), some (pR (some QK)), some (pR (some QM)), none, none, none] [] K I R Q := by
  refine b_opens0 hd hQ hL hV ?_
  have g2 := (LR_card hL (x := dn σ) (Nat.le_refl _) (by omega)).2.1
  rw [← bs_ext (p := oP σ) (a := 2 * mn σ (dn σ)) (b := 6) (by omega) (fun s h1 _ h => absurd h.1 (by omega))]
  exact q
theorem cnt_oP {σ : ST} : ∀ {s : Nat}, s ≤ 2 * mn σ (dn σ) → cnt (oP σ) s = cnt (opn σ) s
  | 0, _ => rfl
  | s + 1, h => by
    have ih := cnt_oP (σ := σ) (s := s) (by omega)
    by_cases ho : opn σ s
    · rw [cnt_t ho, cnt_t (p := oP σ) ⟨by omega, ho⟩, ih]
    · rw [cnt_f ho, cnt_f (p := oP σ) (fun q => ho q.2), ih]
theorem cnt_ext {p : Nat → Prop} {a : Nat} : ∀ {b : Nat}, a ≤ b → (∀ s, a ≤ s → s < b → ¬ p s) → cnt p b = cnt p a
  | 0, h, _ => by rw [show a = 0 by omega]
  | b + 1, h, h0 => by
    by_cases e : a = b + 1
    · rw [e]
    · rw [cnt_f (h0 b (by omega) (by omega))]
      exact cnt_ext (by omega) (fun s h1 h2 => h0 s h1 (by omega))
theorem cnt6 {n : Nat} {σ : ST} {I : IM} (hL : LR n σ I) : cnt (oP σ) 6 = mO σ := by
  have g2 := (LR_card hL (x := dn σ) (Nat.le_refl _) (by omega)).2.1
  rw [cnt_ext (p := oP σ) (a := 2 * mn σ (dn σ)) (b := 6) (by omega) (fun s h1 _ h => absurd h.1 (by omega)), cnt_oP (Nat.le_refl _)]
  rfl
