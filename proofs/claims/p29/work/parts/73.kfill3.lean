/-! the mender goes through the ways: the whole -/
theorem bnd_1 {σ : ST} {p : Nat} (h : bnd σ p) : 1 ≤ Os σ p := by have := h.1; omega
set_option maxRecDepth 20000 in
set_option maxHeartbeats 400000 in
theorem k_fill_tail {d b : Nat} {K : KM} {I : IM} {R : RM} {Q : QT} {n0 tw : Nat} {σ : ST} {c : Nat → Nat} {p : Nat} {sm : Int32} {i : Nat} (hd : 1 ≤ d) (hd3 : mO σ - p + 3 ≤ d) (hW : CW n0 σ K I R) (hX : FX σ tw I R) (hO : mO σ ≤ 4) (hp : p < mO σ) (hrec : FillC n0 tw σ K R (p + 1)) (hs : ∀ s, s < 2 * mn σ (dn σ) → s ≠ Os σ p → I (MN 0) s = sv (pn σ) (who σ c p s)) (ht : Tkn σ c p I) (hb : Bst σ tw (bg σ c p (pn σ)) I) (hP : PVd σ c p) (hc : ∀ j, j < p → c j ≤ pn σ) (hsm : sm = smW σ tw c p) (q : ∀ I', FrX I I' → Sts σ c p I' → Tkn σ c p I' → Bst σ tw ((pre (pn σ) c p + 1) * (pn σ + 1) ^ (mO σ - p)) I' → Q (.inl none) K I' R) : Mw d b N_X2_fillFrom 97 [some (pR (some MEN)), some (pI (nI p)), some (pI sm), some (pI (nI (Os σ p))), some (pI (bI (bnd σ p))), some (pI (bI (bnd σ p ∧ c (p - 1) = pn σ))), some (pI (nI i))] [] K I R Q := by
  obtain ⟨d9, rfl⟩ : ∃ d9, d = d9 + 1 := ⟨d - 1, by omega⟩
  have hS := hW.1.1
  have hR := hW.2.1
  have hV := hW.2.2
  have hpp := hW.2.2.1.2
  have hdd := hW.2.2.2.2.1.2
  have hz6 : mn σ (dn σ) ≤ 6 := (CW_c hW (d := dn σ) (by omega)).2.2.1
  have hop := (Os_lt hp).1
  refine mw_aload i_16_97 (L := MEN) rfl ?_
  refine mw_getR i_16_98 hS.2.1.2.2.2.2 (q := some (MN 0)) (hS.2.2.2.2 0 (by omega)).1 ?_
  refine mw_iload i_16_99 (x := nI (Os σ p)) rfl ?_
  refine mw_const i_16_100 (v := (-1)) (by decide) ?_
  obtain ⟨I21, e21⟩ : ∃ I21, I21 = up2 I (MN 0) (Os σ p) (-1) := ⟨_, rfl⟩
  refine mw_iast i_16_101 (jn := Os σ p) (n := 12) (by omega) (by omega) (x := (-1)) (show K (MN 0) = some (7, 12) from (hS.2.2.2.2 0 (by omega)).2) (I' := I21) e21.symm ?_
  refine mw_iload i_16_102 (x := bI (bnd σ p)) rfl ?_
  refine mw_eqB i_16_103 rfl (fun c2 => ?_) (fun c2 => ?_)
  · skip
    refine mw_aload i_16_106 (L := MEN) rfl ?_
    refine mw_iload i_16_107 (x := nI p) rfl ?_
    refine mw_const i_16_108 (v := nI 1) (by decide) ?_
    refine mw_iadd i_16_109 (w := nI (p + 1)) (nI_add _ _) ?_
    refine mw_iload i_16_110 (x := sm) rfl ?_
    have hX1 : FX σ tw I21 R := FX_X hX (e21.symm ▸ FrX_up FrX_rfl (by decide))
    have hW1 := CW_N hW (FrN_X (e21.symm ▸ FrX_up FrX_rfl (by decide))) FrR_rfl
    have hL : Lk σ (upn c p (pn σ)) p := ⟨fun h => absurd upn_at h, fun hbn => absurd hbn c2, bad_P hp⟩
    refine mw_callS i_16_111 mf_16 (as := [pR (some MEN), pI (nI (p + 1)), pI sm]) (rest := []) (d' := d9) (b' := b) (ls0 := [some (pR (some MEN)), some (pI (nI (p + 1))), some (pI sm), none, none, none, none]) rfl rfl rfl (Nat.le_of_ble_eq_true rfl) rfl rfl rfl ?_
    refine hrec _ _ _ _ (upn c p (pn σ)) _ (by omega) hW1 hX1 (Sts_up hp hs (by rw [e21, up2_at, sv_P])) ((Tkn_P (by rw [e21, up2_ne (by simp)])).mp ht) (Bst_eq hb (by rw [e21, up2_ne (by simp)]) (by rw [e21, up2_ne (by simp)]) (by rw [bg_in])) (PVd_up hp hP hL) (up_le hc (Nat.le_refl _)) (by rw [smW_up, wo_P, add0]; exact hsm) ?_
    intro I9 hF9 hs9 ht9 hb9
    rw [bg_out, bg_P hp] at hb9
    refine aft_n ?_
    refine mw_ret i_16_112 ?_
    exact q I9 (FrX_tr (e21.symm ▸ FrX_up FrX_rfl (by decide)) hF9) (Sts_P hp hs9) ((Tkn_P rfl).mpr ht9) hb9
  · skip
    refine mw_iload i_16_104 (x := bI (bnd σ p ∧ c (p - 1) = pn σ)) rfl ?_
    refine mw_eqB i_16_105 rfl (fun c3 => ?_) (fun c3 => ?_)
    · skip
      refine mw_ret i_16_112 ?_
      exact q I21 (e21.symm ▸ FrX_up FrX_rfl (by decide)) (Sts_P hp (Sts_up hp hs (by rw [e21, up2_at, sv_P]))) (fun i9 hi9 => by rw [e21, up2_ne (by simp)]; exact ht i9 hi9) (Bst_eq hb (by rw [e21, up2_ne (by simp)]) (by rw [e21, up2_ne (by simp)]) (by rw [← bg_P hp]; exact Wb_no hp hc (Nat.le_refl _) (Lk_no_bnd hp c2 (fun h => c3 ⟨c2, h.mp rfl⟩))))
    · skip
      refine mw_aload i_16_106 (L := MEN) rfl ?_
      refine mw_iload i_16_107 (x := nI p) rfl ?_
      refine mw_const i_16_108 (v := nI 1) (by decide) ?_
      refine mw_iadd i_16_109 (w := nI (p + 1)) (nI_add _ _) ?_
      refine mw_iload i_16_110 (x := sm) rfl ?_
      have hX1 : FX σ tw I21 R := FX_X hX (e21.symm ▸ FrX_up FrX_rfl (by decide))
      have hW1 := CW_N hW (FrN_X (e21.symm ▸ FrX_up FrX_rfl (by decide))) FrR_rfl
      have hL : Lk σ (upn c p (pn σ)) p := ⟨fun h => absurd upn_at h, fun hbn => ⟨fun _ => by rw [upn_ne (by have := (bnd_pos hbn hp).1; omega)]; exact c3.2, fun _ => upn_at⟩, bad_P hp⟩
      refine mw_callS i_16_111 mf_16 (as := [pR (some MEN), pI (nI (p + 1)), pI sm]) (rest := []) (d' := d9) (b' := b) (ls0 := [some (pR (some MEN)), some (pI (nI (p + 1))), some (pI sm), none, none, none, none]) rfl rfl rfl (Nat.le_of_ble_eq_true rfl) rfl rfl rfl ?_
      refine hrec _ _ _ _ (upn c p (pn σ)) _ (by omega) hW1 hX1 (Sts_up hp hs (by rw [e21, up2_at, sv_P])) ((Tkn_P (by rw [e21, up2_ne (by simp)])).mp ht) (Bst_eq hb (by rw [e21, up2_ne (by simp)]) (by rw [e21, up2_ne (by simp)]) (by rw [bg_in])) (PVd_up hp hP hL) (up_le hc (Nat.le_refl _)) (by rw [smW_up, wo_P, add0]; exact hsm) ?_
      intro I9 hF9 hs9 ht9 hb9
      rw [bg_out, bg_P hp] at hb9
      refine aft_n ?_
      refine mw_ret i_16_112 ?_
      exact q I9 (FrX_tr (e21.symm ▸ FrX_up FrX_rfl (by decide)) hF9) (Sts_P hp hs9) ((Tkn_P rfl).mpr ht9) hb9
set_option maxRecDepth 20000 in
set_option maxHeartbeats 400000 in
theorem k_fill_go {d b : Nat} {K : KM} {I : IM} {R : RM} {Q : QT} {n0 tw : Nat} {σ : ST} {c : Nat → Nat} {p : Nat} {sm : Int32} (hd : 1 ≤ d) (hd3 : mO σ - p + 3 ≤ d) (hp : p < mO σ) (hrec : FillC n0 tw σ K R (p + 1)) (hW : CW n0 σ K I R) (hX : FX σ tw I R) (hO : mO σ ≤ 4) (hs : Sts σ c p I) (ht : Tkn σ c p I) (hb : Bst σ tw (pre (pn σ) c p * (pn σ + 1) ^ (mO σ - p)) I) (hP : PVd σ c p) (hc : ∀ j, j < p → c j ≤ pn σ) (hsm : sm = smW σ tw c p) (q : ∀ I', FrX I I' → Sts σ c p I' → Tkn σ c p I' → Bst σ tw ((pre (pn σ) c p + 1) * (pn σ + 1) ^ (mO σ - p)) I' → Q (.inl none) K I' R) : Mw d b N_X2_fillFrom 0 [some (pR (some MEN)), some (pI (nI p)), some (pI sm), none, none, none, none] [] K I R Q := by
  obtain ⟨d9, rfl⟩ : ∃ d9, d = d9 + 1 := ⟨d - 1, by omega⟩
  have hS := hW.1.1
  have hR := hW.2.1
  have hV := hW.2.2
  have hpp := hW.2.2.1.2
  have hdd := hW.2.2.2.2.1.2
  have hz6 : mn σ (dn σ) ≤ 6 := (CW_c hW (d := dn σ) (by omega)).2.2.1
  have hop := (Os_lt hp).1
  refine mw_iload i_16_0 (x := nI p) rfl ?_
  refine mw_aload i_16_1 (L := MEN) rfl ?_
  refine mw_get i_16_2 hS.2.1.2.2.2.2 (v := nI (mO σ)) hX.2.2.2.1 ?_
  refine mw_ic i_16_3 (p := (mO σ) ≤ p) (nI_leI (by omega) (by omega)) (fun c1 => ?_) (fun c1 => ?_)
  · skip
    exact absurd c1 (by omega)
  · skip
    refine mw_iload i_16_4 (x := nI p) rfl ?_
    refine mw_const i_16_5 (v := nI 4) (by decide) ?_
    refine mw_ic i_16_6 (p := p < 4) (nI_ltI (by omega) (by omega)) (fun c2 => ?_) (fun c2 => ?_)
    · skip
      refine mw_aload i_16_11 (L := MEN) rfl ?_
      refine mw_getR i_16_12 hS.2.1.2.2.2.2 (q := some (MN 2)) (hS.2.2.2.2 2 (by omega)).1 ?_
      refine mw_iload i_16_13 (x := nI p) rfl ?_
      refine mw_iald i_16_14 (jn := p) (n := 4) (by omega) (by omega) (show K (MN 2) = some (7, 4) from (hS.2.2.2.2 2 (by omega)).2) (by decide) (v := nI (Os σ p)) (hX.2.2.2.2.2.2.1 p (by omega)) ?_
      refine mw_istore i_16_15 (ls' := [some (pR (some MEN)), some (pI (nI p)), some (pI sm), some (pI (nI (Os σ p))), none, none, none]) rfl (Nat.le_of_ble_eq_true rfl) ?_
      have J3 : Mw (d9 + 1) b 16 31 [some (pR (some MEN)), some (pI (nI p)), some (pI sm), some (pI (nI (Os σ p))), none, none, none] [pI (bI (bnd σ p))] K I R Q := by
        refine mw_istore i_16_31 (ls' := [some (pR (some MEN)), some (pI (nI p)), some (pI sm), some (pI (nI (Os σ p))), some (pI (bI (bnd σ p))), none, none]) rfl (Nat.le_of_ble_eq_true rfl) ?_
        have J4 : Mw (d9 + 1) b 16 45 [some (pR (some MEN)), some (pI (nI p)), some (pI sm), some (pI (nI (Os σ p))), some (pI (bI (bnd σ p))), none, none] [pI (bI (bnd σ p ∧ c (p - 1) = pn σ))] K I R Q := by
          refine mw_istore i_16_45 (ls' := [some (pR (some MEN)), some (pI (nI p)), some (pI sm), some (pI (nI (Os σ p))), some (pI (bI (bnd σ p))), some (pI (bI (bnd σ p ∧ c (p - 1) = pn σ))), none]) rfl (Nat.le_of_ble_eq_true rfl) ?_
          refine mw_const i_16_46 (v := nI 0) (by decide) ?_
          refine mw_istore i_16_47 (ls' := [some (pR (some MEN)), some (pI (nI p)), some (pI sm), some (pI (nI (Os σ p))), some (pI (bI (bnd σ p))), some (pI (bI (bnd σ p ∧ c (p - 1) = pn σ))), some (pI (nI 0))]) rfl (Nat.le_of_ble_eq_true rfl) ?_
          exact k_fill_lp (by omega) hd3 hW hO hp hrec hP hc hsm (fun i9 I9 hX9 hF9 hs9 ht9 hb9 => k_fill_tail (by omega) (by omega) (CW_N hW (FrN_X hF9) FrR_rfl) hX9 hO hp hrec hs9 ht9 hb9 hP hc hsm (fun I8 hF8 a b c => q I8 (FrX_tr hF9 hF8) a b c)) (nC σ + 1) 0 I (by omega) (by omega) hX FrX_rfl (fun s9 h9 _ => hs s9 h9) ht (by rw [show ei σ 0 = 0 from rfl, bg_0 hp]; exact hb)
        refine mw_iload i_16_32 (x := bI (bnd σ p)) rfl ?_
        refine mw_eqB i_16_33 rfl (fun c5 => ?_) (fun c5 => ?_)
        · skip
          refine mw_const i_16_44 (v := nI 0) (by decide) ?_
          rw [show nI 0 = bI (bnd σ p ∧ c (p - 1) = pn σ) from (bI_f ((fun h => c5 h.1))).symm]
          exact J4
        · skip
          refine mw_aload i_16_34 (L := MEN) rfl ?_
          refine mw_getR i_16_35 hS.2.1.2.2.2.2 (q := some (MN 0)) (hS.2.2.2.2 0 (by omega)).1 ?_
          refine mw_iload i_16_36 (x := nI (Os σ p)) rfl ?_
          refine mw_const i_16_37 (v := nI 1) (by decide) ?_
          refine mw_isub i_16_38 (w := nI ((Os σ p) - 1)) (pk_sub (bnd_1 (by assumption))) ?_
          refine mw_iald i_16_39 (jn := (Os σ p) - 1) (n := 12) (by omega) (by omega) (show K (MN 0) = some (7, 12) from (hS.2.2.2.2 0 (by omega)).2) (by decide) (v := sv (pn σ) (who σ c p (Os σ p - 1))) (hs _ (by omega)) ?_
          refine mw_const i_16_40 (v := (-1)) (by decide) ?_
          refine mw_ic i_16_41 (p := ¬ (sv (pn σ) (who σ c p (Os σ p - 1))) = (-1)) Iff.rfl (fun c6 => ?_) (fun c6 => ?_)
          · skip
            refine mw_const i_16_44 (v := nI 0) (by decide) ?_
            rw [show nI 0 = bI (bnd σ p ∧ c (p - 1) = pn σ) from (bI_f ((fun h => c6 ((who_bnd hp c5 hc hpp).mpr h.2)))).symm]
            exact J4
          · skip
            refine mw_const i_16_42 (v := nI 1) (by decide) ?_
            refine mw_goto i_16_43 ?_
            rw [show nI 1 = bI (bnd σ p ∧ c (p - 1) = pn σ) from (bI_t (⟨c5, (who_bnd hp c5 hc hpp).mp (Classical.not_not.mp c6)⟩)).symm]
            exact J4
      refine mw_iload i_16_16 (x := nI (Os σ p)) rfl ?_
      refine mw_const i_16_17 (v := nI 2) (by decide) ?_
      refine mw_irem i_16_18 (by decide) (w := nI ((Os σ p) % 2)) (pk_rem (by omega) (by omega) (by omega)) ?_
      refine mw_const i_16_19 (v := nI 1) (by decide) ?_
      refine mw_ic i_16_20 (p := ¬ ((Os σ p) % 2) = 1) (not_congr (nI_eq (by omega) (by omega))) (fun c7 => ?_) (fun c7 => ?_)
      · skip
        refine mw_const i_16_30 (v := nI 0) (by decide) ?_
        rw [show nI 0 = bI (bnd σ p) from (bI_f ((fun h => c7 h.1))).symm]
        exact J3
      · skip
        refine mw_aload i_16_21 (L := MEN) rfl ?_
        refine mw_getR i_16_22 hS.2.1.2.2.2.2 (q := some (MN 1)) (hS.2.2.2.2 1 (by omega)).1 ?_
        refine mw_iload i_16_23 (x := nI (Os σ p)) rfl ?_
        refine mw_const i_16_24 (v := nI 1) (by decide) ?_
        refine mw_isub i_16_25 (w := nI ((Os σ p) - 1)) (pk_sub (by omega)) ?_
        refine mw_bald i_16_26 (jn := (Os σ p) - 1) (n := 12) (by omega) (by omega) (show K (MN 1) = some (8, 12) from (hS.2.2.2.2 1 (by omega)).2) (v := bI (opn σ (Os σ p - 1))) (hX.2.2.2.2.2.1 _ (by omega)) ?_
        refine mw_eqB i_16_27 rfl (fun c8 => ?_) (fun c8 => ?_)
        · skip
          refine mw_const i_16_30 (v := nI 0) (by decide) ?_
          rw [show nI 0 = bI (bnd σ p) from (bI_f ((fun h => c8 h.2))).symm]
          exact J3
        · skip
          refine mw_const i_16_28 (v := nI 1) (by decide) ?_
          refine mw_goto i_16_29 ?_
          rw [show nI 1 = bI (bnd σ p) from (bI_t (⟨by omega, c8⟩)).symm]
          exact J3
    · skip
      exact absurd (show p < 4 by omega) c2
theorem k_fill {n0 tw : Nat} {σ : ST} {K : KM} {R : RM} (hO : mO σ ≤ 4) : ∀ (g p : Nat), mO σ - p = g → p ≤ mO σ → FillC n0 tw σ K R p := by
  intro g
  induction g with
  | zero =>
    intro p hg hp d b I Q c sm hd hW hX hs ht hb hP hc hsm q
    obtain rfl : p = mO σ := by omega
    exact k_fill_end (by omega) hW hX hO hs ht hb hP hc hsm q
  | succ g ih =>
    intro p hg hp d b I Q c sm hd hW hX hs ht hb hP hc hsm q
    exact k_fill_go (by omega) hd (by omega) (ih (p + 1) (by omega) (by omega)) hW hX hO hs ht hb hP hc hsm q
/-- the number of ways -/
noncomputable def nW (σ : ST) : Nat := (pn σ + 1) ^ mO σ
/-- the best sum -/
noncomputable def bS (σ : ST) (tw : Nat) : Int32 := (Wb (Vw σ tw) (nW σ)).1
/-- who comes at the k-th place by the best way -/
noncomputable def bC (σ : ST) (tw k : Nat) : Nat := dig (pn σ) (mO σ) (Wb (Vw σ tw) (nW σ)).2 k
theorem Sts_0 {n0 : Nat} {σ : ST} {I : IM} (hV : IV n0 σ) (h : SE σ (2 * mn σ (dn σ)) I) : Sts σ (fun _ => 0) 0 I := fun s hs => by
  rw [(h.2.2.1 s hs).2]
  unfold who
  by_cases e : opn σ s
  · rw [if_pos e, if_pos e, if_neg (Nat.not_lt_zero _), sv_P]
  · rw [if_neg e, if_neg e]
    have h9 := sw_ok hV (i := s / 2) (by omega)
    have : sw σ s < pn σ := by
      rcases Nat.mod_two_eq_zero_or_one s with q | q
      · have e : 2 * (s / 2) = s := by omega
        have h1 := h9.1
        rw [e] at h1; exact h1
      · have e : 2 * (s / 2) + 1 = s := by omega
        have h1 := h9.2.1
        rw [e] at h1; exact h1
    rw [sv_n (by omega)]
set_option maxRecDepth 20000 in
set_option maxHeartbeats 400000 in
theorem k_find {d b : Nat} {K : KM} {I : IM} {R : RM} {Q : QT} {n0 tw : Nat} {σ : ST} (hd : 1 ≤ d) (hd7 : 8 ≤ d) (hW : CW n0 σ K I R) (hM : MW σ tw I R) (hO : mO σ ≤ 4) (q : ∀ I', FrX I I' → Bst σ tw (nW σ) I' → Q (.inl (some (pI (bS σ tw)))) K I' R) : Mw d b N_X2_findBest 0 [some (pR (some MEN))] [] K I R Q := by
  obtain ⟨d9, rfl⟩ : ∃ d9, d = d9 + 1 := ⟨d - 1, by omega⟩
  have hS := hW.1.1
  have hR := hW.2.1
  have hV := hW.2.2
  have hpp := hW.2.2.1.2
  have hdd := hW.2.2.2.2.1.2
  refine mw_aload i_15_0 (L := MEN) rfl ?_
  refine mw_const i_15_1 (v := (-1)) (by decide) ?_
  obtain ⟨I21, e21⟩ : ∃ I21, I21 = up2 I MEN 13 (-1) := ⟨_, rfl⟩
  refine mw_put i_15_2 (x := (-1)) hS.2.1.2.2.2.2 (I' := I21) e21.symm ?_
  refine mw_aload i_15_3 (L := MEN) rfl ?_
  refine mw_const i_15_4 (v := nI 0) (by decide) ?_
  refine mw_const i_15_5 (v := nI 0) (by decide) ?_
  have hX0 := FX_of hO hM
  have hX1 : FX σ tw I21 R := FX_X hX0 (e21.symm ▸ FrX_13 FrX_rfl)
  have hW1 := CW_N hW (FrN_X (e21.symm ▸ FrX_13 FrX_rfl)) FrR_rfl
  refine mw_callS i_15_6 mf_16 (as := [pR (some MEN), pI (nI 0), pI (nI 0)]) (rest := []) (d' := d9) (b' := b) (ls0 := [some (pR (some MEN)), some (pI (nI 0)), some (pI (nI 0)), none, none, none, none]) rfl rfl rfl (Nat.le_of_ble_eq_true rfl) rfl rfl rfl ?_
  refine k_fill hO (mO σ) 0 (by omega) (Nat.zero_le _) _ _ _ _ (fun _ => 0) _ (by omega) hW1 hX1 (fun s9 hs9 => by rw [e21, up2_ne (by simp)]; exact Sts_0 hV hM.2.2.1 s9 hs9) (fun i9 hi9 => by rw [e21, up2_ne (by simp), (hM.2.2.2.2 i9 hi9).2.2]; exact (bI_f (fun ⟨j, hj, _⟩ => absurd hj (Nat.not_lt_zero _))).symm) ⟨by rw [e21, up2_at, upd_at, show pre (pn σ) (fun _ => 0) 0 = 0 from rfl, Nat.zero_mul]; rfl, fun h => absurd (by rw [show pre (pn σ) (fun _ => 0) 0 = 0 from rfl, Nat.zero_mul]; rfl) h⟩ (fun k hk => absurd hk (Nat.not_lt_zero _)) (fun k hk => absurd hk (Nat.not_lt_zero _)) rfl ?_
  intro I9 hF9 hs9 ht9 hb9
  rw [show pre (pn σ) (fun _ => 0) 0 = 0 from rfl, Nat.sub_zero, Nat.zero_add, Nat.one_mul] at hb9
  refine aft_n ?_
  refine mw_aload i_15_7 (L := MEN) rfl ?_
  refine mw_get i_15_8 hS.2.1.2.2.2.2 (v := bS σ tw) hb9.1 ?_
  refine mw_iretI i_15_9 (x := bS σ tw) rt_15 ?_
  exact q I9 (FrX_tr (e21.symm ▸ FrX_13 FrX_rfl) hF9) hb9
