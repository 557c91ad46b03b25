/-! the mender goes through the ways -/
/-- only seats, comers, choices, marks and the best sum change -/
def FrX (I I' : IM) : Prop := (∀ L : Lb, L ≠ MEN → L ≠ MN 0 → L ≠ MN 3 → L ≠ MN 4 → L ≠ MN 7 → I' L = I L) ∧ ∀ k, k ≠ 13 → I' MEN k = I MEN k
theorem FrX_rfl {I : IM} : FrX I I := ⟨fun _ _ _ _ _ _ => rfl, fun _ _ => rfl⟩
theorem FrX_tr {I I' I'' : IM} (h : FrX I I') (h' : FrX I' I'') : FrX I I'' := ⟨fun L a b c d e => (h'.1 L a b c d e).trans (h.1 L a b c d e), fun k hk => (h'.2 k hk).trans (h.2 k hk)⟩
theorem FrX_up {I I' : IM} (h : FrX I I') {j : Nat} (hj : j = 0 ∨ j = 3 ∨ j = 4 ∨ j = 7) {k : Nat} {x : Int32} : FrX I (up2 I' (MN j) k x) := ⟨fun L a b c d e => by
  rw [up2_ne (fun q => by subst q; rcases hj with rfl | rfl | rfl | rfl <;> contradiction)]
  exact h.1 L a b c d e, fun k hk => by
  rw [up2_ne (by simp)]
  exact h.2 k hk⟩
theorem FrX_13 {I I' : IM} (h : FrX I I') {x : Int32} : FrX I (up2 I' MEN 13 x) := ⟨fun L a b c d e => by
  rw [up2_ne a]
  exact h.1 L a b c d e, fun k hk => by
  rw [up2_at, upd_ne hk]
  exact h.2 k hk⟩
theorem FrN_X {I I' : IM} (h : FrX I I') : FrN I I' := fun L a b => h.1 L (fun e => a (by rw [e])) (fun e => b (by rw [e])) (fun e => b (by rw [e])) (fun e => b (by rw [e])) (fun e => b (by rw [e]))
/-- what the mender knows and keeps -/
def FX (σ : ST) (tw : Nat) (I : IM) (R : RM) : Prop := R MEN 8 = some ROS ∧ R MEN 9 = some (CA (cix R (dn σ))) ∧ I MEN 10 = nI (dn σ) ∧ I MEN 11 = nI (mO σ) ∧ I MEN 12 = nI (nC σ) ∧ (∀ s, s < 2 * mn σ (dn σ) → I (MN 1) s = bI (opn σ s)) ∧ (∀ k, k < mO σ → I (MN 2) k = nI (Os σ k)) ∧ ∀ k, k < nC σ → I (MN 5) k = nI (Cd σ k) ∧ I (MN 6) k = wrt σ tw (Cd σ k)
theorem FX_X {σ : ST} {tw : Nat} {I I' : IM} {R : RM} (h : FX σ tw I R) (hF : FrX I I') : FX σ tw I' R := by
  have e : ∀ k, k ≠ 0 → k ≠ 3 → k ≠ 4 → k ≠ 7 → I' (MN k) = I (MN k) := fun k a b c d => hF.1 _ (by simp) (by simp [a]) (by simp [b]) (by simp [c]) (by simp [d])
  unfold FX
  rw [hF.2 10 (by decide), hF.2 11 (by decide), hF.2 12 (by decide), e 1 (by decide) (by decide) (by decide) (by decide), e 2 (by decide) (by decide) (by decide) (by decide), e 5 (by decide) (by decide) (by decide) (by decide), e 6 (by decide) (by decide) (by decide) (by decide)]
  exact h
theorem FX_of {σ : ST} {tw : Nat} {I : IM} {R : RM} (hO : mO σ ≤ 4) (h : MW σ tw I R) : FX σ tw I R := ⟨h.1, h.2.1, h.2.2.1.1, h.2.2.1.2.1, h.2.2.2.1, fun s hs => (h.2.2.1.2.2.1 s hs).1, fun k hk => h.2.2.1.2.2.2 k hk (by unfold mO at *; omega), fun k hk => ⟨(h.2.2.2.2 k hk).1, (h.2.2.2.2 k hk).2.1⟩⟩
/-- who sits where -/
def Sts (σ : ST) (c : Nat → Nat) (p : Nat) (I : IM) : Prop := ∀ s, s < 2 * mn σ (dn σ) → I (MN 0) s = sv (pn σ) (who σ c p s)
def Tkn (σ : ST) (c : Nat → Nat) (p : Nat) (I : IM) : Prop := ∀ i, i < nC σ → I (MN 7) i = bI (∃ j, j < p ∧ c j = Cd σ i)
def Bst (σ : ST) (tw n : Nat) (I : IM) : Prop := I MEN 13 = (Wb (Vw σ tw) n).1 ∧ ((Wb (Vw σ tw) n).1 ≠ (-1) → ∀ k, k < mO σ → I (MN 3) k = sv (pn σ) (dig (pn σ) (mO σ) (Wb (Vw σ tw) n).2 k))
theorem sv_P {P : Nat} : sv P P = (-1) := if_pos rfl
theorem sv_n {P c : Nat} (h : c ≠ P) : sv P c = nI c := if_neg h
theorem sv_iff {P c : Nat} (h : c < 2147483648) : sv P c = (-1) ↔ c = P := by
  unfold sv
  split
  · exact ⟨fun _ => by assumption, fun _ => rfl⟩
  · exact ⟨fun q => absurd q (nI_nm1 h), fun q => absurd q (by assumption)⟩
set_option maxRecDepth 20000 in
set_option maxHeartbeats 400000 in
theorem k_bar_n {d b : Nat} {K : KM} {I : IM} {R : RM} {Q : QT} {n0 tw : Nat} {σ : ST} {m : Nat} {sa sb : Int32} (hd : 1 ≤ d) (hW : CW n0 σ K I R) (hX : FX σ tw I R) (hm : m < mn σ (dn σ)) (ha : I (MN 0) (2 * m) = sa) (hb : I (MN 0) (2 * m + 1) = sb) (hn : sa = (-1) ∨ sb = (-1)) (q : Q (.inl (some (pI (bI False)))) K I R) : Mw d b N_X2_isBarred 0 [some (pR (some MEN)), some (pI (nI m)), none, none, none, none] [] K I R Q := by
  obtain ⟨d9, rfl⟩ : ∃ d9, d = d9 + 1 := ⟨d - 1, by omega⟩
  have hS := hW.1.1
  have hR := hW.2.1
  have hV := hW.2.2
  have hpp := hW.2.2.1.2
  have hdd := hW.2.2.2.2.1.2
  obtain ⟨hC_dnσ, hz_dnσ, hz6_dnσ, hp_dnσ, ht0_dnσ, hm_dnσ⟩ := CW_c hW (d := dn σ) (by omega)
  refine mw_aload i_18_0 (L := MEN) rfl ?_
  refine mw_getR i_18_1 hS.2.1.2.2.2.2 (q := some (MN 0)) (hS.2.2.2.2 0 (by omega)).1 ?_
  refine mw_const i_18_2 (v := nI 2) (by decide) ?_
  refine mw_iload i_18_3 (x := nI m) rfl ?_
  refine mw_imul i_18_4 (w := nI (2 * m)) (pk_mul _ _) ?_
  refine mw_iald i_18_5 (jn := 2 * m) (n := 12) (by omega) (by omega) (show K (MN 0) = some (7, 12) from (hS.2.2.2.2 0 (by omega)).2) (by decide) (v := sa) ha ?_
  refine mw_istore i_18_6 (ls' := [some (pR (some MEN)), some (pI (nI m)), some (pI sa), none, none, none]) rfl (Nat.le_of_ble_eq_true rfl) ?_
  refine mw_aload i_18_7 (L := MEN) rfl ?_
  refine mw_getR i_18_8 hS.2.1.2.2.2.2 (q := some (MN 0)) (hS.2.2.2.2 0 (by omega)).1 ?_
  refine mw_const i_18_9 (v := nI 2) (by decide) ?_
  refine mw_iload i_18_10 (x := nI m) rfl ?_
  refine mw_imul i_18_11 (w := nI (2 * m)) (pk_mul _ _) ?_
  refine mw_const i_18_12 (v := nI 1) (by decide) ?_
  refine mw_iadd i_18_13 (w := nI (2 * m + 1)) (nI_add _ _) ?_
  refine mw_iald i_18_14 (jn := 2 * m + 1) (n := 12) (by omega) (by omega) (show K (MN 0) = some (7, 12) from (hS.2.2.2.2 0 (by omega)).2) (by decide) (v := sb) hb ?_
  refine mw_istore i_18_15 (ls' := [some (pR (some MEN)), some (pI (nI m)), some (pI sa), some (pI sb), none, none]) rfl (Nat.le_of_ble_eq_true rfl) ?_
  refine mw_iload i_18_16 (x := sa) rfl ?_
  refine mw_const i_18_17 (v := (-1)) (by decide) ?_
  refine mw_ic i_18_18 (p := sa = (-1)) Iff.rfl (fun c1 => ?_) (fun c1 => ?_)
  · skip
    refine mw_const i_18_22 (v := nI 0) (by decide) ?_
    refine mw_iret i_18_23 (x := nI 0) (fun _ => (by decide)) ?_
    rw [bI_f (fun h => h)] at q
    exact q
  · skip
    refine mw_iload i_18_19 (x := sb) rfl ?_
    refine mw_const i_18_20 (v := (-1)) (by decide) ?_
    refine mw_ic i_18_21 (p := ¬ sb = (-1)) Iff.rfl (fun c2 => ?_) (fun c2 => ?_)
    · skip
      exact absurd hn (fun h => h.elim c1 c2)
    · skip
      refine mw_const i_18_22 (v := nI 0) (by decide) ?_
      refine mw_iret i_18_23 (x := nI 0) (fun _ => (by decide)) ?_
      rw [bI_f (fun h => h)] at q
      exact q
set_option maxRecDepth 20000 in
set_option maxHeartbeats 400000 in
theorem k_bar_y1 {d b : Nat} {K : KM} {I : IM} {R : RM} {Q : QT} {n0 tw : Nat} {σ : ST} {m f s : Nat} (hd : 1 ≤ d) (hW : CW n0 σ K I R) (hX : FX σ tw I R) (hm : m < mn σ (dn σ)) (hf : f < 10) (hs : s < 10) (ha : I (MN 0) (2 * m) = nI f) (hb : I (MN 0) (2 * m + 1) = nI s) (hfw : I (MT (cix R (dn σ)) (pm R (cix R (dn σ)) m)) 2 = nI 1) (h2 : σ 19 (36 * dn σ + 6 * m + 2) = nI 0) (q : Q (.inl (some (pI (bI (brM σ m f s))))) K I R) : Mw d b N_X2_isBarred 0 [some (pR (some MEN)), some (pI (nI m)), none, none, none, none] [] K I R Q := by
  obtain ⟨d9, rfl⟩ : ∃ d9, d = d9 + 1 := ⟨d - 1, by omega⟩
  have hS := hW.1.1
  have hR := hW.2.1
  have hV := hW.2.2
  have hpp := hW.2.2.1.2
  have hdd := hW.2.2.2.2.1.2
  obtain ⟨hC_dnσ, hz_dnσ, hz6_dnσ, hp_dnσ, ht0_dnσ, hm_dnσ⟩ := CW_c hW (d := dn σ) (by omega)
  refine mw_aload i_18_0 (L := MEN) rfl ?_
  refine mw_getR i_18_1 hS.2.1.2.2.2.2 (q := some (MN 0)) (hS.2.2.2.2 0 (by omega)).1 ?_
  refine mw_const i_18_2 (v := nI 2) (by decide) ?_
  refine mw_iload i_18_3 (x := nI m) rfl ?_
  refine mw_imul i_18_4 (w := nI (2 * m)) (pk_mul _ _) ?_
  refine mw_iald i_18_5 (jn := 2 * m) (n := 12) (by omega) (by omega) (show K (MN 0) = some (7, 12) from (hS.2.2.2.2 0 (by omega)).2) (by decide) (v := nI f) ha ?_
  refine mw_istore i_18_6 (ls' := [some (pR (some MEN)), some (pI (nI m)), some (pI (nI f)), none, none, none]) rfl (Nat.le_of_ble_eq_true rfl) ?_
  refine mw_aload i_18_7 (L := MEN) rfl ?_
  refine mw_getR i_18_8 hS.2.1.2.2.2.2 (q := some (MN 0)) (hS.2.2.2.2 0 (by omega)).1 ?_
  refine mw_const i_18_9 (v := nI 2) (by decide) ?_
  refine mw_iload i_18_10 (x := nI m) rfl ?_
  refine mw_imul i_18_11 (w := nI (2 * m)) (pk_mul _ _) ?_
  refine mw_const i_18_12 (v := nI 1) (by decide) ?_
  refine mw_iadd i_18_13 (w := nI (2 * m + 1)) (nI_add _ _) ?_
  refine mw_iald i_18_14 (jn := 2 * m + 1) (n := 12) (by omega) (by omega) (show K (MN 0) = some (7, 12) from (hS.2.2.2.2 0 (by omega)).2) (by decide) (v := nI s) hb ?_
  refine mw_istore i_18_15 (ls' := [some (pR (some MEN)), some (pI (nI m)), some (pI (nI f)), some (pI (nI s)), none, none]) rfl (Nat.le_of_ble_eq_true rfl) ?_
  refine mw_iload i_18_16 (x := nI f) rfl ?_
  refine mw_const i_18_17 (v := (-1)) (by decide) ?_
  refine mw_ic i_18_18 (p := (nI f) = (-1)) Iff.rfl (fun c1 => ?_) (fun c1 => ?_)
  · skip
    exact absurd c1 (nI_nm1 (by omega))
  · skip
    refine mw_iload i_18_19 (x := nI s) rfl ?_
    refine mw_const i_18_20 (v := (-1)) (by decide) ?_
    refine mw_ic i_18_21 (p := ¬ (nI s) = (-1)) Iff.rfl (fun c2 => ?_) (fun c2 => ?_)
    · skip
      refine mw_aload i_18_24 (L := MEN) rfl ?_
      refine mw_getR i_18_25 hS.2.1.2.2.2.2 (q := some (CA (cix R (dn σ)))) hX.2.1 ?_
      refine mw_getR i_18_26 hC_dnσ.1 (q := some (MM (cix R (dn σ)))) hC_dnσ.2.1 ?_
      refine mw_iload i_18_27 (x := nI m) rfl ?_
      refine mw_aald i_18_28 (jn := m) (n := 6) (by omega) (by omega) hC_dnσ.2.2.1 (by decide) (q := some (MT (cix R (dn σ)) (pm R (cix R (dn σ)) m))) (hC_dnσ.2.2.2.2.1 m (by omega)).2 ?_
      refine mw_get i_18_29 (hC_dnσ.2.2.2.1 _ (hC_dnσ.2.2.2.2.1 m (by omega)).1) (v := nI 1) hfw ?_
      refine mw_istore i_18_30 (ls' := [some (pR (some MEN)), some (pI (nI m)), some (pI (nI f)), some (pI (nI s)), some (pI (nI 1)), none]) rfl (Nat.le_of_ble_eq_true rfl) ?_
      refine mw_aload i_18_31 (L := MEN) rfl ?_
      refine mw_getR i_18_32 hS.2.1.2.2.2.2 (q := some ROS) hX.1 ?_
      refine mw_iload i_18_33 (x := nI 1) rfl ?_
      refine mw_ifF i_18_34 (show ¬ (nI 1 = 0) by decide) ?_
      refine mw_iload i_18_35 (x := nI s) rfl ?_
      refine mw_goto i_18_36 ?_
      refine mw_aald i_18_38 (jn := s) (n := 10) (by omega) (by omega) hS.2.1.1 (by decide) (q := some (WR s)) (hS.2.2.1 s (by omega)).1 ?_
      refine mw_astore i_18_39 (ls' := [some (pR (some MEN)), some (pI (nI m)), some (pI (nI f)), some (pI (nI s)), some (pI (nI 1)), some (pR (some (WR s)))]) rfl (Nat.le_of_ble_eq_true rfl) ?_
      refine mw_aload i_18_40 (L := WR s) rfl ?_
      refine mw_iload i_18_41 (x := nI 1) rfl ?_
      refine mw_ifF i_18_42 (show ¬ (nI 1 = 0) by decide) ?_
      refine mw_iload i_18_43 (x := nI f) rfl ?_
      refine mw_goto i_18_44 ?_
      refine mw_aload i_18_46 (L := MEN) rfl ?_
      refine mw_get i_18_47 hS.2.1.2.2.2.2 (v := nI (dn σ)) hX.2.2.1 ?_
      refine mw_callV i_18_48 mf_28 (as := [pI (nI f), pI (nI (dn σ))]) (rest := []) (d' := d9) (b' := b) (ls0 := [some (pR (some (WR s))), some (pI (nI f)), some (pI (nI (dn σ)))]) rfl rfl rfl (Nat.le_of_ble_eq_true rfl) (hS.2.2.1 s (by omega)).2.1 rfl rfl rfl ?_
      refine k_isBarred hS (by omega) (by omega) ?_
      rw [bI_congr (brd_iff hW (lo := s) (wi := f) (by omega) (by omega) (nI (dn σ)))]
      refine aft_v ?_
      refine mw_iretB i_18_49 ?_
      unfold brM at q
      rw [h2] at q
      first | rw [if_pos rfl] at q | rw [if_neg (by decide)] at q
      exact q
    · skip
      exact absurd (Classical.not_not.mp c2) (nI_nm1 (by omega))
set_option maxRecDepth 20000 in
set_option maxHeartbeats 400000 in
theorem k_bar_y0 {d b : Nat} {K : KM} {I : IM} {R : RM} {Q : QT} {n0 tw : Nat} {σ : ST} {m f s : Nat} (hd : 1 ≤ d) (hW : CW n0 σ K I R) (hX : FX σ tw I R) (hm : m < mn σ (dn σ)) (hf : f < 10) (hs : s < 10) (ha : I (MN 0) (2 * m) = nI f) (hb : I (MN 0) (2 * m + 1) = nI s) (hfw : I (MT (cix R (dn σ)) (pm R (cix R (dn σ)) m)) 2 = nI 0) (h2 : σ 19 (36 * dn σ + 6 * m + 2) = nI 1) (q : Q (.inl (some (pI (bI (brM σ m f s))))) K I R) : Mw d b N_X2_isBarred 0 [some (pR (some MEN)), some (pI (nI m)), none, none, none, none] [] K I R Q := by
  obtain ⟨d9, rfl⟩ : ∃ d9, d = d9 + 1 := ⟨d - 1, by omega⟩
  have hS := hW.1.1
  have hR := hW.2.1
  have hV := hW.2.2
  have hpp := hW.2.2.1.2
  have hdd := hW.2.2.2.2.1.2
  obtain ⟨hC_dnσ, hz_dnσ, hz6_dnσ, hp_dnσ, ht0_dnσ, hm_dnσ⟩ := CW_c hW (d := dn σ) (by omega)
  refine mw_aload i_18_0 (L := MEN) rfl ?_
  refine mw_getR i_18_1 hS.2.1.2.2.2.2 (q := some (MN 0)) (hS.2.2.2.2 0 (by omega)).1 ?_
  refine mw_const i_18_2 (v := nI 2) (by decide) ?_
  refine mw_iload i_18_3 (x := nI m) rfl ?_
  refine mw_imul i_18_4 (w := nI (2 * m)) (pk_mul _ _) ?_
  refine mw_iald i_18_5 (jn := 2 * m) (n := 12) (by omega) (by omega) (show K (MN 0) = some (7, 12) from (hS.2.2.2.2 0 (by omega)).2) (by decide) (v := nI f) ha ?_
  refine mw_istore i_18_6 (ls' := [some (pR (some MEN)), some (pI (nI m)), some (pI (nI f)), none, none, none]) rfl (Nat.le_of_ble_eq_true rfl) ?_
  refine mw_aload i_18_7 (L := MEN) rfl ?_
  refine mw_getR i_18_8 hS.2.1.2.2.2.2 (q := some (MN 0)) (hS.2.2.2.2 0 (by omega)).1 ?_
  refine mw_const i_18_9 (v := nI 2) (by decide) ?_
  refine mw_iload i_18_10 (x := nI m) rfl ?_
  refine mw_imul i_18_11 (w := nI (2 * m)) (pk_mul _ _) ?_
  refine mw_const i_18_12 (v := nI 1) (by decide) ?_
  refine mw_iadd i_18_13 (w := nI (2 * m + 1)) (nI_add _ _) ?_
  refine mw_iald i_18_14 (jn := 2 * m + 1) (n := 12) (by omega) (by omega) (show K (MN 0) = some (7, 12) from (hS.2.2.2.2 0 (by omega)).2) (by decide) (v := nI s) hb ?_
  refine mw_istore i_18_15 (ls' := [some (pR (some MEN)), some (pI (nI m)), some (pI (nI f)), some (pI (nI s)), none, none]) rfl (Nat.le_of_ble_eq_true rfl) ?_
  refine mw_iload i_18_16 (x := nI f) rfl ?_
  refine mw_const i_18_17 (v := (-1)) (by decide) ?_
  refine mw_ic i_18_18 (p := (nI f) = (-1)) Iff.rfl (fun c1 => ?_) (fun c1 => ?_)
  · skip
    exact absurd c1 (nI_nm1 (by omega))
  · skip
    refine mw_iload i_18_19 (x := nI s) rfl ?_
    refine mw_const i_18_20 (v := (-1)) (by decide) ?_
    refine mw_ic i_18_21 (p := ¬ (nI s) = (-1)) Iff.rfl (fun c2 => ?_) (fun c2 => ?_)
    · skip
      refine mw_aload i_18_24 (L := MEN) rfl ?_
      refine mw_getR i_18_25 hS.2.1.2.2.2.2 (q := some (CA (cix R (dn σ)))) hX.2.1 ?_
      refine mw_getR i_18_26 hC_dnσ.1 (q := some (MM (cix R (dn σ)))) hC_dnσ.2.1 ?_
      refine mw_iload i_18_27 (x := nI m) rfl ?_
      refine mw_aald i_18_28 (jn := m) (n := 6) (by omega) (by omega) hC_dnσ.2.2.1 (by decide) (q := some (MT (cix R (dn σ)) (pm R (cix R (dn σ)) m))) (hC_dnσ.2.2.2.2.1 m (by omega)).2 ?_
      refine mw_get i_18_29 (hC_dnσ.2.2.2.1 _ (hC_dnσ.2.2.2.2.1 m (by omega)).1) (v := nI 0) hfw ?_
      refine mw_istore i_18_30 (ls' := [some (pR (some MEN)), some (pI (nI m)), some (pI (nI f)), some (pI (nI s)), some (pI (nI 0)), none]) rfl (Nat.le_of_ble_eq_true rfl) ?_
      refine mw_aload i_18_31 (L := MEN) rfl ?_
      refine mw_getR i_18_32 hS.2.1.2.2.2.2 (q := some ROS) hX.1 ?_
      refine mw_iload i_18_33 (x := nI 0) rfl ?_
      refine mw_ifT i_18_34 (show nI 0 = 0 by decide) ?_
      refine mw_iload i_18_37 (x := nI f) rfl ?_
      refine mw_aald i_18_38 (jn := f) (n := 10) (by omega) (by omega) hS.2.1.1 (by decide) (q := some (WR f)) (hS.2.2.1 f (by omega)).1 ?_
      refine mw_astore i_18_39 (ls' := [some (pR (some MEN)), some (pI (nI m)), some (pI (nI f)), some (pI (nI s)), some (pI (nI 0)), some (pR (some (WR f)))]) rfl (Nat.le_of_ble_eq_true rfl) ?_
      refine mw_aload i_18_40 (L := WR f) rfl ?_
      refine mw_iload i_18_41 (x := nI 0) rfl ?_
      refine mw_ifT i_18_42 (show nI 0 = 0 by decide) ?_
      refine mw_iload i_18_45 (x := nI s) rfl ?_
      refine mw_aload i_18_46 (L := MEN) rfl ?_
      refine mw_get i_18_47 hS.2.1.2.2.2.2 (v := nI (dn σ)) hX.2.2.1 ?_
      refine mw_callV i_18_48 mf_28 (as := [pI (nI s), pI (nI (dn σ))]) (rest := []) (d' := d9) (b' := b) (ls0 := [some (pR (some (WR f))), some (pI (nI s)), some (pI (nI (dn σ)))]) rfl rfl rfl (Nat.le_of_ble_eq_true rfl) (hS.2.2.1 f (by omega)).2.1 rfl rfl rfl ?_
      refine k_isBarred hS (by omega) (by omega) ?_
      rw [bI_congr (brd_iff hW (lo := f) (wi := s) (by omega) (by omega) (nI (dn σ)))]
      refine aft_v ?_
      refine mw_iretB i_18_49 ?_
      unfold brM at q
      rw [h2] at q
      first | rw [if_pos rfl] at q | rw [if_neg (by decide)] at q
      exact q
    · skip
      exact absurd (Classical.not_not.mp c2) (nI_nm1 (by omega))
theorem k_bar {d b : Nat} {K : KM} {I : IM} {R : RM} {Q : QT} {n0 tw : Nat} {σ : ST} {c : Nat → Nat} {p m : Nat} (hd : 1 ≤ d) (hW : CW n0 σ K I R) (hX : FX σ tw I R) (hm : m < mn σ (dn σ)) (hc : ∀ j, j < p → c j ≤ pn σ) (hs : Sts σ c p I) (q : Q (.inl (some (pI (bI (bad σ c p m))))) K I R) : Mw d b N_X2_isBarred 0 [some (pR (some MEN)), some (pI (nI m)), none, none, none, none] [] K I R Q := by
  have hpp := hW.2.2.1.2
  have h1 := hs (2 * m) (by omega)
  have h2 := hs (2 * m + 1) (by omega)
  have l1 := who_lt hW.2.2 hc (s := 2 * m) (by omega)
  have l2 := who_lt hW.2.2 hc (s := 2 * m + 1) (by omega)
  by_cases e1 : who σ c p (2 * m) = pn σ
  · rw [e1, sv_P] at h1
    refine k_bar_n hd hW hX hm h1 h2 (Or.inl rfl) ?_
    rw [bI_congr (show False ↔ bad σ c p m from ⟨fun h => h.elim, fun h => h.1 e1⟩)]
    exact q
  by_cases e2 : who σ c p (2 * m + 1) = pn σ
  · rw [e2, sv_P] at h2
    refine k_bar_n hd hW hX hm h1 h2 (Or.inr rfl) ?_
    rw [bI_congr (show False ↔ bad σ c p m from ⟨fun h => h.elim, fun h => h.2.1 e2⟩)]
    exact q
  rw [sv_n e1] at h1
  rw [sv_n e2] at h2
  have hq : Q (.inl (some (pI (bI (brM σ m (who σ c p (2 * m)) (who σ c p (2 * m + 1))))))) K I R := by
    rw [bI_congr (show brM σ m (who σ c p (2 * m)) (who σ c p (2 * m + 1)) ↔ bad σ c p m from ⟨fun h => ⟨e1, e2, h⟩, fun h => h.2.2⟩)]
    exact q
  have hd9 := hW.2.2.2.2.1.2
  rcases ((CW_c hW (d := dn σ) (by omega)).2.2.2.2.2 m hm).2.2.1 with ⟨a, b⟩ | ⟨a, b⟩
  · exact k_bar_y1 hd hW hX hm (by omega) (by omega) h1 h2 a b hq
  · exact k_bar_y0 hd hW hX hm (by omega) (by omega) h1 h2 a b hq
set_option maxRecDepth 20000 in
set_option maxHeartbeats 400000 in
theorem k_keep_lp {d : Nat} {b : Nat} {K : KM} {R : RM} {Q : QT} {tw : Nat} {σ : ST} {I0 : IM} {x : Int32} (hS : CS0 K R) (hO : mO σ ≤ 4) (hz6 : mn σ (dn σ) ≤ 6) (q : ∀ I', FrX I0 I' → I' (MN 0) = I0 (MN 0) → I' (MN 7) = I0 (MN 7) → I' MEN 13 = x → (∀ k, k < mO σ → I' (MN 3) k = I0 (MN 0) (Os σ k)) → Q (.inl none) K I' R) : ∀ (n i : Nat) (I : IM), mO σ - i < n → i ≤ mO σ → (FX σ tw I R) → (FrX I0 I) → (I (MN 0) = I0 (MN 0)) → (I (MN 7) = I0 (MN 7)) → (I MEN 13 = x) → (∀ k, k < i → I (MN 3) k = I0 (MN 0) (Os σ k)) → Mw d b N_X2_keepIfBetter 10 [some (pR (some MEN)), some (pI x), some (pI (nI i))] [] K I R Q := by
  intro n
  induction n with
  | zero => intro i I  hn; exact absurd hn (Nat.not_lt_zero _)
  | succ n ih =>
    intro i I  hn hi hX hF h0 h7 h13 hb
    have hOs : ∀ k, k < mO σ → Os σ k < 2 * mn σ (dn σ) := fun k hk => (Os_lt hk).1
    refine mw_iload i_17_10 (x := nI i) rfl ?_
    refine mw_aload i_17_11 (L := MEN) rfl ?_
    refine mw_get i_17_12 hS.2.1.2.2.2.2 (v := nI (mO σ)) hX.2.2.2.1 ?_
    refine mw_ic i_17_13 (p := (mO σ) ≤ i) (nI_leI (by omega) (by omega)) (fun c1 => ?_) (fun c1 => ?_)
    · skip
      refine mw_ret i_17_30 ?_
      exact q _ hF h0 h7 h13 (fun k hk => hb k (by omega))
    · skip
      have hoi := hOs i (by omega)
      refine mw_iload i_17_14 (x := nI i) rfl ?_
      refine mw_const i_17_15 (v := nI 4) (by decide) ?_
      refine mw_ic i_17_16 (p := 4 ≤ i) (nI_leI (by omega) (by omega)) (fun c2 => ?_) (fun c2 => ?_)
      · skip
        refine mw_ret i_17_30 ?_
        exact q _ hF h0 h7 h13 (fun k hk => hb k (by omega))
      · skip
        refine mw_aload i_17_17 (L := MEN) rfl ?_
        refine mw_getR i_17_18 hS.2.1.2.2.2.2 (q := some (MN 3)) (hS.2.2.2.2 3 (by omega)).1 ?_
        refine mw_iload i_17_19 (x := nI i) rfl ?_
        refine mw_aload i_17_20 (L := MEN) rfl ?_
        refine mw_getR i_17_21 hS.2.1.2.2.2.2 (q := some (MN 0)) (hS.2.2.2.2 0 (by omega)).1 ?_
        refine mw_aload i_17_22 (L := MEN) rfl ?_
        refine mw_getR i_17_23 hS.2.1.2.2.2.2 (q := some (MN 2)) (hS.2.2.2.2 2 (by omega)).1 ?_
        refine mw_iload i_17_24 (x := nI i) rfl ?_
        refine mw_iald i_17_25 (jn := i) (n := 4) (by omega) (by omega) (show K (MN 2) = some (7, 4) from (hS.2.2.2.2 2 (by omega)).2) (by decide) (v := nI (Os σ i)) (hX.2.2.2.2.2.2.1 i (by omega)) ?_
        refine mw_iald i_17_26 (jn := Os σ i) (n := 12) (by omega) (by omega) (show K (MN 0) = some (7, 12) from (hS.2.2.2.2 0 (by omega)).2) (by decide) (v := I (MN 0) (Os σ i)) rfl ?_
        obtain ⟨I23, e23⟩ : ∃ I23, I23 = up2 I (MN 3) i (I (MN 0) (Os σ i)) := ⟨_, rfl⟩
        refine mw_iast i_17_27 (jn := i) (n := 4) (by omega) (by omega) (x := I (MN 0) (Os σ i)) (show K (MN 3) = some (7, 4) from (hS.2.2.2.2 3 (by omega)).2) (I' := I23) e23.symm ?_
        refine mw_iinc i_17_28 (x := nI i) (v := nI (i + 1)) (ls' := [some (pR (some MEN)), some (pI x), some (pI (nI (i + 1)))]) rfl (nI_add _ _) rfl ?_
        refine mw_goto i_17_29 ?_
        exact ih (i + 1) I23 (by omega) (by omega) (FX_X hX (e23.symm ▸ FrX_up FrX_rfl (by decide))) (e23.symm ▸ FrX_up hF (by decide)) (by rw [e23, up2_ne (by simp)]; exact h0) (by rw [e23, up2_ne (by simp)]; exact h7) (by rw [e23, up2_ne (by simp)]; exact h13) (fun k hk => by
          rw [e23, up2_at]
          by_cases e9 : k = i
          · subst e9; rw [upd_at, h0]
          · rw [upd_ne e9]; exact hb k (by omega))
set_option maxRecDepth 20000 in
set_option maxHeartbeats 400000 in
theorem k_keep {d b : Nat} {K : KM} {I : IM} {R : RM} {Q : QT} {tw : Nat} {σ : ST} {x y : Int32} (hS : CS0 K R) (hO : mO σ ≤ 4) (hz6 : mn σ (dn σ) ≤ 6) (hX : FX σ tw I R) (h13 : I MEN 13 = x) (q1 : ¬ x < y → Q (.inl none) K I R) (q0 : x < y → ∀ I', FrX I I' → I' (MN 0) = I (MN 0) → I' (MN 7) = I (MN 7) → I' MEN 13 = y → (∀ k, k < mO σ → I' (MN 3) k = I (MN 0) (Os σ k)) → Q (.inl none) K I' R) : Mw d b N_X2_keepIfBetter 0 [some (pR (some MEN)), some (pI y), none] [] K I R Q := by
  refine mw_iload i_17_0 (x := y) rfl ?_
  refine mw_aload i_17_1 (L := MEN) rfl ?_
  refine mw_get i_17_2 hS.2.1.2.2.2.2 (v := x) h13 ?_
  refine mw_ic i_17_3 (p := x < y) Iff.rfl (fun c1 => ?_) (fun c1 => ?_)
  · skip
    refine mw_aload i_17_5 (L := MEN) rfl ?_
    refine mw_iload i_17_6 (x := y) rfl ?_
    obtain ⟨I22, e22⟩ : ∃ I22, I22 = up2 I MEN 13 y := ⟨_, rfl⟩
    refine mw_put i_17_7 (x := y) hS.2.1.2.2.2.2 (I' := I22) e22.symm ?_
    refine mw_const i_17_8 (v := nI 0) (by decide) ?_
    refine mw_istore i_17_9 (ls' := [some (pR (some MEN)), some (pI y), some (pI (nI 0))]) rfl (Nat.le_of_ble_eq_true rfl) ?_
    exact k_keep_lp hS hO hz6 (I0 := I22) (fun I9 a9 b9 c9 d9 e9 => q0 c1 I9 (FrX_tr (e22.symm ▸ FrX_13 FrX_rfl) a9) (b9.trans (by rw [e22, up2_ne (by simp)])) (c9.trans (by rw [e22, up2_ne (by simp)])) d9 (fun k hk => (e9 k hk).trans (by rw [e22, up2_ne (by simp)]))) (mO σ + 1) 0 I22 (by omega) (by omega) (FX_X hX (e22.symm ▸ FrX_13 FrX_rfl)) FrX_rfl rfl rfl (by rw [e22, up2_at, upd_at]) (fun k hk => absurd hk (Nat.not_lt_zero _))
  · skip
    refine mw_ret i_17_4 ?_
    exact q1 c1
