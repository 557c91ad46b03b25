/-! cards change -/
theorem RCm_eq2 {σ σ' : ST} {I I' : IM} {d j : Nat} {L L' : Lb} (h : I' L' = I L) (e19 : ∀ k, k < 6 → σ' 19 (36 * d + 6 * j + k) = σ 19 (36 * d + 6 * j + k)) (q : RCm σ I d j L) : RCm σ' I' d j L' := by
  unfold RCm at *
  have e0 := e19 0 (by decide)
  rw [Nat.add_zero] at e0
  rw [h, e0, e19 1 (by decide), e19 2 (by decide), e19 3 (by decide), e19 4 (by decide), e19 5 (by decide)]
  exact q
/-- another day's card -/
theorem RCc_eq2 {σ σ' : ST} {I I' : IM} {R R' : RM} {d : Nat} (h : RCc σ I R d) (hmn : mn σ d ≤ 6) (eR : R' CRD d = R CRD d) (eR2 : R' (MM d) = R (MM d)) (eI : I' (CA d) = I (CA d)) (eM : ∀ j, I' (MT d j) = I (MT d j)) (e20 : σ' 20 d = σ 20 d) (e21 : σ' 21 d = σ 21 d) (e22 : σ' 22 d = σ 22 d) (e19 : ∀ k, k < 36 → σ' 19 (36 * d + k) = σ 19 (36 * d + k)) : RCc σ' I' R' d := by
  have ep : ∀ j, pm R' d j = pm R d j := fun j => by unfold pm; rw [eR2]
  have em : mn σ' d = mn σ d := by unfold mn; rw [e20]
  unfold RCc
  rw [eR, e20, e22, eI, em, e21]
  rcases h with h | ⟨h1, h2, h3, h4, h5⟩
  · exact Or.inl h
  · refine Or.inr ⟨h1, h2, h3, h4, fun j hj => ?_⟩
    rw [ep]
    exact RCm_eq2 (eM _) (fun k hk => by rw [Nat.add_assoc]; exact e19 _ (by omega)) (h5 j hj)
/-- one match more on a card -/
noncomputable def bkS (σ : ST) (x t f s : Nat) (pb : Prop) (mi ti : Int32) : ST := ups (ups (ups (ups (ups (ups (ups (ups σ 19 (36 * x + 6 * mn σ x) (nI f)) 19 (36 * x + 6 * mn σ x + 1) (nI s)) 19 (36 * x + 6 * mn σ x + 2) (bI (¬ pb))) 19 (36 * x + 6 * mn σ x + 3) mi) 19 (36 * x + 6 * mn σ x + 4) ti) 19 (36 * x + 6 * mn σ x + 5) (nI 0)) 21 x (nI t)) 20 x (nI (mn σ x + 1))
def bkI (I : IM) (c k : Nat) (t : Int32) (z : Int32) (x0 x1 x2 x3 x4 : Int32) : IM := up2 (up2 (up2 (up2 (up2 (up2 (up2 (up2 I (CA c) 1 t) (CA c) 2 z) (MT c k) 0 x0) (MT c k) 1 x1) (MT c k) 2 x2) (MT c k) 3 x3) (MT c k) 4 x4) (MT c k) 5 (nI 0)
theorem bkS_o {σ : ST} {x t f s : Nat} {pb : Prop} {mi ti : Int32} {k : Nat} (h : k ≠ 19) (h2 : k ≠ 20) (h3 : k ≠ 21) : bkS σ x t f s pb mi ti k = σ k := by
  unfold bkS
  rw [ups_ne h2, ups_ne h3, ups_ne h, ups_ne h, ups_ne h, ups_ne h, ups_ne h, ups_ne h]
theorem bkS_20 {σ : ST} {x t f s : Nat} {pb : Prop} {mi ti : Int32} : bkS σ x t f s pb mi ti 20 = upd (σ 20) x (nI (mn σ x + 1)) := by
  unfold bkS
  rw [ups_at, ups_ne (by decide), ups_ne (by decide), ups_ne (by decide), ups_ne (by decide), ups_ne (by decide), ups_ne (by decide), ups_ne (by decide)]
theorem bkS_21 {σ : ST} {x t f s : Nat} {pb : Prop} {mi ti : Int32} : bkS σ x t f s pb mi ti 21 = upd (σ 21) x (nI t) := by
  unfold bkS
  rw [ups_ne (by decide), ups_at, ups_ne (by decide), ups_ne (by decide), ups_ne (by decide), ups_ne (by decide), ups_ne (by decide), ups_ne (by decide)]
theorem bkS_19 {σ : ST} {x t f s : Nat} {pb : Prop} {mi ti : Int32} : bkS σ x t f s pb mi ti 19 = upd (upd (upd (upd (upd (upd (σ 19) (36 * x + 6 * mn σ x) (nI f)) (36 * x + 6 * mn σ x + 1) (nI s)) (36 * x + 6 * mn σ x + 2) (bI (¬ pb))) (36 * x + 6 * mn σ x + 3) mi) (36 * x + 6 * mn σ x + 4) ti) (36 * x + 6 * mn σ x + 5) (nI 0) := by
  unfold bkS
  rw [ups_ne (by decide), ups_ne (by decide), ups_at, ups_at, ups_at, ups_at, ups_at, ups_at]
theorem bkS_19o {σ : ST} {x t f s : Nat} {pb : Prop} {mi ti : Int32} {j : Nat} (h : j < 36 * x + 6 * mn σ x ∨ 36 * x + 6 * mn σ x + 5 < j) : bkS σ x t f s pb mi ti 19 j = σ 19 j := by
  rw [bkS_19, upd_ne (by omega), upd_ne (by omega), upd_ne (by omega), upd_ne (by omega), upd_ne (by omega), upd_ne (by omega)]
theorem bkI_o {I : IM} {c k : Nat} {t z x0 x1 x2 x3 x4 : Int32} {L : Lb} (h : L ≠ CA c) (h2 : L ≠ MT c k) : bkI I c k t z x0 x1 x2 x3 x4 L = I L := by
  unfold bkI
  rw [up2_ne h2, up2_ne h2, up2_ne h2, up2_ne h2, up2_ne h2, up2_ne h2, up2_ne h, up2_ne h]
theorem bkI_c {I : IM} {c k : Nat} {t z x0 x1 x2 x3 x4 : Int32} : bkI I c k t z x0 x1 x2 x3 x4 (CA c) = upd (upd (I (CA c)) 1 t) 2 z := by
  unfold bkI
  rw [up2_ne (by simp), up2_ne (by simp), up2_ne (by simp), up2_ne (by simp), up2_ne (by simp), up2_ne (by simp), up2_at, up2_at]
theorem bkI_m {I : IM} {c k : Nat} {t z x0 x1 x2 x3 x4 : Int32} : bkI I c k t z x0 x1 x2 x3 x4 (MT c k) = upd (upd (upd (upd (upd (upd (I (MT c k)) 0 x0) 1 x1) 2 x2) 3 x3) 4 x4) 5 (nI 0) := by
  unfold bkI
  rw [up2_at, up2_at, up2_at, up2_at, up2_at, up2_at, up2_ne (by simp), up2_ne (by simp)]
theorem RC_book {σ : ST} {K : KM} {I : IM} {R : RM} (h : RC σ I R) {x t f s : Nat} {pb : Prop} {mi ti : Int32} (hx : x < 1000) (hC : CO K R x) (hy : R CRD x = some (CA x)) (hn : mn σ x < 6) (hall : ∀ d, d < 1000 → mn σ d ≤ 6) : RC (bkS σ x t f s pb mi ti) (bkI I x (pm R x (mn σ x)) (nI t) (nI (mn σ x + 1)) (nI f) (nI s) (bI pb) mi ti) R := by
  refine RC_C h (fun L hL => bkI_o (fun e => by subst e; exact absurd hL (by show ¬ 19 < 19; decide)) (fun e => by subst e; exact absurd hL (by show ¬ 21 < 19; decide))) (fun k hk => bkS_o (by omega) (by omega) (by omega)) ?_ (fun d hd => ?_)
  · rw [bkI_o (by simp; omega) (by simp)]
    exact h.2.2.2.2.1
  · have hc := h.2.2.2.2.2 d hd
    by_cases e : d = x
    · subst e
      rcases hc with ⟨c1, -⟩ | ⟨c1, c2, c3, c4, c5⟩
      · rw [hy] at c1; cases c1
      · have em : mn (bkS σ d t f s pb mi ti) d = mn σ d + 1 := by
          have hb : mn σ d + 1 < 2147483648 := by omega
          show (bkS σ d t f s pb mi ti 20 d).toNatClampNeg = _
          rw [bkS_20, upd_at, nI_clamp hb]
        refine Or.inr ⟨c1, ?_, ?_, fun _ => ?_, fun j hj => ?_⟩
        · rw [bkI_c, upd_at, bkS_20, upd_at]
        · rw [bkI_c, upd_ne (by decide), upd_ne (by decide), bkS_o (by decide) (by decide) (by decide)]; exact c3
        · rw [bkI_c, upd_ne (by decide), upd_at, bkS_21, upd_at]
        · rw [em] at hj
          by_cases ej : j = mn σ d
          · subst ej
            unfold RCm
            rw [bkI_m, bkS_19]
            refine ⟨?_, ?_, ?_, ?_, ?_, ?_⟩
            · rw [upd_ne (by decide), upd_ne (by decide), upd_ne (by decide), upd_ne (by decide), upd_ne (by decide), upd_at, upd_ne (by omega), upd_ne (by omega), upd_ne (by omega), upd_ne (by omega), upd_ne (by omega), upd_at]
            · rw [upd_ne (by decide), upd_ne (by decide), upd_ne (by decide), upd_ne (by decide), upd_at, upd_ne (by omega), upd_ne (by omega), upd_ne (by omega), upd_ne (by omega), upd_at]
            · rw [upd_ne (by decide), upd_ne (by decide), upd_ne (by decide), upd_at, upd_ne (by omega), upd_ne (by omega), upd_ne (by omega), upd_at]
              by_cases hp : pb
              · exact Or.inl ⟨bI_t hp, bI_f (fun q => q hp)⟩
              · exact Or.inr ⟨bI_f hp, bI_t hp⟩
            · rw [upd_ne (by decide), upd_ne (by decide), upd_at, upd_ne (by omega), upd_ne (by omega), upd_at]
            · rw [upd_ne (by decide), upd_at, upd_ne (by omega), upd_at]
            · rw [upd_at, upd_at]
          · have hj2 : j < mn σ d := by omega
            have hne : pm R d j ≠ pm R d (mn σ d) := fun e9 => ej (hC.2.2.2.2.2 j (mn σ d) (by omega) hn e9)
            exact RCm_eq2 (bkI_o (by simp) (by simp [hne])) (fun k hk => bkS_19o (by omega)) (c5 j hj2)
    · refine RCc_eq2 hc (hall d hd) rfl rfl (bkI_o (by simp [e]) (by simp)) (fun j => bkI_o (by simp) (by simp [e])) ?_ ?_ ?_ (fun k hk => bkS_19o ?_)
      · rw [bkS_20, upd_ne e]
      · rw [bkS_21, upd_ne e]
      · rw [bkS_o (by decide) (by decide) (by decide)]
      · have := hall d hd
        omega
set_option maxRecDepth 20000 in
set_option maxHeartbeats 400000 in
theorem k_hasRoom {d b : Nat} {K : KM} {I : IM} {R : RM} {Q : QT} {c sz : Nat} {tw mi : Int32} {p : Nat → Nat} (hd : 2 ≤ d) (hC : COp K R c p) (hz : I (CA c) 2 = nI sz) (hsz : sz ≤ 6) (q : Q (.inl (some (pI (bI (I (CA c) 3 = nI 0 ∧ sz < 6 ∧ smI (fun k => I (MT c (p k)) 3) sz + mi ≤ nI 120 ∧ (nI sz = nI 0 ∨ I (CA c) 1 = tw)))))) K I R) : Mw d b N_X0_hasRoom 0 [some (pR (some (CA c))), some (pI tw), some (pI mi)] [] K I R Q := by
  obtain ⟨d9, rfl⟩ : ∃ d9, d = d9 + 1 := ⟨d - 1, by omega⟩
  refine mw_aload i_2_0 (L := CA c) rfl ?_
  refine mw_get i_2_1 hC.1 (v := I (CA c) 3) rfl ?_
  refine mw_if i_2_2 (p := ¬ (I (CA c) 3) = nI 0) Iff.rfl (fun c1 => ?_) (fun c1 => ?_)
  · skip
    refine mw_const i_2_13 (v := nI 0) (by decide) ?_
    refine mw_iret i_2_14 (x := nI 0) (fun _ => (by decide)) ?_
    rw [show nI 0 = bI (I (CA c) 3 = nI 0 ∧ sz < 6 ∧ smI (fun k => I (MT c (p k)) 3) sz + mi ≤ nI 120 ∧ (nI sz = nI 0 ∨ I (CA c) 1 = tw)) from (bI_f (fun h => c1 h.1)).symm]
    exact q
  · skip
    refine mw_aload i_2_3 (L := CA c) rfl ?_
    refine mw_get i_2_4 hC.1 (v := nI sz) hz ?_
    refine mw_const i_2_5 (v := nI 6) (by decide) ?_
    refine mw_ic i_2_6 (p := 6 ≤ sz) (nI_leI (by omega) (by omega)) (fun c2 => ?_) (fun c2 => ?_)
    · skip
      refine mw_const i_2_13 (v := nI 0) (by decide) ?_
      refine mw_iret i_2_14 (x := nI 0) (fun _ => (by decide)) ?_
      rw [show nI 0 = bI (I (CA c) 3 = nI 0 ∧ sz < 6 ∧ smI (fun k => I (MT c (p k)) 3) sz + mi ≤ nI 120 ∧ (nI sz = nI 0 ∨ I (CA c) 1 = tw)) from (bI_f (fun h => absurd h.2.1 (by omega))).symm]
      exact q
    · skip
      refine mw_aload i_2_7 (L := CA c) rfl ?_
      refine mw_callV i_2_8 mf_5 (as := []) (rest := []) (d' := d9) (b' := b) (ls0 := [some (pR (some (CA c))), none, none]) rfl rfl rfl (Nat.le_of_ble_eq_true rfl) hC.1 rfl rfl rfl ?_
      refine k_allMin hC hz hsz ?_
      refine aft_v ?_
      refine mw_iload i_2_9 (x := mi) rfl ?_
      refine mw_iadd i_2_10 (w := ((smI (fun k => I (MT c (p k)) 3) sz) + mi)) rfl ?_
      refine mw_const i_2_11 (v := nI 120) (by decide) ?_
      refine mw_ic i_2_12 (p := ((smI (fun k => I (MT c (p k)) 3) sz) + mi) ≤ (nI 120)) Iff.rfl (fun c3 => ?_) (fun c3 => ?_)
      · skip
        refine mw_aload i_2_15 (L := CA c) rfl ?_
        refine mw_get i_2_16 hC.1 (v := nI sz) hz ?_
        refine mw_if i_2_17 (p := (nI sz) = nI 0) Iff.rfl (fun c4 => ?_) (fun c4 => ?_)
        · skip
          refine mw_const i_2_22 (v := nI 1) (by decide) ?_
          refine mw_goto i_2_23 ?_
          refine mw_iret i_2_25 (x := nI 1) (fun _ => (by decide)) ?_
          rw [show nI 1 = bI (I (CA c) 3 = nI 0 ∧ sz < 6 ∧ smI (fun k => I (MT c (p k)) 3) sz + mi ≤ nI 120 ∧ (nI sz = nI 0 ∨ I (CA c) 1 = tw)) from (bI_t (⟨Classical.not_not.mp c1, by omega, c3, Or.inl c4⟩)).symm]
          exact q
        · skip
          refine mw_aload i_2_18 (L := CA c) rfl ?_
          refine mw_get i_2_19 hC.1 (v := I (CA c) 1) rfl ?_
          refine mw_iload i_2_20 (x := tw) rfl ?_
          refine mw_ic i_2_21 (p := ¬ (I (CA c) 1) = tw) Iff.rfl (fun c5 => ?_) (fun c5 => ?_)
          · skip
            refine mw_const i_2_24 (v := nI 0) (by decide) ?_
            refine mw_iret i_2_25 (x := nI 0) (fun _ => (by decide)) ?_
            rw [show nI 0 = bI (I (CA c) 3 = nI 0 ∧ sz < 6 ∧ smI (fun k => I (MT c (p k)) 3) sz + mi ≤ nI 120 ∧ (nI sz = nI 0 ∨ I (CA c) 1 = tw)) from (bI_f (fun h => h.2.2.2.elim c4 c5)).symm]
            exact q
          · skip
            refine mw_const i_2_22 (v := nI 1) (by decide) ?_
            refine mw_goto i_2_23 ?_
            refine mw_iret i_2_25 (x := nI 1) (fun _ => (by decide)) ?_
            rw [show nI 1 = bI (I (CA c) 3 = nI 0 ∧ sz < 6 ∧ smI (fun k => I (MT c (p k)) 3) sz + mi ≤ nI 120 ∧ (nI sz = nI 0 ∨ I (CA c) 1 = tw)) from (bI_t (⟨Classical.not_not.mp c1, by omega, c3, Or.inr (Classical.not_not.mp c5)⟩)).symm]
            exact q
      · skip
        refine mw_const i_2_13 (v := nI 0) (by decide) ?_
        refine mw_iret i_2_14 (x := nI 0) (fun _ => (by decide)) ?_
        rw [show nI 0 = bI (I (CA c) 3 = nI 0 ∧ sz < 6 ∧ smI (fun k => I (MT c (p k)) 3) sz + mi ≤ nI 120 ∧ (nI sz = nI 0 ∨ I (CA c) 1 = tw)) from (bI_f (fun h => c3 h.2.2.1)).symm]
        exact q
