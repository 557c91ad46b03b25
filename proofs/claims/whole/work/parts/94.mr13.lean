/-! the reference mends -/
theorem RF_28 {σ : ST} {I : IM} (h : RF σ I) {v : Int32} : RF σ (up2 I MO 28 v) := by
  refine ⟨by rw [mv_o (by decide)]; exact h.1, ?_, fun i hi => ?_⟩
  · rw [up2_at, upd_ne (by decide)]; exact h.2.1
  · rw [up2_ne (by simp)]; exact h.2.2 i hi
/-- comers are set; matches are struck: the reference's two rounds -/
noncomputable def setC (σ : ST) (c : Nat → Nat) (i : Nat) (τ : ST) : ST := @ite _ (c i = pn σ) (Classical.propDecidable _) τ (ups τ 19 (36 * dn σ + 6 * (Os σ i / 2) + Os σ i % 2) (nI (c i)))
def ag (σ : ST) (i : Nat) : Prop := 0 < i ∧ Os σ (i - 1) / 2 = Os σ i / 2
noncomputable def xC (σ : ST) (c : Nat → Nat) (i : Nat) (τ : ST) : ST := @ite _ (c i = pn σ ∧ ¬ ag σ i) (Classical.propDecidable _) (stS τ (dn σ) (Os σ i / 2)) τ
noncomputable def nCx (σ : ST) (c : Nat → Nat) (i : Nat) : Nat := @ite _ (c i = pn σ ∧ ¬ ag σ i) (Classical.propDecidable _) 1 0
noncomputable def cR (σ : ST) (c : Nat → Nat) : Nat → ST → ST
  | 0, τ => τ
  | u + 1, τ => cR σ c u (stepC σ c u τ)
noncomputable def sR (σ : ST) (c : Nat → Nat) : Nat → ST → ST
  | 0, τ => τ
  | u + 1, τ => sR σ c u (setC σ c u τ)
noncomputable def xR (σ : ST) (c : Nat → Nat) : Nat → ST → ST
  | 0, τ => τ
  | u + 1, τ => xR σ c u (xC σ c u τ)
noncomputable def kR (σ : ST) (c : Nat → Nat) : Nat → Nat
  | 0 => 0
  | u + 1 => kC σ c u + kR σ c u
noncomputable def nR (σ : ST) (c : Nat → Nat) : Nat → Nat
  | 0 => 0
  | u + 1 => nCx σ c u + nR σ c u
theorem cR_cS {σ : ST} {c : Nat → Nat} : ∀ u, u ≤ mO σ → cR σ c u (cS σ c (mO σ - u)) = cS σ c (mO σ) ∧ kR σ c u + cK σ c (mO σ - u) = cK σ c (mO σ)
  | 0, _ => by rw [Nat.sub_zero]; exact ⟨rfl, Nat.zero_add _⟩
  | u + 1, h => by
    obtain ⟨e1, e2⟩ := cS_next (σ := σ) (c := c) (u := u) (by omega)
    obtain ⟨h1, h2⟩ := cR_cS (σ := σ) (c := c) u (by omega)
    refine ⟨?_, ?_⟩
    · show cR σ c u (stepC σ c u _) = _
      rw [← e1]; exact h1
    · show kC σ c u + kR σ c u + _ = _
      rw [← h2, e2]; omega
theorem st_ups {τ : ST} {x M j : Nat} {v : Int32} (h : j < 36 * x + 6 * M) : ups (stS τ x M) 19 j v = stS (ups τ 19 j v) x M := by
  have em : mn (ups τ 19 j v) x = mn τ x := by unfold mn; rw [ups_ne (by decide)]
  funext q w
  by_cases h1 : q = 19
  · subst h1
    rw [ups_at, stS_19, em, ups_at]
    by_cases e : w = j
    · rw [e, upd_at, if_neg (by omega), upd_at]
    · rw [upd_ne e, stS_19]
      by_cases e2 : 36 * x + 6 * M ≤ w ∧ w < 36 * x + 6 * (mn τ x - 1)
      · rw [if_pos e2, if_pos e2, upd_ne (by omega)]
      · rw [if_neg e2, if_neg e2, upd_ne e]
  · rw [ups_ne h1]
    by_cases h2 : q = 20
    · subst h2; rw [stS_20, stS_20, em, ups_ne (by decide)]
    · rw [stS_o h1 h2, stS_o h1 h2, ups_ne h1]
theorem sR_st {σ τ : ST} {c : Nat → Nat} {M : Nat} : ∀ u, (∀ k, k < u → Os σ k / 2 < M) → sR σ c u (stS τ (dn σ) M) = stS (sR σ c u τ) (dn σ) M
  | 0, _ => rfl
  | u + 1, h => by
    have hk := h u (by omega)
    have e : setC σ c u (stS τ (dn σ) M) = stS (setC σ c u τ) (dn σ) M := by
      unfold setC
      split
      · rfl
      · exact st_ups (by omega)
    show sR σ c u (setC σ c u (stS τ (dn σ) M)) = stS (sR σ c u (setC σ c u τ)) (dn σ) M
    rw [e]
    exact sR_st (τ := setC σ c u τ) u (fun k hk => h k (by omega))
theorem ag_bnd {σ : ST} {i : Nat} (hi : i < mO σ) : ag σ i ↔ bnd σ i := by
  constructor
  · rintro ⟨h0, h1⟩
    have h2 := Os_mono (show i - 1 < i by omega) hi
    have e : Os σ (i - 1) = Os σ i - 1 := by omega
    refine ⟨by omega, ?_⟩
    rw [← e]
    exact (Os_lt (show i - 1 < mO σ by omega)).2.1
  · intro h
    obtain ⟨p0, p1⟩ := bnd_pos h hi
    exact ⟨p0, by rw [p1]; have := h.1; omega⟩
theorem two_rounds {σ : ST} {c : Nat → Nat} (hP : PVd σ c (mO σ)) : ∀ n u, u ≤ n → u ≤ mO σ → (u < mO σ → ¬ bnd σ u) → ∀ τ, cR σ c u τ = xR σ c u (sR σ c u τ) ∧ kR σ c u = nR σ c u := by
  intro n
  induction n with
  | zero =>
    intro u h _ _ τ
    obtain rfl : u = 0 := by omega
    exact ⟨rfl, rfl⟩
  | succ n ih =>
    intro u hn hu hb τ
    cases u with
    | zero => exact ⟨rfl, rfl⟩
    | succ i =>
      have hi : i < mO σ := by omega
      have hlo : ∀ k, k < i → ¬ bnd σ i → Os σ k / 2 < Os σ i / 2 := fun k hk hnb => by
        have h1 := Os_mono hk hi
        by_cases e : Os σ k / 2 = Os σ i / 2
        · have e2 : Os σ k = Os σ i - 1 := by omega
          exact absurd ⟨by omega, by rw [← e2]; exact (Os_lt (show k < mO σ by omega)).2.1⟩ hnb
        · omega
      have hnf : ¬ (Os σ i % 2 = 0 ∧ opn σ (Os σ i + 1)) := fun h => by
        obtain ⟨a1, a2, a3⟩ := nx_open hi h.1 h.2
        exact hb a1 a3
      by_cases hbi : bnd σ i
      · -- a pair
        obtain ⟨p0, p1⟩ := bnd_pos hbi hi
        obtain ⟨k, rfl⟩ : ∃ k, i = k + 1 := ⟨i - 1, by omega⟩
        rw [Nat.add_sub_cancel] at p1
        have hk : k < mO σ := by omega
        have hL := (hP (k + 1) hi).2.1 hbi
        rw [Nat.add_sub_cancel] at hL
        have hodd := hbi.1
        have hkf : Os σ k % 2 = 0 ∧ opn σ (Os σ k + 1) := ⟨by omega, by rw [p1, show Os σ (k + 1) - 1 + 1 = Os σ (k + 1) by omega]; exact (Os_lt hi).2.1⟩
        have hnk : ¬ bnd σ k := fun h => by have := h.1; omega
        have hM : Os σ k / 2 = Os σ (k + 1) / 2 := by omega
        have hag : ag σ (k + 1) := (ag_bnd hi).mpr hbi
        have hnag : ¬ ag σ k := fun h => hnk ((ag_bnd hk).mp h)
        have hlo2 : ∀ j, j < k → Os σ j / 2 < Os σ k / 2 := fun j hj => by
          have h1 := Os_mono hj hk
          omega
        by_cases hc : c (k + 1) = pn σ
        · have hc2 := hL.mp hc
          obtain ⟨r1, r2⟩ := ih k (by omega) (by omega) (fun _ => hnk) (stS τ (dn σ) (Os σ k / 2))
          refine ⟨?_, ?_⟩
          · show cR σ c k (stepC σ c k (stepC σ c (k + 1) τ)) = xR σ c k (xC σ c k (xC σ c (k + 1) (sR σ c k (setC σ c k (setC σ c (k + 1) τ)))))
            have e1 : stepC σ c (k + 1) τ = stS τ (dn σ) (Os σ k / 2) := by unfold stepC; rw [if_pos hc, if_neg hnf, hM]
            have e2 : ∀ τ', stepC σ c k τ' = τ' := fun τ' => by unfold stepC; rw [if_pos hc2, if_pos hkf]
            have e3 : setC σ c (k + 1) τ = τ := by unfold setC; rw [if_pos hc]
            have e4 : setC σ c k τ = τ := by unfold setC; rw [if_pos hc2]
            have e5 : ∀ τ', xC σ c (k + 1) τ' = τ' := fun τ' => by unfold xC; rw [if_neg (fun h => h.2 hag)]
            have e6 : ∀ τ', xC σ c k τ' = stS τ' (dn σ) (Os σ k / 2) := fun τ' => by unfold xC; rw [if_pos ⟨hc2, hnag⟩]
            rw [e1, e2, e3, e4, e5, e6, r1, sR_st k hlo2]
          · show kC σ c (k + 1) + (kC σ c k + kR σ c k) = nCx σ c (k + 1) + (nCx σ c k + nR σ c k)
            have e1 : kC σ c (k + 1) = 1 := if_pos ⟨hc, hnf⟩
            have e2 : kC σ c k = 0 := if_neg (fun h => h.2 hkf)
            have e3 : nCx σ c (k + 1) = 0 := if_neg (fun h => h.2 hag)
            have e4 : nCx σ c k = 1 := if_pos ⟨hc2, hnag⟩
            rw [e1, e2, e3, e4, r2]; omega
        · have hc2 : ¬ c k = pn σ := fun h => hc (hL.mpr h)
          obtain ⟨r1, r2⟩ := ih k (by omega) (by omega) (fun _ => hnk) (setC σ c k (setC σ c (k + 1) τ))
          refine ⟨?_, ?_⟩
          · show cR σ c k (stepC σ c k (stepC σ c (k + 1) τ)) = xR σ c k (xC σ c k (xC σ c (k + 1) (sR σ c k (setC σ c k (setC σ c (k + 1) τ)))))
            have e1 : ∀ τ', stepC σ c (k + 1) τ' = setC σ c (k + 1) τ' := fun τ' => by unfold stepC setC; rw [if_neg hc, if_neg hc]
            have e2 : ∀ τ', stepC σ c k τ' = setC σ c k τ' := fun τ' => by unfold stepC setC; rw [if_neg hc2, if_neg hc2]
            have e5 : ∀ τ', xC σ c (k + 1) τ' = τ' := fun τ' => by unfold xC; rw [if_neg (fun h => hc h.1)]
            have e6 : ∀ τ', xC σ c k τ' = τ' := fun τ' => by unfold xC; rw [if_neg (fun h => hc2 h.1)]
            rw [e1, e2, e5, e6, r1]
          · show kC σ c (k + 1) + (kC σ c k + kR σ c k) = nCx σ c (k + 1) + (nCx σ c k + nR σ c k)
            have e1 : kC σ c (k + 1) = 0 := if_neg (fun h => hc h.1)
            have e2 : kC σ c k = 0 := if_neg (fun h => hc2 h.1)
            have e3 : nCx σ c (k + 1) = 0 := if_neg (fun h => hc h.1)
            have e4 : nCx σ c k = 0 := if_neg (fun h => hc2 h.1)
            rw [e1, e2, e3, e4, r2]
      · have hnag : ¬ ag σ i := fun h => hbi ((ag_bnd hi).mp h)
        by_cases hc : c i = pn σ
        · obtain ⟨r1, r2⟩ := ih i (by omega) (by omega) (fun _ => hbi) (stS τ (dn σ) (Os σ i / 2))
          refine ⟨?_, ?_⟩
          · show cR σ c i (stepC σ c i τ) = xR σ c i (xC σ c i (sR σ c i (setC σ c i τ)))
            have e1 : stepC σ c i τ = stS τ (dn σ) (Os σ i / 2) := by unfold stepC; rw [if_pos hc, if_neg hnf]
            have e3 : setC σ c i τ = τ := by unfold setC; rw [if_pos hc]
            have e6 : ∀ τ', xC σ c i τ' = stS τ' (dn σ) (Os σ i / 2) := fun τ' => by unfold xC; rw [if_pos ⟨hc, hnag⟩]
            rw [e1, e3, e6, r1, sR_st i (fun k hk => hlo k hk hbi)]
          · show kC σ c i + kR σ c i = nCx σ c i + nR σ c i
            have e1 : kC σ c i = 1 := if_pos ⟨hc, hnf⟩
            have e3 : nCx σ c i = 1 := if_pos ⟨hc, hnag⟩
            rw [e1, e3, r2]
        · obtain ⟨r1, r2⟩ := ih i (by omega) (by omega) (fun _ => hbi) (setC σ c i τ)
          refine ⟨?_, ?_⟩
          · show cR σ c i (stepC σ c i τ) = xR σ c i (xC σ c i (sR σ c i (setC σ c i τ)))
            have e1 : stepC σ c i τ = setC σ c i τ := by unfold stepC setC; rw [if_neg hc, if_neg hc]
            have e6 : ∀ τ', xC σ c i τ' = τ' := fun τ' => by unfold xC; rw [if_neg (fun h => hc h.1)]
            rw [e1, e6, r1]
          · show kC σ c i + kR σ c i = nCx σ c i + nR σ c i
            have e1 : kC σ c i = 0 := if_neg (fun h => hc h.1)
            have e3 : nCx σ c i = 0 := if_neg (fun h => hc h.1)
            rw [e1, e3, r2]
/-- what the reference keeps while it carries out -/
def RG (σ : ST) (c : Nat → Nat) (I : IM) (τ : ST) : Prop := mv I = τ ∧ I MO 27 = nI (mO σ) ∧ (∀ i, i < mO σ → I (MA 24) i = nI (Os σ i)) ∧ (∀ i, i < mO σ → I (MA 25) i = nI (tN σ (c i))) ∧ τ 0 0 = nI (dn σ)
set_option maxRecDepth 20000 in
set_option maxHeartbeats 400000 in
theorem m_set_step {d b : Nat} {K : KM} {I : IM} {R : RM} {Q : QT} {σ τ : ST} {c : Nat → Nat} {n9 u : Nat} {u3 : Option PV} (hM : MK K R) (hRG : RG σ c I τ) (hO : mO σ ≤ 4) (hpp : pn σ ≤ 10) (hdd : dn σ ≤ 999) (hm6 : mn σ (dn σ) ≤ 6) (hu : u < mO σ) (hc : ∀ i, i < mO σ → c i ≤ pn σ) (q : ∀ I', FrA I I' → RG σ c I' (setC σ c u τ) → Mw d b N_X6_mend 19 [some (pR (some MO)), some (pI (nI n9)), some (pI (nI u + Int32.ofInt (-1))), u3] [] K I' R Q) : Mw d b N_X6_mend 19 [some (pR (some MO)), some (pI (nI n9)), some (pI (nI u)), u3] [] K I R Q := by
  have hol := (Os_lt hu).1
  have hcu := hc u hu
  have hcu10 := tN_le hpp hcu
  refine mw_iload i_105_19 (x := nI u) rfl ?_
  refine mw_if i_105_20 (p := (nI u) < nI 0) Iff.rfl (fun c1 => ?_) (fun c1 => ?_)
  · skip
    exact absurd c1 (by rw [Int32.lt_iff_toInt_lt, nI_toInt (by omega), nI_toInt (by omega)]; omega)
  · skip
    refine mw_aload i_105_21 (L := MO) rfl ?_
    refine mw_getR i_105_22 (MK_o hM) (q := some (MA 25)) (MK_r hM 25 (by decide)) ?_
    refine mw_iload i_105_23 (x := nI u) rfl ?_
    refine mw_iald i_105_24 (jn := u) (n := 4) (by omega) (by omega) (show K (MA 25) = some (7, 4) from MK_k hM 25 (by decide)) (by decide) (v := nI (tN σ (c u))) (hRG.2.2.2.1 u (by omega)) ?_
    refine mw_const i_105_25 (v := nI 10) (by decide) ?_
    refine mw_ic i_105_26 (p := (tN σ (c u)) = 10) (nI_eq (by omega) (by omega)) (fun c2 => ?_) (fun c2 => ?_)
    · skip
      refine mw_iinc i_105_54 (x := nI u) (v := nI u + Int32.ofInt (-1)) (ls' := [some (pR (some MO)), some (pI (nI n9)), some (pI (nI u + Int32.ofInt (-1))), u3]) rfl rfl rfl ?_
      refine mw_goto i_105_55 ?_
      have hP : c u = pn σ := (tN_10 hpp hcu).mp (by first | exact c2 | exact Classical.not_not.mp c2)
      exact q I FrA_rfl (by rw [show setC σ c u τ = τ from if_pos hP]; exact hRG)
    · skip
      refine mw_aload i_105_27 (L := MO) rfl ?_
      refine mw_getR i_105_28 (MK_o hM) (q := some (MA 19)) (MK_r hM 19 (by decide)) ?_
      refine mw_const i_105_29 (v := nI 36) (by decide) ?_
      refine mw_aload i_105_30 (L := MO) rfl ?_
      refine mw_get i_105_31 (MK_o hM) (v := nI (dn σ)) ((rs hRG.1 (by decide)).trans hRG.2.2.2.2) ?_
      refine mw_imul i_105_32 (w := nI (36 * (dn σ))) (pk_mul _ _) ?_
      refine mw_const i_105_33 (v := nI 6) (by decide) ?_
      refine mw_aload i_105_34 (L := MO) rfl ?_
      refine mw_getR i_105_35 (MK_o hM) (q := some (MA 24)) (MK_r hM 24 (by decide)) ?_
      refine mw_iload i_105_36 (x := nI u) rfl ?_
      refine mw_iald i_105_37 (jn := u) (n := 4) (by omega) (by omega) (show K (MA 24) = some (7, 4) from MK_k hM 24 (by decide)) (by decide) (v := nI (Os σ u)) (hRG.2.2.1 u (by omega)) ?_
      refine mw_const i_105_38 (v := nI 2) (by decide) ?_
      refine mw_idiv i_105_39 (by decide) (w := nI ((Os σ u) / 2)) (pk_div (by omega) (by omega) (by omega)) ?_
      refine mw_imul i_105_40 (w := nI (6 * ((Os σ u) / 2))) (pk_mul _ _) ?_
      refine mw_iadd i_105_41 (w := nI (36 * (dn σ) + (6 * ((Os σ u) / 2)))) (nI_add _ _) ?_
      refine mw_aload i_105_42 (L := MO) rfl ?_
      refine mw_getR i_105_43 (MK_o hM) (q := some (MA 24)) (MK_r hM 24 (by decide)) ?_
      refine mw_iload i_105_44 (x := nI u) rfl ?_
      refine mw_iald i_105_45 (jn := u) (n := 4) (by omega) (by omega) (show K (MA 24) = some (7, 4) from MK_k hM 24 (by decide)) (by decide) (v := nI (Os σ u)) (hRG.2.2.1 u (by omega)) ?_
      refine mw_const i_105_46 (v := nI 2) (by decide) ?_
      refine mw_irem i_105_47 (by decide) (w := nI ((Os σ u) % 2)) (pk_rem (by omega) (by omega) (by omega)) ?_
      refine mw_iadd i_105_48 (w := nI (36 * (dn σ) + (6 * ((Os σ u) / 2)) + ((Os σ u) % 2))) (nI_add _ _) ?_
      refine mw_aload i_105_49 (L := MO) rfl ?_
      refine mw_getR i_105_50 (MK_o hM) (q := some (MA 25)) (MK_r hM 25 (by decide)) ?_
      refine mw_iload i_105_51 (x := nI u) rfl ?_
      refine mw_iald i_105_52 (jn := u) (n := 4) (by omega) (by omega) (show K (MA 25) = some (7, 4) from MK_k hM 25 (by decide)) (by decide) (v := nI (tN σ (c u))) (hRG.2.2.2.1 u (by omega)) ?_
      obtain ⟨I23, e23⟩ : ∃ I23, I23 = up2 I (MA 19) (36 * (dn σ) + (6 * ((Os σ u) / 2)) + ((Os σ u) % 2)) (nI (tN σ (c u))) := ⟨_, rfl⟩
      refine mw_iast i_105_53 (jn := 36 * (dn σ) + (6 * ((Os σ u) / 2)) + ((Os σ u) % 2)) (n := 36000) (by omega) (by omega) (x := nI (tN σ (c u))) (show K (MA 19) = some (7, 36000) from MK_k hM 19 (by decide)) (I' := I23) e23.symm ?_
      refine mw_iinc i_105_54 (x := nI u) (v := nI u + Int32.ofInt (-1)) (ls' := [some (pR (some MO)), some (pI (nI n9)), some (pI (nI u + Int32.ofInt (-1))), u3]) rfl rfl rfl ?_
      refine mw_goto i_105_55 ?_
      have hP : ¬ c u = pn σ := fun h => c2 ((tN_10 hpp hcu).mpr h)
      refine q I23 ((e23.symm ▸ FrA_up (FrA_rfl) rfl)) ?_
      rw [show setC σ c u τ = ups τ 19 (36 * dn σ + 6 * (Os σ u / 2) + Os σ u % 2) (nI (c u)) from if_neg hP]
      rw [tN_n hP] at e23
      refine ⟨by rw [e23, mv_a (by decide) (by decide) (by decide) (by decide), hRG.1], by rw [e23, up2_ne (by simp)]; exact hRG.2.1, fun i hi => by rw [e23, up2_ne (by simp)]; exact hRG.2.2.1 i hi, fun i hi => by rw [e23, up2_ne (by simp)]; exact hRG.2.2.2.1 i hi, by rw [ups_ne (by decide)]; exact hRG.2.2.2.2⟩
set_option maxRecDepth 20000 in
set_option maxHeartbeats 400000 in
theorem m_set_end {d b : Nat} {K : KM} {I : IM} {R : RM} {Q : QT} {n9 : Nat} {u3 : Option PV}  (q : Mw d b N_X6_mend 56 [some (pR (some MO)), some (pI (nI n9)), some (pI (-1)), u3] [] K I R Q) : Mw d b N_X6_mend 19 [some (pR (some MO)), some (pI (nI n9)), some (pI (-1)), u3] [] K I R Q := by
  refine mw_iload i_105_19 (x := (-1)) rfl ?_
  refine mw_if i_105_20 (p := (-1) < nI 0) Iff.rfl (fun c1 => ?_) (fun c1 => ?_)
  · skip
    exact q
  · skip
    exact absurd (show (-1 : Int32) < nI 0 by decide) c1
