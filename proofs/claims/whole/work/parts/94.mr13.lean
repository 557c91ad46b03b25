/-! the reference mends -/
theorem RF_28 {σ : ST} {I : IM} (h : RF σ I) {v : Int32} : RF σ (up2 I MO 28 v) := by
  refine ⟨by rw [mv_o (by decide)]; exact h.1, ?_, fun i hi => ?_⟩
  · rw [up2_at, upd_ne (by decide)]; exact h.2.1
  · rw [up2_ne (by simp)]; exact h.2.2 i hi
/-- comers are set; matches are struck: the reference's two rounds -/
noncomputable def setC (σ : ST) (c : Nat → Nat) (i : Nat) (τ : ST) : ST := @ite _ (c i = pn σ) (Classical.propDecidable _) τ (ups τ 19 (36 * dn σ + 6 * (Os σ i / 2) + Os σ i % 2) (nI (c i)))
def ag (σ : ST) (i : Nat) : Prop := 0 < i ∧ Os σ (i - 1) / 2 = Os σ i / 2
noncomputable def xC (σ : ST) (c : Nat → Nat) (i : Nat) (τ : ST) : ST := @ite _ (c i = pn σ ∧ ¬ ag σ i) (Classical.propDecidable _) (stS τ (dn σ) (Os σ i / 2)) τ
noncomputable def nCx (σ : ST) (c : Nat → Nat) (i : Nat) : Nat := @ite _ (c i = pn σ ∧ ¬ ag σ i) (Classical.propDecidable _) 1 0
noncomputable def cR (σ : ST) (c : Nat → Nat) : Nat → ST → ST
  | 0, τ => τ
  | u + 1, τ => cR σ c u (stepC σ c u τ)
noncomputable def sR (σ : ST) (c : Nat → Nat) : Nat → ST → ST
  | 0, τ => τ
  | u + 1, τ => sR σ c u (setC σ c u τ)
noncomputable def xR (σ : ST) (c : Nat → Nat) : Nat → ST → ST
  | 0, τ => τ
  | u + 1, τ => xR σ c u (xC σ c u τ)
noncomputable def kR (σ : ST) (c : Nat → Nat) : Nat → Nat
  | 0 => 0
  | u + 1 => kC σ c u + kR σ c u
noncomputable def nR (σ : ST) (c : Nat → Nat) : Nat → Nat
  | 0 => 0
  | u + 1 => nCx σ c u + nR σ c u
theorem cR_cS {σ : ST} {c : Nat → Nat} : ∀ u, u ≤ mO σ → cR σ c u (cS σ c (mO σ - u)) = cS σ c (mO σ) ∧ kR σ c u + cK σ c (mO σ - u) = cK σ c (mO σ)
  | 0, _ => by rw [Nat.sub_zero]; exact ⟨rfl, Nat.zero_add _⟩
  | u + 1, h => by
    obtain ⟨e1, e2⟩ := cS_next (σ := σ) (c := c) (u := u) (by omega)
    obtain ⟨h1, h2⟩ := cR_cS (σ := σ) (c := c) u (by omega)
    refine ⟨?_, ?_⟩
    · show cR σ c u (stepC σ c u _) = _
      rw [← e1]; exact h1
    · show kC σ c u + kR σ c u + _ = _
      rw [← h2, e2]; omega
theorem st_ups {τ : ST} {x M j : Nat} {v : Int32} (h : j < 36 * x + 6 * M) : ups (stS τ x M) 19 j v = stS (ups τ 19 j v) x M := by
  have em : mn (ups τ 19 j v) x = mn τ x := by unfold mn; rw [ups_ne (by decide)]
  funext q w
  by_cases h1 : q = 19
  · subst h1
    rw [ups_at, stS_19, em, ups_at]
    by_cases e : w = j
    · rw [e, upd_at, if_neg (by omega), upd_at]
    · rw [upd_ne e, stS_19]
      by_cases e2 : 36 * x + 6 * M ≤ w ∧ w < 36 * x + 6 * (mn τ x - 1)
      · rw [if_pos e2, if_pos e2, upd_ne (by omega)]
      · rw [if_neg e2, if_neg e2, upd_ne e]
  · rw [ups_ne h1]
    by_cases h2 : q = 20
    · subst h2; rw [stS_20, stS_20, em, ups_ne (by decide)]
    · rw [stS_o h1 h2, stS_o h1 h2, ups_ne h1]
theorem sR_st {σ τ : ST} {c : Nat → Nat} {M : Nat} : ∀ u, (∀ k, k < u → Os σ k / 2 < M) → sR σ c u (stS τ (dn σ) M) = stS (sR σ c u τ) (dn σ) M
  | 0, _ => rfl
  | u + 1, h => by
    have hk := h u (by omega)
    have e : setC σ c u (stS τ (dn σ) M) = stS (setC σ c u τ) (dn σ) M := by
      unfold setC
      split
      · rfl
      · exact st_ups (by omega)
    show sR σ c u (setC σ c u (stS τ (dn σ) M)) = stS (sR σ c u (setC σ c u τ)) (dn σ) M
    rw [e]
    exact sR_st (τ := setC σ c u τ) u (fun k hk => h k (by omega))
theorem ag_bnd {σ : ST} {i : Nat} (hi : i < mO σ) : ag σ i ↔ bnd σ i := by
  constructor
  · rintro ⟨h0, h1⟩
    have h2 := Os_mono (show i - 1 < i by omega) hi
    have e : Os σ (i - 1) = Os σ i - 1 := by omega
    refine ⟨by omega, ?_⟩
    rw [← e]
    exact (Os_lt (show i - 1 < mO σ by omega)).2.1
  · intro h
    obtain ⟨p0, p1⟩ := bnd_pos h hi
    exact ⟨p0, by rw [p1]; have := h.1; omega⟩
theorem two_rounds {σ : ST} {c : Nat → Nat} (hP : PVd σ c (mO σ)) : ∀ n u, u ≤ n → u ≤ mO σ → (u < mO σ → ¬ bnd σ u) → ∀ τ, cR σ c u τ = xR σ c u (sR σ c u τ) ∧ kR σ c u = nR σ c u := by
  intro n
  induction n with
  | zero =>
    intro u h _ _ τ
    obtain rfl : u = 0 := by omega
    exact ⟨rfl, rfl⟩
  | succ n ih =>
    intro u hn hu hb τ
    cases u with
    | zero => exact ⟨rfl, rfl⟩
    | succ i =>
      have hi : i < mO σ := by omega
      have hlo : ∀ k, k < i → ¬ bnd σ i → Os σ k / 2 < Os σ i / 2 := fun k hk hnb => by
        have h1 := Os_mono hk hi
        by_cases e : Os σ k / 2 = Os σ i / 2
        · have e2 : Os σ k = Os σ i - 1 := by omega
          exact absurd ⟨by omega, by rw [← e2]; exact (Os_lt (show k < mO σ by omega)).2.1⟩ hnb
        · omega
      have hnf : ¬ (Os σ i % 2 = 0 ∧ opn σ (Os σ i + 1)) := fun h => by
        obtain ⟨a1, a2, a3⟩ := nx_open hi h.1 h.2
        exact hb a1 a3
      by_cases hbi : bnd σ i
      · -- a pair
        obtain ⟨p0, p1⟩ := bnd_pos hbi hi
        obtain ⟨k, rfl⟩ : ∃ k, i = k + 1 := ⟨i - 1, by omega⟩
        rw [Nat.add_sub_cancel] at p1
        have hk : k < mO σ := by omega
        have hL := (hP (k + 1) hi).2.1 hbi
        rw [Nat.add_sub_cancel] at hL
        have hodd := hbi.1
        have hkf : Os σ k % 2 = 0 ∧ opn σ (Os σ k + 1) := ⟨by omega, by rw [p1, show Os σ (k + 1) - 1 + 1 = Os σ (k + 1) by omega]; exact (Os_lt hi).2.1⟩
        have hnk : ¬ bnd σ k := fun h => by have := h.1; omega
        have hM : Os σ k / 2 = Os σ (k + 1) / 2 := by omega
        have hag : ag σ (k + 1) := (ag_bnd hi).mpr hbi
        have hnag : ¬ ag σ k := fun h => hnk ((ag_bnd hk).mp h)
        have hlo2 : ∀ j, j < k → Os σ j / 2 < Os σ k / 2 := fun j hj => by
          have h1 := Os_mono hj hk
          omega
        by_cases hc : c (k + 1) = pn σ
        · have hc2 := hL.mp hc
          obtain ⟨r1, r2⟩ := ih k (by omega) (by omega) (fun _ => hnk) (stS τ (dn σ) (Os σ k / 2))
          refine ⟨?_, ?_⟩
          · show cR σ c k (stepC σ c k (stepC σ c (k + 1) τ)) = xR σ c k (xC σ c k (xC σ c (k + 1) (sR σ c k (setC σ c k (setC σ c (k + 1) τ)))))
            have e1 : stepC σ c (k + 1) τ = stS τ (dn σ) (Os σ k / 2) := by unfold stepC; rw [if_pos hc, if_neg hnf, hM]
            have e2 : ∀ τ', stepC σ c k τ' = τ' := fun τ' => by unfold stepC; rw [if_pos hc2, if_pos hkf]
            have e3 : setC σ c (k + 1) τ = τ := by unfold setC; rw [if_pos hc]
            have e4 : setC σ c k τ = τ := by unfold setC; rw [if_pos hc2]
            have e5 : ∀ τ', xC σ c (k + 1) τ' = τ' := fun τ' => by unfold xC; rw [if_neg (fun h => h.2 hag)]
            have e6 : ∀ τ', xC σ c k τ' = stS τ' (dn σ) (Os σ k / 2) := fun τ' => by unfold xC; rw [if_pos ⟨hc2, hnag⟩]
            rw [e1, e2, e3, e4, e5, e6, r1, sR_st k hlo2]
          · show kC σ c (k + 1) + (kC σ c k + kR σ c k) = nCx σ c (k + 1) + (nCx σ c k + nR σ c k)
            have e1 : kC σ c (k + 1) = 1 := if_pos ⟨hc, hnf⟩
            have e2 : kC σ c k = 0 := if_neg (fun h => h.2 hkf)
            have e3 : nCx σ c (k + 1) = 0 := if_neg (fun h => h.2 hag)
            have e4 : nCx σ c k = 1 := if_pos ⟨hc2, hnag⟩
            rw [e1, e2, e3, e4, r2]; omega
        · have hc2 : ¬ c k = pn σ := fun h => hc (hL.mpr h)
          obtain ⟨r1, r2⟩ := ih k (by omega) (by omega) (fun _ => hnk) (setC σ c k (setC σ c (k + 1) τ))
          refine ⟨?_, ?_⟩
          · show cR σ c k (stepC σ c k (stepC σ c (k + 1) τ)) = xR σ c k (xC σ c k (xC σ c (k + 1) (sR σ c k (setC σ c k (setC σ c (k + 1) τ)))))
            have e1 : ∀ τ', stepC σ c (k + 1) τ' = setC σ c (k + 1) τ' := fun τ' => by unfold stepC setC; rw [if_neg hc, if_neg hc]
            have e2 : ∀ τ', stepC σ c k τ' = setC σ c k τ' := fun τ' => by unfold stepC setC; rw [if_neg hc2, if_neg hc2]
            have e5 : ∀ τ', xC σ c (k + 1) τ' = τ' := fun τ' => by unfold xC; rw [if_neg (fun h => hc h.1)]
            have e6 : ∀ τ', xC σ c k τ' = τ' := fun τ' => by unfold xC; rw [if_neg (fun h => hc2 h.1)]
            rw [e1, e2, e5, e6, r1]
          · show kC σ c (k + 1) + (kC σ c k + kR σ c k) = nCx σ c (k + 1) + (nCx σ c k + nR σ c k)
            have e1 : kC σ c (k + 1) = 0 := if_neg (fun h => hc h.1)
            have e2 : kC σ c k = 0 := if_neg (fun h => hc2 h.1)
            have e3 : nCx σ c (k + 1) = 0 := if_neg (fun h => hc h.1)
            have e4 : nCx σ c k = 0 := if_neg (fun h => hc2 h.1)
            rw [e1, e2, e3, e4, r2]
      · have hnag : ¬ ag σ i := fun h => hbi ((ag_bnd hi).mp h)
        by_cases hc : c i = pn σ
        · obtain ⟨r1, r2⟩ := ih i (by omega) (by omega) (fun _ => hbi) (stS τ (dn σ) (Os σ i / 2))
          refine ⟨?_, ?_⟩
          · show cR σ c i (stepC σ c i τ) = xR σ c i (xC σ c i (sR σ c i (setC σ c i τ)))
            have e1 : stepC σ c i τ = stS τ (dn σ) (Os σ i / 2) := by unfold stepC; rw [if_pos hc, if_neg hnf]
            have e3 : setC σ c i τ = τ := by unfold setC; rw [if_pos hc]
            have e6 : ∀ τ', xC σ c i τ' = stS τ' (dn σ) (Os σ i / 2) := fun τ' => by unfold xC; rw [if_pos ⟨hc, hnag⟩]
            rw [e1, e3, e6, r1, sR_st i (fun k hk => hlo k hk hbi)]
          · show kC σ c i + kR σ c i = nCx σ c i + nR σ c i
            have e1 : kC σ c i = 1 := if_pos ⟨hc, hnf⟩
            have e3 : nCx σ c i = 1 := if_pos ⟨hc, hnag⟩
            rw [e1, e3, r2]
        · obtain ⟨r1, r2⟩ := ih i (by omega) (by omega) (fun _ => hbi) (setC σ c i τ)
          refine ⟨?_, ?_⟩
          · show cR σ c i (stepC σ c i τ) = xR σ c i (xC σ c i (sR σ c i (setC σ c i τ)))
            have e1 : stepC σ c i τ = setC σ c i τ := by unfold stepC setC; rw [if_neg hc, if_neg hc]
            have e6 : ∀ τ', xC σ c i τ' = τ' := fun τ' => by unfold xC; rw [if_neg (fun h => hc h.1)]
            rw [e1, e6, r1]
          · show kC σ c i + kR σ c i = nCx σ c i + nR σ c i
            have e1 : kC σ c i = 0 := if_neg (fun h => hc h.1)
            have e3 : nCx σ c i = 0 := if_neg (fun h => hc h.1)
            rw [e1, e3, r2]
/-- what the reference keeps while it carries out -/
def RG (σ : ST) (c : Nat → Nat) (I : IM) (τ : ST) : Prop := mv I = τ ∧ I MO 27 = nI (mO σ) ∧ (∀ i, i < mO σ → I (MA 24) i = nI (Os σ i)) ∧ (∀ i, i < mO σ → I (MA 25) i = nI (tN σ (c i))) ∧ τ 0 0 = nI (dn σ)
set_option maxRecDepth 20000 in
set_option maxHeartbeats 400000 in
theorem m_set_step {d b : Nat} {K : KM} {I : IM} {R : RM} {Q : QT} {σ τ : ST} {c : Nat → Nat} {n9 u : Nat} {u3 : Option PV} (hM : MK K R) (hRG : RG σ c I τ) (hO : mO σ ≤ 4) (hpp : pn σ ≤ 10) (hdd : dn σ ≤ 999) (hm6 : mn σ (dn σ) ≤ 6) (hu : u < mO σ) (hc : ∀ i, i < mO σ → c i ≤ pn σ) (q : ∀ I', FrA I I' → RG σ c I' (setC σ c u τ) → Mw d b N_X6_mend 19 [some (pR (some MO)), some (pI (nI n9)), some (pI (nI u + Int32.ofInt (-1))), u3] [] K I' R Q) : Mw d b N_X6_mend 19 [some (pR (some MO)), some (pI (nI n9)), some (pI (nI u)), u3] [] K I R Q := by
  have hol := (Os_lt hu).1
  have hcu := hc u hu
  have hcu10 := tN_le hpp hcu
  refine mw_iload i_105_19 (x := nI u) rfl ?_
  refine mw_if i_105_20 (p := (nI u) < nI 0) Iff.rfl (fun c1 => ?_) (fun c1 => ?_)
  · skip
    exact absurd c1 (by rw [Int32.lt_iff_toInt_lt, nI_toInt (by omega), nI_toInt (by omega)]; omega)
  · skip
    refine mw_aload i_105_21 (L := MO) rfl ?_
    refine mw_getR i_105_22 (MK_o hM) (q := some (MA 25)) (MK_r hM 25 (by decide)) ?_
    refine mw_iload i_105_23 (x := nI u) rfl ?_
    refine mw_iald i_105_24 (jn := u) (n := 4) (by omega) (by omega) (show K (MA 25) = some (7, 4) from MK_k hM 25 (by decide)) (by decide) (v := nI (tN σ (c u))) (hRG.2.2.2.1 u (by omega)) ?_
    refine mw_const i_105_25 (v := nI 10) (by decide) ?_
    refine mw_ic i_105_26 (p := (tN σ (c u)) = 10) (nI_eq (by omega) (by omega)) (fun c2 => ?_) (fun c2 => ?_)
    · skip
      refine mw_iinc i_105_54 (x := nI u) (v := nI u + Int32.ofInt (-1)) (ls' := [some (pR (some MO)), some (pI (nI n9)), some (pI (nI u + Int32.ofInt (-1))), u3]) rfl rfl rfl ?_
      refine mw_goto i_105_55 ?_
      have hP : c u = pn σ := (tN_10 hpp hcu).mp (by first | exact c2 | exact Classical.not_not.mp c2)
      exact q I FrA_rfl (by rw [show setC σ c u τ = τ from if_pos hP]; exact hRG)
    · skip
      refine mw_aload i_105_27 (L := MO) rfl ?_
      refine mw_getR i_105_28 (MK_o hM) (q := some (MA 19)) (MK_r hM 19 (by decide)) ?_
      refine mw_const i_105_29 (v := nI 36) (by decide) ?_
      refine mw_aload i_105_30 (L := MO) rfl ?_
      refine mw_get i_105_31 (MK_o hM) (v := nI (dn σ)) ((rs hRG.1 (by decide)).trans hRG.2.2.2.2) ?_
      refine mw_imul i_105_32 (w := nI (36 * (dn σ))) (pk_mul _ _) ?_
      refine mw_const i_105_33 (v := nI 6) (by decide) ?_
      refine mw_aload i_105_34 (L := MO) rfl ?_
      refine mw_getR i_105_35 (MK_o hM) (q := some (MA 24)) (MK_r hM 24 (by decide)) ?_
      refine mw_iload i_105_36 (x := nI u) rfl ?_
      refine mw_iald i_105_37 (jn := u) (n := 4) (by omega) (by omega) (show K (MA 24) = some (7, 4) from MK_k hM 24 (by decide)) (by decide) (v := nI (Os σ u)) (hRG.2.2.1 u (by omega)) ?_
      refine mw_const i_105_38 (v := nI 2) (by decide) ?_
      refine mw_idiv i_105_39 (by decide) (w := nI ((Os σ u) / 2)) (pk_div (by omega) (by omega) (by omega)) ?_
      refine mw_imul i_105_40 (w := nI (6 * ((Os σ u) / 2))) (pk_mul _ _) ?_
      refine mw_iadd i_105_41 (w := nI (36 * (dn σ) + (6 * ((Os σ u) / 2)))) (nI_add _ _) ?_
      refine mw_aload i_105_42 (L := MO) rfl ?_
      refine mw_getR i_105_43 (MK_o hM) (q := some (MA 24)) (MK_r hM 24 (by decide)) ?_
      refine mw_iload i_105_44 (x := nI u) rfl ?_
      refine mw_iald i_105_45 (jn := u) (n := 4) (by omega) (by omega) (show K (MA 24) = some (7, 4) from MK_k hM 24 (by decide)) (by decide) (v := nI (Os σ u)) (hRG.2.2.1 u (by omega)) ?_
      refine mw_const i_105_46 (v := nI 2) (by decide) ?_
      refine mw_irem i_105_47 (by decide) (w := nI ((Os σ u) % 2)) (pk_rem (by omega) (by omega) (by omega)) ?_
      refine mw_iadd i_105_48 (w := nI (36 * (dn σ) + (6 * ((Os σ u) / 2)) + ((Os σ u) % 2))) (nI_add _ _) ?_
      refine mw_aload i_105_49 (L := MO) rfl ?_
      refine mw_getR i_105_50 (MK_o hM) (q := some (MA 25)) (MK_r hM 25 (by decide)) ?_
      refine mw_iload i_105_51 (x := nI u) rfl ?_
      refine mw_iald i_105_52 (jn := u) (n := 4) (by omega) (by omega) (show K (MA 25) = some (7, 4) from MK_k hM 25 (by decide)) (by decide) (v := nI (tN σ (c u))) (hRG.2.2.2.1 u (by omega)) ?_
      obtain ⟨I23, e23⟩ : ∃ I23, I23 = up2 I (MA 19) (36 * (dn σ) + (6 * ((Os σ u) / 2)) + ((Os σ u) % 2)) (nI (tN σ (c u))) := ⟨_, rfl⟩
      refine mw_iast i_105_53 (jn := 36 * (dn σ) + (6 * ((Os σ u) / 2)) + ((Os σ u) % 2)) (n := 36000) (by omega) (by omega) (x := nI (tN σ (c u))) (show K (MA 19) = some (7, 36000) from MK_k hM 19 (by decide)) (I' := I23) e23.symm ?_
      refine mw_iinc i_105_54 (x := nI u) (v := nI u + Int32.ofInt (-1)) (ls' := [some (pR (some MO)), some (pI (nI n9)), some (pI (nI u + Int32.ofInt (-1))), u3]) rfl rfl rfl ?_
      refine mw_goto i_105_55 ?_
      have hP : ¬ c u = pn σ := fun h => c2 ((tN_10 hpp hcu).mpr h)
      refine q I23 ((e23.symm ▸ FrA_up (FrA_rfl) rfl)) ?_
      rw [show setC σ c u τ = ups τ 19 (36 * dn σ + 6 * (Os σ u / 2) + Os σ u % 2) (nI (c u)) from if_neg hP]
      rw [tN_n hP] at e23
      refine ⟨by rw [e23, mv_a (by decide) (by decide) (by decide) (by decide), hRG.1], by rw [e23, up2_ne (by simp)]; exact hRG.2.1, fun i hi => by rw [e23, up2_ne (by simp)]; exact hRG.2.2.1 i hi, fun i hi => by rw [e23, up2_ne (by simp)]; exact hRG.2.2.2.1 i hi, by rw [ups_ne (by decide)]; exact hRG.2.2.2.2⟩
set_option maxRecDepth 20000 in
set_option maxHeartbeats 400000 in
theorem m_set_end {d b : Nat} {K : KM} {I : IM} {R : RM} {Q : QT} {n9 : Nat} {u3 : Option PV}  (q : Mw d b N_X6_mend 56 [some (pR (some MO)), some (pI (nI n9)), some (pI (-1)), u3] [] K I R Q) : Mw d b N_X6_mend 19 [some (pR (some MO)), some (pI (nI n9)), some (pI (-1)), u3] [] K I R Q := by
  refine mw_iload i_105_19 (x := (-1)) rfl ?_
  refine mw_if i_105_20 (p := (-1) < nI 0) Iff.rfl (fun c1 => ?_) (fun c1 => ?_)
  · skip
    exact q
  · skip
    exact absurd (show (-1 : Int32) < nI 0 by decide) c1
set_option maxRecDepth 20000 in
set_option maxHeartbeats 400000 in
theorem m_str_step {d b : Nat} {K : KM} {I : IM} {R : RM} {Q : QT} {σ τ : ST} {c : Nat → Nat} {n9 u : Nat} {u3 : Option PV} (hd : 2 ≤ d) (hM : MK K R) (hRG : RG σ c I τ) (hO : mO σ ≤ 4) (hpp : pn σ ≤ 10) (hdd : dn σ ≤ 999) (hm6 : mn σ (dn σ) ≤ 6) (hu : u < mO σ) (hc : ∀ i, i < mO σ → c i ≤ pn σ) (hz : τ 20 (dn σ) = nI (mn τ (dn σ))) (hz6 : mn τ (dn σ) ≤ 6) (hMn : c u = pn σ ∧ ¬ ag σ u → Os σ u / 2 < mn τ (dn σ)) (q : ∀ I' u3, FrA I I' → RG σ c I' (xC σ c u τ) → Mw d b N_X6_mend 61 [some (pR (some MO)), some (pI (nI (n9 + nCx σ c u))), some (pI (nI u + Int32.ofInt (-1))), u3] [] K I' R Q) : Mw d b N_X6_mend 61 [some (pR (some MO)), some (pI (nI n9)), some (pI (nI u)), u3] [] K I R Q := by
  obtain ⟨d9, rfl⟩ : ∃ d9, d = d9 + 1 := ⟨d - 1, by omega⟩
  have hol := (Os_lt hu).1
  have hcu := hc u hu
  have hcu10 := tN_le hpp hcu
  refine mw_iload i_105_61 (x := nI u) rfl ?_
  refine mw_if i_105_62 (p := (nI u) < nI 0) Iff.rfl (fun c1 => ?_) (fun c1 => ?_)
  · skip
    exact absurd c1 (by rw [Int32.lt_iff_toInt_lt, nI_toInt (by omega), nI_toInt (by omega)]; omega)
  · skip
    have J2 : Mw (d9 + 1) b 105 83 [some (pR (some MO)), some (pI (nI n9)), some (pI (nI u)), u3] [pI (bI (ag σ u))] K I R Q := by
      refine mw_istore i_105_83 (ls' := [some (pR (some MO)), some (pI (nI n9)), some (pI (nI u)), some (pI (bI (ag σ u)))]) rfl (Nat.le_of_ble_eq_true rfl) ?_
      refine mw_aload i_105_84 (L := MO) rfl ?_
      refine mw_getR i_105_85 (MK_o hM) (q := some (MA 25)) (MK_r hM 25 (by decide)) ?_
      refine mw_iload i_105_86 (x := nI u) rfl ?_
      refine mw_iald i_105_87 (jn := u) (n := 4) (by omega) (by omega) (show K (MA 25) = some (7, 4) from MK_k hM 25 (by decide)) (by decide) (v := nI (tN σ (c u))) (hRG.2.2.2.1 u (by omega)) ?_
      refine mw_const i_105_88 (v := nI 10) (by decide) ?_
      refine mw_ic i_105_89 (p := ¬ (tN σ (c u)) = 10) (not_congr (nI_eq (by omega) (by omega))) (fun c3 => ?_) (fun c3 => ?_)
      · skip
        refine mw_iinc i_105_103 (x := nI u) (v := nI u + Int32.ofInt (-1)) (ls' := [some (pR (some MO)), some (pI (nI n9)), some (pI (nI u + Int32.ofInt (-1))), some (pI (bI (ag σ u)))]) rfl rfl rfl ?_
        refine mw_goto i_105_104 ?_
        rw [show nI n9 = nI (n9 + nCx σ c u) by rw [show nCx σ c u = 0 from if_neg (fun h => c3 ((tN_10 hpp hcu).mpr h.1)), Nat.add_zero]]
        exact q I _ FrA_rfl (by rw [show xC σ c u τ = τ from if_neg (fun h => c3 ((tN_10 hpp hcu).mpr h.1))]; exact hRG)
      · skip
        refine mw_iload i_105_90 (x := bI (ag σ u)) rfl ?_
        refine mw_neB i_105_91 rfl (fun c4 => ?_) (fun c4 => ?_)
        · skip
          refine mw_iinc i_105_103 (x := nI u) (v := nI u + Int32.ofInt (-1)) (ls' := [some (pR (some MO)), some (pI (nI n9)), some (pI (nI u + Int32.ofInt (-1))), some (pI (bI (ag σ u)))]) rfl rfl rfl ?_
          refine mw_goto i_105_104 ?_
          rw [show nI n9 = nI (n9 + nCx σ c u) by rw [show nCx σ c u = 0 from if_neg (fun h => h.2 c4), Nat.add_zero]]
          exact q I _ FrA_rfl (by rw [show xC σ c u τ = τ from if_neg (fun h => h.2 c4)]; exact hRG)
        · skip
          refine mw_aload i_105_92 (L := MO) rfl ?_
          refine mw_aload i_105_93 (L := MO) rfl ?_
          refine mw_get i_105_94 (MK_o hM) (v := nI (dn σ)) ((rs hRG.1 (by decide)).trans hRG.2.2.2.2) ?_
          refine mw_aload i_105_95 (L := MO) rfl ?_
          refine mw_getR i_105_96 (MK_o hM) (q := some (MA 24)) (MK_r hM 24 (by decide)) ?_
          refine mw_iload i_105_97 (x := nI u) rfl ?_
          refine mw_iald i_105_98 (jn := u) (n := 4) (by omega) (by omega) (show K (MA 24) = some (7, 4) from MK_k hM 24 (by decide)) (by decide) (v := nI (Os σ u)) (hRG.2.2.1 u (by omega)) ?_
          refine mw_const i_105_99 (v := nI 2) (by decide) ?_
          refine mw_idiv i_105_100 (by decide) (w := nI ((Os σ u) / 2)) (pk_div (by omega) (by omega) (by omega)) ?_
          have hP : c u = pn σ := (tN_10 hpp hcu).mp (Classical.not_not.mp c3)
          have hna : ¬ ag σ u := c4
          refine mw_callV i_105_101 mf_94 (as := [pI (nI (dn σ)), pI (nI ((Os σ u) / 2))]) (rest := []) (d' := d9) (b' := b) (ls0 := [some (pR (some MO)), some (pI (nI (dn σ))), some (pI (nI ((Os σ u) / 2))), none]) rfl rfl rfl (Nat.le_of_ble_eq_true rfl) (MK_o hM) rfl rfl rfl ?_
          refine m_strikes hM hRG.1 (by omega) hz hz6 (hMn ⟨hP, hna⟩) (fun I9 hF9b hm9 => ?_)
          have hF9 := FrA_B hF9b
          refine aft_n ?_
          refine mw_iinc i_105_102 (x := nI n9) (v := nI (n9 + 1)) (ls' := [some (pR (some MO)), some (pI (nI (n9 + 1))), some (pI (nI u)), some (pI (bI (ag σ u)))]) rfl (nI_add _ _) rfl ?_
          refine mw_iinc i_105_103 (x := nI u) (v := nI u + Int32.ofInt (-1)) (ls' := [some (pR (some MO)), some (pI (nI (n9 + 1))), some (pI (nI u + Int32.ofInt (-1))), some (pI (bI (ag σ u)))]) rfl rfl rfl ?_
          refine mw_goto i_105_104 ?_
          rw [show nI (n9 + 1) = nI (n9 + nCx σ c u) by rw [show nCx σ c u = 1 from if_pos ⟨hP, hna⟩]]
          refine q I9 _ hF9 ?_
          rw [show xC σ c u τ = stS τ (dn σ) (Os σ u / 2) from if_pos ⟨hP, hna⟩]
          exact ⟨hm9, by rw [hF9 MO (by decide)]; exact hRG.2.1, fun i hi => by rw [show I9 (MA 24) = I (MA 24) from hF9b _ (by simp) (by simp)]; exact hRG.2.2.1 i hi, fun i hi => by rw [show I9 (MA 25) = I (MA 25) from hF9b _ (by simp) (by simp)]; exact hRG.2.2.2.1 i hi, by rw [st_o2 (by omega)]; exact hRG.2.2.2.2⟩
    refine mw_iload i_105_63 (x := nI u) rfl ?_
    refine mw_if i_105_64 (p := (nI u) ≤ nI 0) Iff.rfl (fun c5 => ?_) (fun c5 => ?_)
    · skip
      refine mw_const i_105_82 (v := nI 0) (by decide) ?_
      rw [show nI 0 = bI (ag σ u) from (bI_f ((fun h => absurd h.1 (by have h9 := Int32.le_iff_toInt_le.mp c5; rw [nI_toInt (by omega), nI_toInt (by omega)] at h9; omega)))).symm]
      exact J2
    · skip
      have hu1 : 1 ≤ u := Nat.pos_of_ne_zero (fun h => c5 (by rw [h]; exact Int32.le_refl _))
      have hol1 := (Os_lt (show u - 1 < mO σ by omega)).1
      refine mw_aload i_105_65 (L := MO) rfl ?_
      refine mw_getR i_105_66 (MK_o hM) (q := some (MA 24)) (MK_r hM 24 (by decide)) ?_
      refine mw_iload i_105_67 (x := nI u) rfl ?_
      refine mw_const i_105_68 (v := nI 1) (by decide) ?_
      refine mw_isub i_105_69 (w := nI (u - 1)) (pk_sub (by omega)) ?_
      refine mw_iald i_105_70 (jn := u - 1) (n := 4) (by omega) (by omega) (show K (MA 24) = some (7, 4) from MK_k hM 24 (by decide)) (by decide) (v := nI (Os σ (u - 1))) (hRG.2.2.1 (u - 1) (by omega)) ?_
      refine mw_const i_105_71 (v := nI 2) (by decide) ?_
      refine mw_idiv i_105_72 (by decide) (w := nI ((Os σ (u - 1)) / 2)) (pk_div (by omega) (by omega) (by omega)) ?_
      refine mw_aload i_105_73 (L := MO) rfl ?_
      refine mw_getR i_105_74 (MK_o hM) (q := some (MA 24)) (MK_r hM 24 (by decide)) ?_
      refine mw_iload i_105_75 (x := nI u) rfl ?_
      refine mw_iald i_105_76 (jn := u) (n := 4) (by omega) (by omega) (show K (MA 24) = some (7, 4) from MK_k hM 24 (by decide)) (by decide) (v := nI (Os σ u)) (hRG.2.2.1 u (by omega)) ?_
      refine mw_const i_105_77 (v := nI 2) (by decide) ?_
      refine mw_idiv i_105_78 (by decide) (w := nI ((Os σ u) / 2)) (pk_div (by omega) (by omega) (by omega)) ?_
      refine mw_ic i_105_79 (p := ¬ ((Os σ (u - 1)) / 2) = ((Os σ u) / 2)) (not_congr (nI_eq (by omega) (by omega))) (fun c6 => ?_) (fun c6 => ?_)
      · skip
        refine mw_const i_105_82 (v := nI 0) (by decide) ?_
        rw [show nI 0 = bI (ag σ u) from (bI_f ((fun h => c6 h.2))).symm]
        exact J2
      · skip
        refine mw_const i_105_80 (v := nI 1) (by decide) ?_
        refine mw_goto i_105_81 ?_
        rw [show nI 1 = bI (ag σ u) from (bI_t (⟨by omega, Classical.not_not.mp c6⟩)).symm]
        exact J2
set_option maxRecDepth 20000 in
set_option maxHeartbeats 400000 in
theorem m_str_end {d b : Nat} {K : KM} {I : IM} {R : RM} {Q : QT} {n9 : Nat} {u3 : Option PV}  (q : Q (.inl (some (pI (nI n9)))) K I R) : Mw d b N_X6_mend 61 [some (pR (some MO)), some (pI (nI n9)), some (pI (-1)), u3] [] K I R Q := by
  refine mw_iload i_105_61 (x := (-1)) rfl ?_
  refine mw_if i_105_62 (p := (-1) < nI 0) Iff.rfl (fun c1 => ?_) (fun c1 => ?_)
  · skip
    refine mw_iload i_105_105 (x := nI n9) rfl ?_
    refine mw_iretI i_105_106 (x := nI n9) rt_105 ?_
    exact q
  · skip
    exact absurd (show (-1 : Int32) < nI 0 by decide) c1
theorem m_sets {d b : Nat} {K : KM} {R : RM} {Q : QT} {σ : ST} {c : Nat → Nat} {n9 : Nat} {I0 : IM} {Fin : ST} (hM : MK K R) (hO : mO σ ≤ 4) (hpp : pn σ ≤ 10) (hdd : dn σ ≤ 999) (hm6 : mn σ (dn σ) ≤ 6) (hc : ∀ i, i < mO σ → c i ≤ pn σ) (q : ∀ I' u3, FrA I0 I' → RG σ c I' Fin → Mw d b N_X6_mend 56 [some (pR (some MO)), some (pI (nI n9)), some (pI (-1)), u3] [] K I' R Q) : ∀ u, u ≤ mO σ → ∀ (I : IM) (τ : ST) (u3 : Option PV), FrA I0 I → RG σ c I τ → sR σ c u τ = Fin → Mw d b N_X6_mend 19 [some (pR (some MO)), some (pI (nI n9)), some (pI (imu u)), u3] [] K I R Q := by
  intro u
  induction u with
  | zero =>
    intro _ I τ u3 hF hRG e
    have e : τ = Fin := e
    exact m_set_end (q I u3 hF (by rw [← e]; exact hRG))
  | succ u ih =>
    intro hu I τ u3 hF hRG e
    refine m_set_step hM hRG hO hpp hdd hm6 (by omega) hc (fun I' hF' hRG' => ?_)
    rw [imu_dn (by omega)]
    exact ih (by omega) I' _ u3 (FrA_tr hF hF') hRG' e
/-- matches below all that are struck stay -/
def XW (σ : ST) (c : Nat → Nat) (u : Nat) (τ : ST) : Prop := τ 20 (dn σ) = nI (mn τ (dn σ)) ∧ mn τ (dn σ) ≤ 6 ∧ ∀ j, j < mn σ (dn σ) → (∀ k, u ≤ k → k < mO σ → nCx σ c k = 1 → j < Os σ k / 2) → j < mn τ (dn σ)
theorem nCx_1 {σ : ST} {c : Nat → Nat} {i : Nat} (h : nCx σ c i = 1) : c i = pn σ ∧ ¬ ag σ i := by
  unfold nCx at h
  by_cases e : c i = pn σ ∧ ¬ ag σ i
  · exact e
  · rw [if_neg e] at h; exact absurd h (by decide)
theorem XM_ok {σ τ : ST} {c : Nat → Nat} {u : Nat} (hu : u < mO σ) (h : XW σ c (u + 1) τ) : Os σ u / 2 < mn τ (dn σ) := by
  have ho := (Os_lt hu).1
  refine h.2.2 _ (by omega) (fun k h1 h2 h3 => ?_)
  have h4 := Os_mono (show u < k by omega) h2
  by_cases e : Os σ u / 2 = Os σ k / 2
  · have e1 : Os σ k = Os σ u + 1 := by omega
    have e3 := (Os_lt h2).2.1
    rw [e1] at e3
    obtain ⟨n1, n2, n3⟩ := nx_open hu (by omega) e3
    have e4 : k = u + 1 := Os_inj h2 n1 (by rw [n2, e1])
    exact absurd ⟨by omega, by rw [e4, Nat.add_sub_cancel, ← e4]; exact e⟩ (nCx_1 h3).2
  · omega
theorem XW_step {σ τ : ST} {c : Nat → Nat} {u : Nat} (hu : u < mO σ) (h : XW σ c (u + 1) τ) : XW σ c u (xC σ c u τ) := by
  have hM := XM_ok hu h
  unfold xC
  by_cases e : c u = pn σ ∧ ¬ ag σ u
  · rw [if_pos e]
    have e20 : mn (stS τ (dn σ) (Os σ u / 2)) (dn σ) = mn τ (dn σ) - 1 := by
      have hb := h.2.1
      show (stS τ (dn σ) (Os σ u / 2) 20 (dn σ)).toNatClampNeg = _
      rw [stS_20, upd_at, nI_clamp (by omega)]
    refine ⟨by rw [e20, stS_20, upd_at], by have := h.2.1; omega, fun j hj hk => ?_⟩
    have h1 := hk u (Nat.le_refl _) hu (if_pos e)
    rw [e20]
    omega
  · rw [if_neg e]
    exact ⟨h.1, h.2.1, fun j hj hk => h.2.2 j hj (fun k h1 h2 h3 => hk k (by omega) h2 h3)⟩
theorem m_strs {d b : Nat} {K : KM} {R : RM} {Q : QT} {σ : ST} {c : Nat → Nat} {I0 : IM} {Fin : ST} {tot : Nat} (hd : 2 ≤ d) (hM : MK K R) (hO : mO σ ≤ 4) (hpp : pn σ ≤ 10) (hdd : dn σ ≤ 999) (hm6 : mn σ (dn σ) ≤ 6) (hc : ∀ i, i < mO σ → c i ≤ pn σ) (q : ∀ I', FrA I0 I' → mv I' = Fin → Q (.inl (some (pI (nI tot)))) K I' R) : ∀ u, u ≤ mO σ → ∀ (I : IM) (τ : ST) (n9 : Nat) (u3 : Option PV), FrA I0 I → RG σ c I τ → XW σ c u τ → xR σ c u τ = Fin → n9 + nR σ c u = tot → Mw d b N_X6_mend 61 [some (pR (some MO)), some (pI (nI n9)), some (pI (imu u)), u3] [] K I R Q := by
  intro u
  induction u with
  | zero =>
    intro _ I τ n9 u3 hF hRG hX e en
    have e : τ = Fin := e
    have en : n9 + 0 = tot := en
    have en2 : n9 = tot := by omega
    rw [en2]
    exact m_str_end (q I hF (by rw [← e]; exact hRG.1))
  | succ u ih =>
    intro hu I τ n9 u3 hF hRG hX e en
    refine m_str_step hd hM hRG hO hpp hdd hm6 (by omega) hc hX.1 hX.2.1 (fun _ => XM_ok (by omega) hX) (fun I' v3 hF' hRG' => ?_)
    rw [imu_dn (by omega)]
    have en3 : n9 + (nCx σ c u + nR σ c u) = tot := en
    exact ih (by omega) I' _ _ v3 (FrA_tr hF hF') hRG' (XW_step (by omega) hX) e (by omega)
theorem sR_o {σ : ST} {c : Nat → Nat} {k : Nat} (h : k ≠ 19) : ∀ u τ, sR σ c u τ k = τ k
  | 0, _ => rfl
  | u + 1, τ => by
    show sR σ c u (setC σ c u τ) k = τ k
    rw [sR_o h u]
    unfold setC
    split
    · rfl
    · rw [ups_ne h]
set_option maxRecDepth 20000 in
set_option maxHeartbeats 400000 in
theorem m_mend56 {d b : Nat} {K : KM} {I : IM} {R : RM} {Q : QT} {σ τ : ST} {c : Nat → Nat} {n9 : Nat} {u2 u3 : Option PV} (hd : 2 ≤ d) (hM : MK K R) (hRG : RG σ c I τ) (hO : mO σ ≤ 4) (hpp : pn σ ≤ 10) (hdd : dn σ ≤ 999) (hm6 : mn σ (dn σ) ≤ 6) (hc : ∀ i, i < mO σ → c i ≤ pn σ) (hX : XW σ c (mO σ) τ) (q : ∀ I', FrA I I' → mv I' = xR σ c (mO σ) τ → Q (.inl (some (pI (nI (n9 + nR σ c (mO σ)))))) K I' R) : Mw d b N_X6_mend 56 [some (pR (some MO)), some (pI (nI n9)), u2, u3] [] K I R Q := by
  obtain ⟨d9, rfl⟩ : ∃ d9, d = d9 + 1 := ⟨d - 1, by omega⟩
  refine mw_aload i_105_56 (L := MO) rfl ?_
  refine mw_get i_105_57 (MK_o hM) (v := nI (mO σ)) hRG.2.1 ?_
  refine mw_const i_105_58 (v := nI 1) (by decide) ?_
  refine mw_isub i_105_59 (w := imu (mO σ)) (imu_sub (by omega)) ?_
  refine mw_istore i_105_60 (ls' := [some (pR (some MO)), some (pI (nI n9)), some (pI (imu (mO σ))), u3]) rfl (Nat.le_of_ble_eq_true rfl) ?_
  exact m_strs (I0 := I) (by omega) hM hO hpp hdd hm6 hc q (mO σ) (Nat.le_refl _) I τ n9 _ FrA_rfl hRG hX rfl rfl
set_option maxRecDepth 20000 in
set_option maxHeartbeats 400000 in
theorem m_mend12 {d b : Nat} {K : KM} {I : IM} {R : RM} {Q : QT} {n0 : Nat} {σ : ST} {c : Nat → Nat} {u1 u2 u3 : Option PV} (hd : 2 ≤ d) (hM : MK K R) (hV : IV n0 σ) (hRG : RG σ c I σ) (hO : mO σ ≤ 4) (hP : PVd σ c (mO σ)) (hc : ∀ i, i < mO σ → c i ≤ pn σ)  (q : ∀ I', FrA I I' → mv I' = cS σ c (mO σ) → Q (.inl (some (pI (nI (cK σ c (mO σ)))))) K I' R) : Mw d b N_X6_mend 12 [some (pR (some MO)), u1, u2, u3] [] K I R Q := by
  obtain ⟨d9, rfl⟩ : ∃ d9, d = d9 + 1 := ⟨d - 1, by omega⟩
  have hpp := hV.1.2
  have hdd := hV.2.2.1.2
  have hm6 := (hV.2.2.2.2.2.1 (dn σ) (by omega)).2.1
  refine mw_const i_105_12 (v := nI 0) (by decide) ?_
  refine mw_istore i_105_13 (ls' := [some (pR (some MO)), some (pI (nI 0)), u2, u3]) rfl (Nat.le_of_ble_eq_true rfl) ?_
  refine mw_aload i_105_14 (L := MO) rfl ?_
  refine mw_get i_105_15 (MK_o hM) (v := nI (mO σ)) hRG.2.1 ?_
  refine mw_const i_105_16 (v := nI 1) (by decide) ?_
  refine mw_isub i_105_17 (w := imu (mO σ)) (imu_sub (by omega)) ?_
  refine mw_istore i_105_18 (ls' := [some (pR (some MO)), some (pI (nI 0)), some (pI (imu (mO σ))), u3]) rfl (Nat.le_of_ble_eq_true rfl) ?_
  have hcr := cR_cS (σ := σ) (c := c) (mO σ) (Nat.le_refl _)
  rw [Nat.sub_self] at hcr
  have htr := two_rounds hP (mO σ) (mO σ) (Nat.le_refl _) (Nat.le_refl _) (fun h => absurd h (Nat.lt_irrefl _)) σ
  have e1 : xR σ c (mO σ) (sR σ c (mO σ) σ) = cS σ c (mO σ) := htr.1.symm.trans hcr.1
  have e2 : 0 + nR σ c (mO σ) = cK σ c (mO σ) := by rw [← htr.2, Nat.zero_add]; exact hcr.2
  exact m_sets (I0 := I) (Fin := sR σ c (mO σ) σ) hM hO hpp hdd hm6 hc (fun I8 v3 hF8 hRG8 => m_mend56 (by omega) hM hRG8 hO hpp hdd hm6 hc ⟨by unfold mn; rw [sR_o (by decide)]; exact (hV.2.2.2.2.2.1 (dn σ) (by omega)).1, by unfold mn; rw [sR_o (by decide)]; exact hm6, fun j hj _ => by unfold mn; rw [sR_o (by decide)]; exact hj⟩ (fun I7 hF7 hm7 => by rw [e2]; exact q I7 (FrA_tr hF8 hF7) (hm7.trans e1))) (mO σ) (Nat.le_refl _) I σ _ FrA_rfl hRG rfl
set_option maxRecDepth 20000 in
set_option maxHeartbeats 400000 in
theorem m_mending {d b : Nat} {K : KM} {I : IM} {R : RM} {Q : QT} {n0 : Nat} {σ : ST}  (hd : 6 ≤ d) (hM : MK K R) (hm : mv I = σ) (hV : IV n0 σ)  (q1 : ¬ (mOK σ) → ∀ I', FrM I I' → I' MO 28 = nI 1 → mv I' = σ → Q (.inl (some (pI (nI 0)))) K I' R) (q0 : mOK σ → ∀ I', FrM I I' → I' MO 28 = nI 0 → mv I' = σ → ∀ v, v = bS σ (twn σ (dn σ)) → Q (.inl (some (pI v))) K I' R) : Mw d b N_X6_mending 0 [some (pR (some MO))] [] K I R Q := by
  obtain ⟨d9, rfl⟩ : ∃ d9, d = d9 + 1 := ⟨d - 1, by omega⟩
  have hpp := hV.1.2
  have htt := hV.2.1.2
  have hdd := hV.2.2.1.2
  refine mw_aload i_106_0 (L := MO) rfl ?_
  refine mw_aload i_106_1 (L := MO) rfl ?_
  refine mw_callV i_106_2 mf_104 (as := []) (rest := [pR (some MO)]) (d' := d9) (b' := b) (ls0 := [some (pR (some MO))]) rfl rfl rfl (Nat.le_of_ble_eq_true rfl) (MK_o hM) rfl rfl rfl ?_
  refine m_isMend (by omega) hM hm hV (fun I8 hF8 hm8 hRF8 => ?_)
  refine aft_v ?_
  refine mw_const i_106_3 (v := nI 1) (by decide) ?_
  refine mw_const i_106_4 (v := nI 1) (by decide) ?_
  refine mw_callV i_106_5 mf_76 (as := [pI (bI (mOK σ)), pI (nI 1), pI (nI 1)]) (rest := []) (d' := d9) (b' := b) (ls0 := [some (pR (some MO)), some (pI (bI (mOK σ))), some (pI (nI 1)), some (pI (nI 1))]) rfl rfl rfl (Nat.le_of_ble_eq_true rfl) (MK_o hM) rfl rfl rfl ?_
  refine m_goes hM ?_
  rw [show gz (bI (mOK σ)) (nI 1) (nI 1) = gn (mOK σ) True True from by unfold gn; rw [bI_T]]
  obtain ⟨Ig1, eIg1⟩ : ∃ Ig1, Ig1 = up2 I8 MO 28 (nI (gn (mOK σ) True True)) := ⟨_, rfl⟩
  rw [← eIg1]
  refine aft_v ?_
  refine mw_eqB i_106_6 rfl (fun c2 => ?_) (fun c2 => ?_)
  · skip
    refine mw_const i_106_10 (v := nI 0) (by decide) ?_
    refine mw_iretI i_106_11 (x := nI 0) rt_106 ?_
    have h28 : Ig1 MO 28 = nI (gn (mOK σ) True True) := by rw [eIg1, up2_at, upd_at]
    have hmv : mv Ig1 = σ := by rw [eIg1, mv_o (by decide), hm8]
    have hfr : FrM I Ig1 := (eIg1.symm ▸ FrM_up (FrM_tr (FrM_rfl) hF8) (by decide))
    by_cases p19 : mOK σ
    rotate_left
    · exact q1 p19 Ig1 hfr (h28.trans (by rw [gn_1 p19])) hmv
    exact absurd (gn_t p19 trivial trivial) c2
  · skip
    obtain ⟨p1, p2, p3⟩ := gn_0.mp c2
    refine mw_aload i_106_7 (L := MO) rfl ?_
    obtain ⟨tw, htw4, htw0⟩ := (hV.2.2.2.2.2.1 (dn σ) (by omega)).2.2.2.1 p1.1
    have etw : twn σ (dn σ) = tw := by unfold twn; rw [htw0]; exact nI_clamp (by omega)
    have hRF9 : RF σ Ig1 := by rw [eIg1]; exact RF_28 (hRF8 p1)
    refine mw_callV i_106_8 mf_103 (as := []) (rest := []) (d' := d9) (b' := b) (ls0 := [some (pR (some MO)), none, none, none, none, none, none]) rfl rfl rfl (Nat.le_of_ble_eq_true rfl) (MK_o hM) rfl rfl rfl ?_
    refine m_mends (by omega) hM hV p1.2.2 htw0 htw4 hRF9 (fun I7 hRF7 hF7 hb7 => ?_)
    refine aft_v ?_
    refine mw_goto i_106_9 ?_
    refine mw_iretI i_106_11 (x := bS σ tw) rt_106 ?_
    exact q0 p1 _ (FrM_tr ((eIg1.symm ▸ FrM_up (FrM_tr (FrM_rfl) hF8) (by decide))) (FrM_A hF7)) (by rw [hF7 MO (by decide), eIg1, up2_at, upd_at, c2]) hRF7.1 _ (by rw [etw])
set_option maxRecDepth 20000 in
set_option maxHeartbeats 400000 in
theorem m_mend {d b : Nat} {K : KM} {I : IM} {R : RM} {Q : QT} {n0 : Nat} {σ : ST}  (hd : 6 ≤ d) (hM : MK K R) (hm : mv I = σ) (hV : IV n0 σ)  (q1 : ¬ (mOK σ) → ∀ I', FrM I I' → I' MO 28 = nI 1 → mv I' = σ → Q (.inl (some (pI (nI 0)))) K I' R) (q0 : mOK σ → ∀ I', FrM I I' → I' MO 28 = nI 0 → mv I' = meS σ → ∀ v, v = nI (meK σ) → Q (.inl (some (pI v))) K I' R) : Mw d b N_X6_mend 0 [some (pR (some MO)), none, none, none] [] K I R Q := by
  obtain ⟨d9, rfl⟩ : ∃ d9, d = d9 + 1 := ⟨d - 1, by omega⟩
  have hpp := hV.1.2
  have htt := hV.2.1.2
  have hdd := hV.2.2.1.2
  refine mw_aload i_105_0 (L := MO) rfl ?_
  refine mw_aload i_105_1 (L := MO) rfl ?_
  refine mw_callV i_105_2 mf_104 (as := []) (rest := [pR (some MO)]) (d' := d9) (b' := b) (ls0 := [some (pR (some MO))]) rfl rfl rfl (Nat.le_of_ble_eq_true rfl) (MK_o hM) rfl rfl rfl ?_
  refine m_isMend (by omega) hM hm hV (fun I8 hF8 hm8 hRF8 => ?_)
  refine aft_v ?_
  refine mw_const i_105_3 (v := nI 1) (by decide) ?_
  refine mw_const i_105_4 (v := nI 1) (by decide) ?_
  refine mw_callV i_105_5 mf_76 (as := [pI (bI (mOK σ)), pI (nI 1), pI (nI 1)]) (rest := []) (d' := d9) (b' := b) (ls0 := [some (pR (some MO)), some (pI (bI (mOK σ))), some (pI (nI 1)), some (pI (nI 1))]) rfl rfl rfl (Nat.le_of_ble_eq_true rfl) (MK_o hM) rfl rfl rfl ?_
  refine m_goes hM ?_
  rw [show gz (bI (mOK σ)) (nI 1) (nI 1) = gn (mOK σ) True True from by unfold gn; rw [bI_T]]
  obtain ⟨Ig1, eIg1⟩ : ∃ Ig1, Ig1 = up2 I8 MO 28 (nI (gn (mOK σ) True True)) := ⟨_, rfl⟩
  rw [← eIg1]
  refine aft_v ?_
  refine mw_neB i_105_6 rfl (fun c2 => ?_) (fun c2 => ?_)
  · skip
    obtain ⟨p1, p2, p3⟩ := gn_0.mp c2
    refine mw_aload i_105_9 (L := MO) rfl ?_
    obtain ⟨tw, htw4, htw0⟩ := (hV.2.2.2.2.2.1 (dn σ) (by omega)).2.2.2.1 p1.1
    have etw : twn σ (dn σ) = tw := by unfold twn; rw [htw0]; exact nI_clamp (by omega)
    have hRF9 : RF σ Ig1 := by rw [eIg1]; exact RF_28 (hRF8 p1)
    refine mw_callV i_105_10 mf_103 (as := []) (rest := []) (d' := d9) (b' := b) (ls0 := [some (pR (some MO)), none, none, none, none, none, none]) rfl rfl rfl (Nat.le_of_ble_eq_true rfl) (MK_o hM) rfl rfl rfl ?_
    refine m_mends (by omega) hM hV p1.2.2 htw0 htw4 hRF9 (fun I7 hRF7 hF7 hb7 => ?_)
    refine aft_v ?_
    refine mw_pop i_105_11 trivial ?_
    exact m_mend12 (c := bC σ tw) (by omega) hM hV ⟨hRF7.1, hRF7.2.1, hRF7.2.2, hb7, hV.2.2.1.1⟩ p1.2.2 bC_ok.1 (fun _ _ => dig_le) (fun I6 hF6 hm6 => q0 p1 I6 (FrM_tr (FrM_tr ((eIg1.symm ▸ FrM_up (FrM_tr (FrM_rfl) hF8) (by decide))) (FrM_A hF7)) (FrM_A hF6)) (by rw [hF6 MO (by decide)]; exact (by rw [hF7 MO (by decide), eIg1, up2_at, upd_at, c2])) (by unfold meS; rw [etw]; exact hm6) _ (by unfold meK; rw [etw]))
  · skip
    refine mw_const i_105_7 (v := nI 0) (by decide) ?_
    refine mw_iretI i_105_8 (x := nI 0) rt_105 ?_
    have h28 : Ig1 MO 28 = nI (gn (mOK σ) True True) := by rw [eIg1, up2_at, upd_at]
    have hmv : mv Ig1 = σ := by rw [eIg1, mv_o (by decide), hm8]
    have hfr : FrM I Ig1 := (eIg1.symm ▸ FrM_up (FrM_tr (FrM_rfl) hF8) (by decide))
    by_cases p19 : mOK σ
    rotate_left
    · exact q1 p19 Ig1 hfr (h28.trans (by rw [gn_1 p19])) hmv
    exact absurd (gn_t p19 trivial trivial) c2
set_option maxRecDepth 20000 in
set_option maxHeartbeats 400000 in
theorem m_mendingAnew {d b : Nat} {K : KM} {I : IM} {R : RM} {Q : QT} {n0 : Nat} {σ : ST} (hd : 7 ≤ d) (hM : MK K R) (hm : mv I = σ) (hV : IV n0 σ)  (q1 : ¬ (mOK σ) → ∀ I', FrM I I' → I' MO 28 = nI 1 → mv I' = σ → Q (.inl (some (pI (nI 0)))) K I' R) (q0 : mOK σ → ∀ I', FrM I I' → I' MO 28 = nI 0 → mv I' = σ → ∀ v, v = bS σ (twn σ (dn σ)) → Q (.inl (some (pI v))) K I' R) : Mw d b N_X6_mendingAnew 0 [some (pR (some MO))] [] K I R Q := by
  obtain ⟨d9, rfl⟩ : ∃ d9, d = d9 + 1 := ⟨d - 1, by omega⟩
  refine mw_aload i_107_0 (L := MO) rfl ?_
  refine mw_callV i_107_1 mf_106 (as := []) (rest := []) (d' := d9) (b' := b) (ls0 := [some (pR (some MO))]) rfl rfl rfl (Nat.le_of_ble_eq_true rfl) (MK_o hM) rfl rfl rfl ?_
  refine m_mending (by omega) hM hm hV (fun h I9 a b c => ?_) (fun h I9 a b c v hv => ?_)
  · skip
    refine aft_v ?_
    refine mw_iretI i_107_2 (x := nI 0) rt_107 ?_
    exact q1 h I9 a b c
  · skip
    refine aft_v ?_
    refine mw_iretI i_107_2 (x := v) rt_107 ?_
    exact q0 h I9 a b c v hv
