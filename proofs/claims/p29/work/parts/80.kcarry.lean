/-! the mender carries out the best way -/
/-- one place of the best way is carried out -/
noncomputable def stepC (σ : ST) (c : Nat → Nat) (i : Nat) (τ : ST) : ST := @ite _ (c i = pn σ) (Classical.propDecidable _) (@ite _ (Os σ i % 2 = 0 ∧ opn σ (Os σ i + 1)) (Classical.propDecidable _) τ (stS τ (dn σ) (Os σ i / 2))) (ups τ 19 (36 * dn σ + 6 * (Os σ i / 2) + Os σ i % 2) (nI (c i)))
noncomputable def kC (σ : ST) (c : Nat → Nat) (i : Nat) : Nat := @ite _ (c i = pn σ ∧ ¬ (Os σ i % 2 = 0 ∧ opn σ (Os σ i + 1))) (Classical.propDecidable _) 1 0
/-- the places from i on are carried out, the last first -/
noncomputable def cS (σ : ST) (c : Nat → Nat) : Nat → ST
  | 0 => σ
  | j + 1 => stepC σ c (mO σ - 1 - j) (cS σ c j)
noncomputable def cK (σ : ST) (c : Nat → Nat) : Nat → Nat
  | 0 => 0
  | j + 1 => cK σ c j + kC σ c (mO σ - 1 - j)
def MB (σ : ST) (c : Nat → Nat) (I : IM) (R : RM) : Prop := I MEN 11 = nI (mO σ) ∧ (∀ k, k < mO σ → I (MN 2) k = nI (Os σ k)) ∧ (∀ s, s < 2 * mn σ (dn σ) → I (MN 1) s = bI (opn σ s)) ∧ (∀ k, k < mO σ → I (MN 3) k = sv (pn σ) (c k)) ∧ R MEN 9 = some (CA (dn σ)) ∧ R CRD (dn σ) = some (CA (dn σ))
theorem MB_eq {σ : ST} {c : Nat → Nat} {I I' : IM} {R R' : RM} (h : MB σ c I R) (e9 : I' MEN = I MEN) (e : ∀ k, I' (MN k) = I (MN k)) (r9 : R' MEN = R MEN) (r7 : R' CRD = R CRD) : MB σ c I' R' := by
  unfold MB
  rw [e9, e, e, e, r9, r7]
  exact h
theorem RC_seat {n : Nat} {σ : ST} {K : KM} {I : IM} {R : RM} (hW : CW n σ K I R) {x m q : Nat} {v : Int32} (hx : x < 1000) (hy : R CRD x = some (CA x)) (hm : m < mn σ x) (hq : q < 2) : RC (ups σ 19 (36 * x + 6 * m + q) v) (up2 I (MT x (pm R x m)) q v) R := by
  have hall : ∀ d, d < 1000 → mn σ d ≤ 6 := fun d hd => (hW.2.2.2.2.2.2.2.1 d hd).2.1
  have h6 := hall x hx
  have hcx : CO K R x := by
    rcases hW.1.2.2 x hx with ⟨h, -⟩ | ⟨-, h⟩
    · rw [hy] at h; cases h
    · exact h
  refine RC_C hW.2.1 (fun L hL => up2_ne (fun e => by subst e; exact absurd hL (by show ¬ 21 < 19; decide))) (fun k hk => ups_ne (by omega)) (by rw [up2_ne (by simp)]; exact hW.2.1.2.2.2.2.1) (fun d hd => ?_)
  have hc := hW.2.1.2.2.2.2.2 d hd
  by_cases e : d = x
  · subst e
    rcases hc with ⟨c1, -⟩ | ⟨c1, c2, c3, c4, c5⟩
    · rw [hy] at c1; cases c1
    · have em : mn (ups σ 19 (36 * d + 6 * m + q) v) d = mn σ d := by unfold mn; rw [ups_ne (by decide)]
      refine Or.inr ⟨c1, by rw [up2_ne (by simp), ups_ne (by decide)]; exact c2, by rw [up2_ne (by simp), ups_ne (by decide)]; exact c3, fun q => by rw [up2_ne (by simp), ups_ne (by decide)]; exact c4 (em ▸ q), fun j hj => ?_⟩
      rw [em] at hj
      have h9 := c5 j hj
      by_cases ej : j = m
      · subst ej
        unfold RCm at h9 ⊢
        rcases (show q = 0 ∨ q = 1 by omega) with rfl | rfl
        · rw [up2_at, ups_at, upd_at]
          rw [upd_ne (show 1 ≠ 0 by decide), upd_ne (show 2 ≠ 0 by decide), upd_ne (show 3 ≠ 0 by decide), upd_ne (show 4 ≠ 0 by decide), upd_ne (show 5 ≠ 0 by decide), upd_ne (show 36 * d + 6 * j + 1 ≠ 36 * d + 6 * j + 0 by omega), upd_ne (show 36 * d + 6 * j + 2 ≠ 36 * d + 6 * j + 0 by omega), upd_ne (show 36 * d + 6 * j + 3 ≠ 36 * d + 6 * j + 0 by omega), upd_ne (show 36 * d + 6 * j + 4 ≠ 36 * d + 6 * j + 0 by omega), upd_ne (show 36 * d + 6 * j + 5 ≠ 36 * d + 6 * j + 0 by omega)]
          exact ⟨by rw [Nat.add_zero, upd_at], h9.2⟩
        · rw [up2_at, ups_at, upd_at]
          rw [upd_ne (show 0 ≠ 1 by decide), upd_ne (show 2 ≠ 1 by decide), upd_ne (show 3 ≠ 1 by decide), upd_ne (show 4 ≠ 1 by decide), upd_ne (show 5 ≠ 1 by decide), upd_ne (show 36 * d + 6 * j ≠ 36 * d + 6 * j + 1 by omega), upd_ne (show 36 * d + 6 * j + 2 ≠ 36 * d + 6 * j + 1 by omega), upd_ne (show 36 * d + 6 * j + 3 ≠ 36 * d + 6 * j + 1 by omega), upd_ne (show 36 * d + 6 * j + 4 ≠ 36 * d + 6 * j + 1 by omega), upd_ne (show 36 * d + 6 * j + 5 ≠ 36 * d + 6 * j + 1 by omega)]
          exact ⟨h9.1, by rw [upd_at], h9.2.2⟩
      · have hne : pm R d j ≠ pm R d m := fun e9 => ej (hcx.2.2.2.2.2 j m (by omega) (by omega) e9)
        exact RCm_eq2 (up2_ne (by simp [hne])) (fun k hk => by rw [ups_at, upd_ne (by omega)]) h9
  · have := hall d hd
    exact RCc_eq2 hc (hall d hd) rfl rfl (up2_ne (by simp)) (fun j => up2_ne (by simp [e])) (by rw [ups_ne (by decide)]) (by rw [ups_ne (by decide)]) (by rw [ups_ne (by decide)]) (fun k hk => by rw [ups_at, upd_ne (by omega)])
set_option maxRecDepth 20000 in
set_option maxHeartbeats 400000 in
theorem k_co_step {d b : Nat} {K : KM} {I : IM} {R : RM} {Q : QT} {n0 i st : Nat} {σ τ : ST} {c : Nat → Nat} {u3 u4 : Option PV} (hd : 2 ≤ d) (hW : CW n0 τ K I R) (hMB : MB σ c I R) (hO : mO σ ≤ 4) (hmn : mn σ (dn σ) ≤ 6) (hio : i < mO σ) (hci : c i ≤ pn σ) (hp10 : pn σ ≤ 10) (hx : dn σ < 1000) (hM : ¬ (Os σ i % 2 = 0 ∧ opn σ (Os σ i + 1)) → Os σ i / 2 < mn τ (dn σ)) (hM2 : ¬ c i = pn σ → Os σ i / 2 < mn τ (dn σ)) (h22 : τ 22 (dn σ) = nI 0) (hIV : ¬ c i = pn σ → IVm (ups τ 19 (36 * dn σ + 6 * (Os σ i / 2) + Os σ i % 2) (nI (c i))) (dn σ) (Os σ i / 2)) (q : ∀ I' R' u3 u4, CW n0 (stepC σ c i τ) K I' R' → MB σ c I' R' → FrC I I' → FrKR K K R R' → Mw d b N_X2_carryOut 9 [some (pR (some MEN)), some (pI (nI (st + kC σ c i))), some (pI (nI i + Int32.ofInt (-1))), u3, u4] [] K I' R' Q) : Mw d b N_X2_carryOut 9 [some (pR (some MEN)), some (pI (nI st)), some (pI (nI i)), u3, u4] [] K I R Q := by
  obtain ⟨d9, rfl⟩ : ∃ d9, d = d9 + 1 := ⟨d - 1, by omega⟩
  have hS := hW.1.1
  have hV := hW.2.2
  have hy := hMB.2.2.2.2.2
  have hcx : cix R (dn σ) = dn σ := if_neg (by rw [hy]; exact fun q => by cases q)
  have hCW := CW_c hW hx
  rw [hcx] at hCW
  have hC := hCW.1
  have hz := hCW.2.1
  have hz6 := hCW.2.2.1
  have hol := (Os_lt hio).1
  refine mw_iload i_19_9 (x := nI i) rfl ?_
  refine mw_if i_19_10 (p := (nI i) < nI 0) Iff.rfl (fun c1 => ?_) (fun c1 => ?_)
  · skip
    exact absurd c1 (by rw [Int32.lt_iff_toInt_lt, nI_toInt (by omega), nI_toInt (by omega)]; omega)
  · skip
    refine mw_aload i_19_11 (L := MEN) rfl ?_
    refine mw_getR i_19_12 hS.2.1.2.2.2.2 (q := some (MN 2)) (hS.2.2.2.2 2 (by omega)).1 ?_
    refine mw_iload i_19_13 (x := nI i) rfl ?_
    refine mw_iald i_19_14 (jn := i) (n := 4) (by omega) (by omega) (show K (MN 2) = some (7, 4) from (hS.2.2.2.2 2 (by omega)).2) (by decide) (v := nI (Os σ i)) (hMB.2.1 i hio) ?_
    refine mw_istore i_19_15 (ls' := [some (pR (some MEN)), some (pI (nI st)), some (pI (nI i)), some (pI (nI (Os σ i))), u4]) rfl (Nat.le_of_ble_eq_true rfl) ?_
    have J2 : Mw (d9 + 1) b 19 23 [some (pR (some MEN)), some (pI (nI st)), some (pI (nI i)), some (pI (nI (Os σ i))), u4] [pI (bI (Os σ i % 2 = 0))] K I R Q := by
      refine mw_istore i_19_23 (ls' := [some (pR (some MEN)), some (pI (nI st)), some (pI (nI i)), some (pI (nI (Os σ i))), some (pI (bI (Os σ i % 2 = 0)))]) rfl (Nat.le_of_ble_eq_true rfl) ?_
      refine mw_aload i_19_24 (L := MEN) rfl ?_
      refine mw_getR i_19_25 hS.2.1.2.2.2.2 (q := some (MN 3)) (hS.2.2.2.2 3 (by omega)).1 ?_
      refine mw_iload i_19_26 (x := nI i) rfl ?_
      refine mw_iald i_19_27 (jn := i) (n := 4) (by omega) (by omega) (show K (MN 3) = some (7, 4) from (hS.2.2.2.2 3 (by omega)).2) (by decide) (v := sv (pn σ) (c i)) (hMB.2.2.2.1 i hio) ?_
      refine mw_const i_19_28 (v := (-1)) (by decide) ?_
      refine mw_ic i_19_29 (p := ¬ (sv (pn σ) (c i)) = (-1)) Iff.rfl (fun c3 => ?_) (fun c3 => ?_)
      · skip
        have hMn0 := hM2 (fun h => c3 ((sv_iff (by omega)).mpr h))
        refine mw_iload i_19_48 (x := bI (Os σ i % 2 = 0)) rfl ?_
        refine mw_eqB i_19_49 rfl (fun c4 => ?_) (fun c4 => ?_)
        · skip
          refine mw_aload i_19_63 (L := MEN) rfl ?_
          refine mw_getR i_19_64 hS.2.1.2.2.2.2 (q := some (CA (dn σ))) hMB.2.2.2.2.1 ?_
          refine mw_getR i_19_65 hC.1 (q := some (MM (dn σ))) hC.2.1 ?_
          refine mw_iload i_19_66 (x := nI (Os σ i)) rfl ?_
          refine mw_const i_19_67 (v := nI 2) (by decide) ?_
          refine mw_idiv i_19_68 (by decide) (w := nI ((Os σ i) / 2)) (pk_div (by omega) (by omega) (by omega)) ?_
          refine mw_aald i_19_69 (jn := (Os σ i) / 2) (n := 6) (by omega) (by omega) hC.2.2.1 (by decide) (q := some (MT (dn σ) (pm R (dn σ) (Os σ i / 2)))) (hC.2.2.2.2.1 _ (by omega)).2 ?_
          refine mw_aload i_19_70 (L := MEN) rfl ?_
          refine mw_getR i_19_71 hS.2.1.2.2.2.2 (q := some (MN 3)) (hS.2.2.2.2 3 (by omega)).1 ?_
          refine mw_iload i_19_72 (x := nI i) rfl ?_
          refine mw_iald i_19_73 (jn := i) (n := 4) (by omega) (by omega) (show K (MN 3) = some (7, 4) from (hS.2.2.2.2 3 (by omega)).2) (by decide) (v := sv (pn σ) (c i)) (hMB.2.2.2.1 i hio) ?_
          obtain ⟨I25, e25⟩ : ∃ I25, I25 = up2 I (MT (dn σ) (pm R (dn σ) (Os σ i / 2))) 1 (sv (pn σ) (c i)) := ⟨_, rfl⟩
          refine mw_put i_19_74 (x := sv (pn σ) (c i)) (hC.2.2.2.1 _ (hC.2.2.2.2.1 _ (by omega)).1) (I' := I25) e25.symm ?_
          refine mw_iinc i_19_75 (x := nI i) (v := nI i + Int32.ofInt (-1)) (ls' := [some (pR (some MEN)), some (pI (nI st)), some (pI (nI i + Int32.ofInt (-1))), some (pI (nI (Os σ i))), some (pI (bI (Os σ i % 2 = 0)))]) rfl rfl rfl ?_
          refine mw_goto i_19_76 ?_
          have hP : ¬ c i = pn σ := fun h => c3 ((sv_iff (by omega)).mpr h)
          have hMn := hM2 hP
          have em : Os σ i % 2 = 1 := by have := c4; omega
          have es : stepC σ c i τ = ups τ 19 (36 * dn σ + 6 * (Os σ i / 2) + 1) (nI (c i)) := by unfold stepC; rw [if_neg hP, em]
          have ek : kC σ c i = 0 := if_neg (fun h => hP h.1)
          rw [show nI st = nI (st + kC σ c i) by rw [ek, Nat.add_zero]]
          have hv := hIV hP
          rw [em] at hv
          have hr9 := RC_seat (q := 1) (v := sv (pn σ) (c i)) hW hx hy hMn (by omega)
          rw [← e25, sv_n hP] at hr9
          exact q I25 R _ _ (by rw [es]; exact ⟨hW.1, hr9, IV_row hV hx hMn (by omega) (by omega) h22 hv⟩) (MB_eq hMB (by rw [e25]; exact up2_ne (by simp)) (fun k => by rw [e25]; exact up2_ne (by simp)) rfl rfl) (e25.symm ▸ FrC_up FrC_rfl (Nat.le_of_ble_eq_true rfl)) FrKR_rfl
        · skip
          refine mw_aload i_19_50 (L := MEN) rfl ?_
          refine mw_getR i_19_51 hS.2.1.2.2.2.2 (q := some (CA (dn σ))) hMB.2.2.2.2.1 ?_
          refine mw_getR i_19_52 hC.1 (q := some (MM (dn σ))) hC.2.1 ?_
          refine mw_iload i_19_53 (x := nI (Os σ i)) rfl ?_
          refine mw_const i_19_54 (v := nI 2) (by decide) ?_
          refine mw_idiv i_19_55 (by decide) (w := nI ((Os σ i) / 2)) (pk_div (by omega) (by omega) (by omega)) ?_
          refine mw_aald i_19_56 (jn := (Os σ i) / 2) (n := 6) (by omega) (by omega) hC.2.2.1 (by decide) (q := some (MT (dn σ) (pm R (dn σ) (Os σ i / 2)))) (hC.2.2.2.2.1 _ (by omega)).2 ?_
          refine mw_aload i_19_57 (L := MEN) rfl ?_
          refine mw_getR i_19_58 hS.2.1.2.2.2.2 (q := some (MN 3)) (hS.2.2.2.2 3 (by omega)).1 ?_
          refine mw_iload i_19_59 (x := nI i) rfl ?_
          refine mw_iald i_19_60 (jn := i) (n := 4) (by omega) (by omega) (show K (MN 3) = some (7, 4) from (hS.2.2.2.2 3 (by omega)).2) (by decide) (v := sv (pn σ) (c i)) (hMB.2.2.2.1 i hio) ?_
          obtain ⟨I26, e26⟩ : ∃ I26, I26 = up2 I (MT (dn σ) (pm R (dn σ) (Os σ i / 2))) 0 (sv (pn σ) (c i)) := ⟨_, rfl⟩
          refine mw_put i_19_61 (x := sv (pn σ) (c i)) (hC.2.2.2.1 _ (hC.2.2.2.2.1 _ (by omega)).1) (I' := I26) e26.symm ?_
          refine mw_goto i_19_62 ?_
          refine mw_iinc i_19_75 (x := nI i) (v := nI i + Int32.ofInt (-1)) (ls' := [some (pR (some MEN)), some (pI (nI st)), some (pI (nI i + Int32.ofInt (-1))), some (pI (nI (Os σ i))), some (pI (bI (Os σ i % 2 = 0)))]) rfl rfl rfl ?_
          refine mw_goto i_19_76 ?_
          have hP : ¬ c i = pn σ := fun h => c3 ((sv_iff (by omega)).mpr h)
          have hMn := hM2 hP
          have em : Os σ i % 2 = 0 := by have := c4; omega
          have es : stepC σ c i τ = ups τ 19 (36 * dn σ + 6 * (Os σ i / 2) + 0) (nI (c i)) := by unfold stepC; rw [if_neg hP, em]
          have ek : kC σ c i = 0 := if_neg (fun h => hP h.1)
          rw [show nI st = nI (st + kC σ c i) by rw [ek, Nat.add_zero]]
          have hv := hIV hP
          rw [em] at hv
          have hr9 := RC_seat (q := 0) (v := sv (pn σ) (c i)) hW hx hy hMn (by omega)
          rw [← e26, sv_n hP] at hr9
          exact q I26 R _ _ (by rw [es]; exact ⟨hW.1, hr9, IV_row hV hx hMn (by omega) (by omega) h22 hv⟩) (MB_eq hMB (by rw [e26]; exact up2_ne (by simp)) (fun k => by rw [e26]; exact up2_ne (by simp)) rfl rfl) (e26.symm ▸ FrC_up FrC_rfl (Nat.le_of_ble_eq_true rfl)) FrKR_rfl
      · skip
        refine mw_iload i_19_30 (x := bI (Os σ i % 2 = 0)) rfl ?_
        refine mw_eqB i_19_31 rfl (fun c7 => ?_) (fun c7 => ?_)
        · skip
          refine mw_aload i_19_40 (L := MEN) rfl ?_
          refine mw_getR i_19_41 hS.2.1.2.2.2.2 (q := some (CA (dn σ))) hMB.2.2.2.2.1 ?_
          refine mw_iload i_19_42 (x := nI (Os σ i)) rfl ?_
          refine mw_const i_19_43 (v := nI 2) (by decide) ?_
          refine mw_idiv i_19_44 (by decide) (w := nI ((Os σ i) / 2)) (pk_div (by omega) (by omega) (by omega)) ?_
          have hP : c i = pn σ := (sv_iff (by omega)).mp (Classical.not_not.mp c3)
          have hnf : ¬ (Os σ i % 2 = 0 ∧ opn σ (Os σ i + 1)) := fun h => c7 h.1
          have hMn := hM hnf
          refine mw_callV i_19_45 mf_7 (as := [pI (nI ((Os σ i) / 2))]) (rest := []) (d' := d9) (b' := b) (ls0 := [some (pR (some (CA (dn σ)))), some (pI (nI ((Os σ i) / 2))), none, none]) rfl rfl rfl (Nat.le_of_ble_eq_true rfl) hC.1 rfl rfl rfl ?_
          refine k_remove (p := pm R (dn σ)) hC hz hz6 hMn (fun R9 hr9 => ?_)
          refine aft_n ?_
          refine mw_iinc i_19_46 (x := nI st) (v := nI (st + 1)) (ls' := [some (pR (some MEN)), some (pI (nI (st + 1))), some (pI (nI i)), some (pI (nI (Os σ i))), some (pI (bI (Os σ i % 2 = 0)))]) rfl (nI_add _ _) rfl ?_
          refine mw_goto i_19_47 ?_
          refine mw_iinc i_19_75 (x := nI i) (v := nI i + Int32.ofInt (-1)) (ls' := [some (pR (some MEN)), some (pI (nI (st + 1))), some (pI (nI i + Int32.ofInt (-1))), some (pI (nI (Os σ i))), some (pI (bI (Os σ i % 2 = 0)))]) rfl rfl rfl ?_
          refine mw_goto i_19_76 ?_
          have es : stepC σ c i τ = stS τ (dn σ) (Os σ i / 2) := by unfold stepC; rw [if_pos hP, if_neg hnf]
          have ek : kC σ c i = 1 := if_pos ⟨hP, hnf⟩
          obtain ⟨g1, g2, g3⟩ := RC_strike hW hx hy hMn hr9
          have r9 : ∀ L : Lb, L.1 ≠ 20 → R9 L = R L := fun L h9 => hr9.1 L (fun e9 => h9 (by rw [e9]))
          rw [show nI (st + 1) = nI (st + kC σ c i) by rw [ek]]
          exact q _ R9 _ _ (by rw [es]; exact ⟨g1, g3, IV_st hV hx hMn h22⟩) (MB_eq hMB (up2_ne (by simp)) (fun k => up2_ne (by simp)) (r9 MEN (by decide)) (r9 CRD (by decide))) (FrC_up FrC_rfl (Nat.le_of_ble_eq_true rfl)) g2
        · skip
          refine mw_aload i_19_32 (L := MEN) rfl ?_
          refine mw_getR i_19_33 hS.2.1.2.2.2.2 (q := some (MN 1)) (hS.2.2.2.2 1 (by omega)).1 ?_
          refine mw_iload i_19_34 (x := nI (Os σ i)) rfl ?_
          refine mw_const i_19_35 (v := nI 1) (by decide) ?_
          refine mw_iadd i_19_36 (w := nI (Os σ i + 1)) (nI_add _ _) ?_
          refine mw_bald i_19_37 (jn := Os σ i + 1) (n := 12) (by omega) (by omega) (show K (MN 1) = some (8, 12) from (hS.2.2.2.2 1 (by omega)).2) (v := bI (opn σ (Os σ i + 1))) (hMB.2.2.1 _ (by omega)) ?_
          refine mw_eqB i_19_38 rfl (fun c8 => ?_) (fun c8 => ?_)
          · skip
            refine mw_aload i_19_40 (L := MEN) rfl ?_
            refine mw_getR i_19_41 hS.2.1.2.2.2.2 (q := some (CA (dn σ))) hMB.2.2.2.2.1 ?_
            refine mw_iload i_19_42 (x := nI (Os σ i)) rfl ?_
            refine mw_const i_19_43 (v := nI 2) (by decide) ?_
            refine mw_idiv i_19_44 (by decide) (w := nI ((Os σ i) / 2)) (pk_div (by omega) (by omega) (by omega)) ?_
            have hP : c i = pn σ := (sv_iff (by omega)).mp (Classical.not_not.mp c3)
            have hnf : ¬ (Os σ i % 2 = 0 ∧ opn σ (Os σ i + 1)) := fun h => c8 h.2
            have hMn := hM hnf
            refine mw_callV i_19_45 mf_7 (as := [pI (nI ((Os σ i) / 2))]) (rest := []) (d' := d9) (b' := b) (ls0 := [some (pR (some (CA (dn σ)))), some (pI (nI ((Os σ i) / 2))), none, none]) rfl rfl rfl (Nat.le_of_ble_eq_true rfl) hC.1 rfl rfl rfl ?_
            refine k_remove (p := pm R (dn σ)) hC hz hz6 hMn (fun R9 hr9 => ?_)
            refine aft_n ?_
            refine mw_iinc i_19_46 (x := nI st) (v := nI (st + 1)) (ls' := [some (pR (some MEN)), some (pI (nI (st + 1))), some (pI (nI i)), some (pI (nI (Os σ i))), some (pI (bI (Os σ i % 2 = 0)))]) rfl (nI_add _ _) rfl ?_
            refine mw_goto i_19_47 ?_
            refine mw_iinc i_19_75 (x := nI i) (v := nI i + Int32.ofInt (-1)) (ls' := [some (pR (some MEN)), some (pI (nI (st + 1))), some (pI (nI i + Int32.ofInt (-1))), some (pI (nI (Os σ i))), some (pI (bI (Os σ i % 2 = 0)))]) rfl rfl rfl ?_
            refine mw_goto i_19_76 ?_
            have es : stepC σ c i τ = stS τ (dn σ) (Os σ i / 2) := by unfold stepC; rw [if_pos hP, if_neg hnf]
            have ek : kC σ c i = 1 := if_pos ⟨hP, hnf⟩
            obtain ⟨g1, g2, g3⟩ := RC_strike hW hx hy hMn hr9
            have r9 : ∀ L : Lb, L.1 ≠ 20 → R9 L = R L := fun L h9 => hr9.1 L (fun e9 => h9 (by rw [e9]))
            rw [show nI (st + 1) = nI (st + kC σ c i) by rw [ek]]
            exact q _ R9 _ _ (by rw [es]; exact ⟨g1, g3, IV_st hV hx hMn h22⟩) (MB_eq hMB (up2_ne (by simp)) (fun k => up2_ne (by simp)) (r9 MEN (by decide)) (r9 CRD (by decide))) (FrC_up FrC_rfl (Nat.le_of_ble_eq_true rfl)) g2
          · skip
            refine mw_goto i_19_39 ?_
            refine mw_iinc i_19_75 (x := nI i) (v := nI i + Int32.ofInt (-1)) (ls' := [some (pR (some MEN)), some (pI (nI st)), some (pI (nI i + Int32.ofInt (-1))), some (pI (nI (Os σ i))), some (pI (bI (Os σ i % 2 = 0)))]) rfl rfl rfl ?_
            refine mw_goto i_19_76 ?_
            have hP : c i = pn σ := (sv_iff (by omega)).mp (Classical.not_not.mp c3)
            have hpf : Os σ i % 2 = 0 ∧ opn σ (Os σ i + 1) := ⟨c7, c8⟩
            have es : stepC σ c i τ = τ := by unfold stepC; rw [if_pos hP, if_pos hpf]
            have ek : kC σ c i = 0 := if_neg (fun h => h.2 hpf)
            rw [show nI st = nI (st + kC σ c i) by rw [ek, Nat.add_zero]]
            exact q I R _ _ (by rw [es]; exact hW) hMB FrC_rfl FrKR_rfl
    refine mw_iload i_19_16 (x := nI (Os σ i)) rfl ?_
    refine mw_const i_19_17 (v := nI 2) (by decide) ?_
    refine mw_irem i_19_18 (by decide) (w := nI ((Os σ i) % 2)) (pk_rem (by omega) (by omega) (by omega)) ?_
    refine mw_if i_19_19 (p := ¬ (nI ((Os σ i) % 2)) = nI 0) Iff.rfl (fun c9 => ?_) (fun c9 => ?_)
    · skip
      refine mw_const i_19_22 (v := nI 0) (by decide) ?_
      rw [show nI 0 = bI (Os σ i % 2 = 0) from (bI_f ((fun h9 => c9 (by rw [h9])))).symm]
      exact J2
    · skip
      refine mw_const i_19_20 (v := nI 1) (by decide) ?_
      refine mw_goto i_19_21 ?_
      rw [show nI 1 = bI (Os σ i % 2 = 0) from (bI_t ((nI_inj (Classical.not_not.mp c9) (by omega) (by omega)))).symm]
      exact J2
set_option maxRecDepth 20000 in
set_option maxHeartbeats 400000 in
theorem k_co_end {d b : Nat} {K : KM} {I : IM} {R : RM} {Q : QT} {st : Nat} {u3 u4 : Option PV}  (q : Q (.inl (some (pI (nI st)))) K I R) : Mw d b N_X2_carryOut 9 [some (pR (some MEN)), some (pI (nI st)), some (pI (-1)), u3, u4] [] K I R Q := by
  refine mw_iload i_19_9 (x := (-1)) rfl ?_
  refine mw_if i_19_10 (p := (-1) < nI 0) Iff.rfl (fun c1 => ?_) (fun c1 => ?_)
  · skip
    refine mw_iload i_19_77 (x := nI st) rfl ?_
    refine mw_iretI i_19_78 (x := nI st) rt_19 ?_
    exact q
  · skip
    exact absurd (show (-1 : Int32) < nI 0 by decide) c1
