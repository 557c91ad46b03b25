/-! the class strikes -/
def RV (c : Nat) (p : Nat → Nat) (num i : Nat) (R0 R : RM) : Prop := (∀ L, L ≠ MM c → R L = R0 L) ∧ ∀ j, j < 6 → R (MM c) j = some (MT c (if num ≤ j ∧ j < i then p (j + 1) else p j))
def rp (p : Nat → Nat) (num sz j : Nat) : Nat := if j < num then p j else if j + 1 < sz then p (j + 1) else if j + 1 = sz then p num else p j
def RMV (c : Nat) (p : Nat → Nat) (num sz : Nat) (R0 R : RM) : Prop := (∀ L, L ≠ MM c → R L = R0 L) ∧ ∀ j, j < 6 → R (MM c) j = some (MT c (rp p num sz j))
theorem RV_rd {c : Nat} {p : Nat → Nat} {num i : Nat} {R0 R : RM} (h : RV c p num i R0 R) {j : Nat} (hj : j < 6) (hi : i ≤ j) : R (MM c) j = some (MT c (p j)) := by
  rw [h.2 j hj, if_neg (by omega)]
theorem RV_step {c : Nat} {p : Nat → Nat} {num i : Nat} {R0 R : RM} (h : RV c p num i R0 R) (hn : num ≤ i) : RV c p num (i + 1) R0 (up2R R (MM c) i (some (MT c (p (i + 1))))) := by
  refine ⟨fun L hL => by rw [up2R_ne hL]; exact h.1 L hL, fun j hj => ?_⟩
  by_cases e : j = i
  · subst e
    rw [up2R_is, if_pos (by omega)]
  · rw [up2R_slot e, h.2 j hj]
    by_cases e2 : num ≤ j ∧ j < i
    · rw [if_pos e2, if_pos (by omega)]
    · rw [if_neg e2, if_neg (by omega)]
theorem RV_end {c : Nat} {p : Nat → Nat} {num sz : Nat} {R0 R : RM} (h : RV c p num (sz - 1) R0 R) (hn : num < sz) : RMV c p num sz R0 (up2R R (MM c) (sz - 1) (some (MT c (p num)))) := by
  refine ⟨fun L hL => by rw [up2R_ne hL]; exact h.1 L hL, fun j hj => ?_⟩
  unfold rp
  by_cases e : j = sz - 1
  · subst e
    rw [up2R_is, if_neg (by omega), if_neg (by omega), if_pos (by omega)]
  · rw [up2R_slot e, h.2 j hj]
    by_cases e2 : num ≤ j ∧ j < sz - 1
    · rw [if_pos e2, if_neg (by omega), if_pos (by omega)]
    · rw [if_neg e2]
      by_cases e3 : j < num
      · rw [if_pos e3]
      · rw [if_neg e3, if_neg (by omega), if_neg (by omega)]
theorem RMV_CO {K : KM} {R R' : RM} {c num sz : Nat} (h : CO K R c) (hr : RMV c (pm R c) num sz R R') (hn : num < sz) (hs : sz ≤ 6) : CO K R' c ∧ ∀ j, j < 6 → pm R' c j = rp (pm R c) num sz j := by
  obtain ⟨h1, h2, h3, h4, h5, h6⟩ := h
  have hp : ∀ j, j < 6 → pm R' c j = rp (pm R c) num sz j := fun j hj => by unfold pm; rw [hr.2 j hj]; rfl
  have hrp : ∀ j, j < 6 → ∃ k, k < 6 ∧ rp (pm R c) num sz j = pm R c k ∧ k = (if j < num then j else if j + 1 < sz then j + 1 else if j + 1 = sz then num else j) := fun j hj => by
    unfold rp
    by_cases e1 : j < num
    · exact ⟨j, hj, by rw [if_pos e1], by rw [if_pos e1]⟩
    · by_cases e2 : j + 1 < sz
      · exact ⟨j + 1, by omega, by rw [if_neg e1, if_pos e2], by rw [if_neg e1, if_pos e2]⟩
      · by_cases e3 : j + 1 = sz
        · exact ⟨num, by omega, by rw [if_neg e1, if_neg e2, if_pos e3], by rw [if_neg e1, if_neg e2, if_pos e3]⟩
        · exact ⟨j, hj, by rw [if_neg e1, if_neg e2, if_neg e3], by rw [if_neg e1, if_neg e2, if_neg e3]⟩
  refine ⟨CO_of (p := rp (pm R c) num sz) ⟨h1, by rw [hr.1 (CA c) (by simp)]; exact h2, h3, h4, fun j hj => ⟨?_, hr.2 j hj⟩, fun i j hi hj e => ?_⟩, hp⟩
  · obtain ⟨k, hk, e, -⟩ := hrp j hj
    rw [e]; exact (h5 k hk).1
  · obtain ⟨k1, hk1, e1, f1⟩ := hrp i hi
    obtain ⟨k2, hk2, e2, f2⟩ := hrp j hj
    rw [e1, e2] at e
    have ek := h6 k1 k2 hk1 hk2 e
    rw [f1, f2] at ek
    clear f1 f2 e1 e2 e hrp hp
    (repeat' split at ek) <;> omega
/-- a match less on a card -/
def stS (σ : ST) (x m : Nat) : ST := ups (fun k => if k = 19 then (fun j => if 36 * x + 6 * m ≤ j ∧ j < 36 * x + 6 * (mn σ x - 1) then σ 19 (j + 6) else σ 19 j) else σ k) 20 x (nI (mn σ x - 1))
theorem stS_o {σ : ST} {x m k : Nat} (h : k ≠ 19) (h2 : k ≠ 20) : stS σ x m k = σ k := by
  unfold stS
  rw [ups_ne h2, if_neg h]
theorem stS_20 {σ : ST} {x m : Nat} : stS σ x m 20 = upd (σ 20) x (nI (mn σ x - 1)) := by
  unfold stS
  rw [ups_at, if_neg (by decide)]
theorem stS_19 {σ : ST} {x m j : Nat} : stS σ x m 19 j = if 36 * x + 6 * m ≤ j ∧ j < 36 * x + 6 * (mn σ x - 1) then σ 19 (j + 6) else σ 19 j := by
  unfold stS
  rw [ups_ne (by decide), if_pos rfl]
theorem RC_strike {n : Nat} {σ : ST} {K : KM} {I : IM} {R R' : RM} (hW : CW n σ K I R) {x m : Nat} (hx : x < 1000) (hy : R CRD x = some (CA x)) (hm : m < mn σ x) (hr : RMV x (pm R x) m (mn σ x) R R') : CSX K R' ∧ FrKR K K R R' ∧ RC (stS σ x m) (up2 I (CA x) 2 (nI (mn σ x - 1))) R' := by
  have hall : ∀ d, d < 1000 → mn σ d ≤ 6 := fun d hd => (hW.2.2.2.2.2.2.2.1 d hd).2.1
  have hcx : CO K R x := by
    rcases hW.1.2.2 x hx with ⟨h, -⟩ | ⟨-, h⟩
    · rw [hy] at h; cases h
    · exact h
  have h6 := hall x hx
  obtain ⟨g1, g2⟩ := RMV_CO hcx hr hm h6
  have co : ∀ c, c ≠ x → CO K R c → CO K R' c := fun c hc q => CO_eq q rfl (hr.1 _ (by simp)) rfl (hr.1 _ (by simp [hc])) (fun _ => rfl)
  refine ⟨⟨CS0_eq hW.1.1 (fun _ _ => rfl) (fun L hL _ => hr.1 L (fun e => by subst e; exact absurd hL (by show ¬ 20 < 19; decide))), co 1000 (by omega) hW.1.2.1, fun c hc => ?_⟩, fun L hL => ⟨rfl, hr.1 L (fun e => by subst e; exact absurd hL (by show ¬ 20 < 4; decide))⟩, ?_⟩
  · have e0 : R' CRD c = R CRD c := by rw [hr.1 CRD (by simp)]
    rw [e0]
    rcases hW.1.2.2 c hc with h | ⟨h1, h2⟩
    · exact Or.inl h
    · refine Or.inr ⟨h1, ?_⟩
      by_cases e : c = x
      · subst e; exact g1
      · exact co c e h2
  · refine RC_C hW.2.1 (fun L hL => up2_ne (fun e => by subst e; exact absurd hL (by show ¬ 19 < 19; decide))) (fun k hk => stS_o (by omega) (by omega)) (by rw [up2_ne (by simp; omega)]; exact hW.2.1.2.2.2.2.1) (fun d hd => ?_)
    have hc := hW.2.1.2.2.2.2.2 d hd
    by_cases e : d = x
    · subst e
      rcases hc with ⟨c1, -⟩ | ⟨c1, c2, c3, c4, c5⟩
      · rw [hy] at c1; cases c1
      · have em : mn (stS σ d m) d = mn σ d - 1 := by
          have hb : mn σ d - 1 < 2147483648 := by omega
          show (stS σ d m 20 d).toNatClampNeg = _
          rw [stS_20, upd_at, nI_clamp hb]
        refine Or.inr ⟨by rw [hr.1 CRD (by simp)]; exact c1, ?_, ?_, fun _ => ?_, fun j hj => ?_⟩
        · rw [up2_at, upd_at, stS_20, upd_at]
        · rw [up2_at, upd_ne (by decide), stS_o (by decide) (by decide)]; exact c3
        · rw [up2_at, upd_ne (by decide), stS_o (by decide) (by decide)]; exact c4 (by omega)
        · rw [em] at hj
          rw [g2 j (by omega)]
          unfold rp
          by_cases e1 : j < m
          · rw [if_pos e1]
            exact RCm_eq2 (up2_ne (by simp)) (fun k hk => by rw [stS_19, if_neg (by omega)]) (c5 j (by omega))
          · rw [if_neg e1, if_pos (by omega)]
            have h9 := c5 (j + 1) (by omega)
            unfold RCm at h9 ⊢
            rw [up2_ne (by simp), stS_19, stS_19, stS_19, stS_19, stS_19, stS_19, if_pos (by omega), if_pos (by omega), if_pos (by omega), if_pos (by omega), if_pos (by omega), if_pos (by omega)]
            exact h9
    · refine RCc_eq2 hc (hall d hd) (by rw [hr.1 CRD (by simp)]) (hr.1 _ (by simp [e])) (up2_ne (by simp [e])) (fun j => up2_ne (by simp)) (by rw [stS_20, upd_ne e]) (by rw [stS_o (by decide) (by decide)]) (by rw [stS_o (by decide) (by decide)]) (fun k hk => ?_)
      rw [stS_19, if_neg (by omega)]
set_option maxRecDepth 20000 in
set_option maxHeartbeats 400000 in
theorem k_remove_lp {d : Nat} {b : Nat} {K : KM} {I : IM} {Q : QT} {c sz num : Nat} {p : Nat → Nat} {R0 : RM} (hC : COp K R0 c p) (hz : I (CA c) 2 = nI sz) (hsz : sz ≤ 6) (hnum : num < sz) (q : ∀ R', RMV c p num sz R0 R' → Q (.inl none) K (up2 I (CA c) 2 (nI (sz - 1))) R') : ∀ (n i : Nat) (R : RM), (sz - 1) - i < n → i ≤ (sz - 1) → (num ≤ i) → (RV c p num i R0 R) → Mw d b N_X0_remove 7 [some (pR (some (CA c))), some (pI (nI num)), some (pR (some (MT c (p num)))), some (pI (nI i))] [] K I R Q := by
  intro n
  induction n with
  | zero => intro i R  hn; exact absurd hn (Nat.not_lt_zero _)
  | succ n ih =>
    intro i R  hn hi hni hv
    refine mw_iload i_7_7 (x := nI i) rfl ?_
    refine mw_aload i_7_8 (L := CA c) rfl ?_
    refine mw_get i_7_9 hC.1 (v := nI sz) hz ?_
    refine mw_const i_7_10 (v := nI 1) (by decide) ?_
    refine mw_isub i_7_11 (w := nI (sz - 1)) (pk_sub (by omega)) ?_
    refine mw_ic i_7_12 (p := (sz - 1) ≤ i) (nI_leI (by omega) (by omega)) (fun c1 => ?_) (fun c1 => ?_)
    · skip
      refine mw_aload i_7_25 (L := CA c) rfl ?_
      refine mw_getR i_7_26 hC.1 (q := some (MM c)) ((congrFun (hv.1 (CA c) (by simp)) 0).trans hC.2.1) ?_
      refine mw_aload i_7_27 (L := CA c) rfl ?_
      refine mw_get i_7_28 hC.1 (v := nI sz) hz ?_
      refine mw_const i_7_29 (v := nI 1) (by decide) ?_
      refine mw_isub i_7_30 (w := nI (sz - 1)) (pk_sub (by omega)) ?_
      refine mw_aload i_7_31 (L := MT c (p num)) rfl ?_
      obtain ⟨R22, eR22⟩ : ∃ R22, R22 = up2R R (MM c) (sz - 1) (some (MT c (p num))) := ⟨_, rfl⟩
      refine mw_aast i_7_32 (jn := sz - 1) (n := 6) (by omega) (by omega) hC.2.2.1 (by decide) (hC.2.2.2.1 _ (hC.2.2.2.2.1 num (by omega)).1) (R' := R22) eR22.symm ?_
      refine mw_aload i_7_33 (L := CA c) rfl ?_
      refine mw_dup i_7_34 trivial ?_
      refine mw_get i_7_35 hC.1 (v := nI sz) hz ?_
      refine mw_const i_7_36 (v := nI 1) (by decide) ?_
      refine mw_isub i_7_37 (w := nI (sz - 1)) (pk_sub (by omega)) ?_
      obtain ⟨I23, e23⟩ : ∃ I23, I23 = up2 I (CA c) 2 (nI (sz - 1)) := ⟨_, rfl⟩
      refine mw_put i_7_38 (x := nI (sz - 1)) hC.1 (I' := I23) e23.symm ?_
      refine mw_ret i_7_39 ?_
      obtain rfl : i = sz - 1 := by omega
      rw [e23]
      exact q _ (by rw [eR22]; exact RV_end hv hnum)
    · skip
      refine mw_aload i_7_13 (L := CA c) rfl ?_
      refine mw_getR i_7_14 hC.1 (q := some (MM c)) ((congrFun (hv.1 (CA c) (by simp)) 0).trans hC.2.1) ?_
      refine mw_iload i_7_15 (x := nI i) rfl ?_
      refine mw_aload i_7_16 (L := CA c) rfl ?_
      refine mw_getR i_7_17 hC.1 (q := some (MM c)) ((congrFun (hv.1 (CA c) (by simp)) 0).trans hC.2.1) ?_
      refine mw_iload i_7_18 (x := nI i) rfl ?_
      refine mw_const i_7_19 (v := nI 1) (by decide) ?_
      refine mw_iadd i_7_20 (w := nI (i + 1)) (nI_add _ _) ?_
      refine mw_aald i_7_21 (jn := i + 1) (n := 6) (by omega) (by omega) hC.2.2.1 (by decide) (q := some (MT c (p (i + 1)))) (RV_rd hv (by omega) (by omega)) ?_
      obtain ⟨R24, eR24⟩ : ∃ R24, R24 = up2R R (MM c) i (some (MT c (p (i + 1)))) := ⟨_, rfl⟩
      refine mw_aast i_7_22 (jn := i) (n := 6) (by omega) (by omega) hC.2.2.1 (by decide) (hC.2.2.2.1 _ (hC.2.2.2.2.1 (i + 1) (by omega)).1) (R' := R24) eR24.symm ?_
      refine mw_iinc i_7_23 (x := nI i) (v := nI (i + 1)) (ls' := [some (pR (some (CA c))), some (pI (nI num)), some (pR (some (MT c (p num)))), some (pI (nI (i + 1)))]) rfl (nI_add _ _) rfl ?_
      refine mw_goto i_7_24 ?_
      exact ih (i + 1) _ (by omega) (by omega) (by omega) (by rw [eR24]; exact RV_step hv hni)
set_option maxRecDepth 20000 in
set_option maxHeartbeats 400000 in
theorem k_remove {d b : Nat} {K : KM} {I : IM} {R : RM} {Q : QT} {c sz num : Nat} {p : Nat → Nat} (hC : COp K R c p) (hz : I (CA c) 2 = nI sz) (hsz : sz ≤ 6) (hnum : num < sz) (q : ∀ R', RMV c p num sz R R' → Q (.inl none) K (up2 I (CA c) 2 (nI (sz - 1))) R') : Mw d b N_X0_remove 0 [some (pR (some (CA c))), some (pI (nI num)), none, none] [] K I R Q := by
  refine mw_aload i_7_0 (L := CA c) rfl ?_
  refine mw_getR i_7_1 hC.1 (q := some (MM c)) hC.2.1 ?_
  refine mw_iload i_7_2 (x := nI num) rfl ?_
  refine mw_aald i_7_3 (jn := num) (n := 6) (by omega) (by omega) hC.2.2.1 (by decide) (q := some (MT c (p num))) (hC.2.2.2.2.1 num (by omega)).2 ?_
  refine mw_astore i_7_4 (ls' := [some (pR (some (CA c))), some (pI (nI num)), some (pR (some (MT c (p num)))), none]) rfl (Nat.le_of_ble_eq_true rfl) ?_
  refine mw_iload i_7_5 (x := nI num) rfl ?_
  refine mw_istore i_7_6 (ls' := [some (pR (some (CA c))), some (pI (nI num)), some (pR (some (MT c (p num)))), some (pI (nI num))]) rfl (Nat.le_of_ble_eq_true rfl) ?_
  exact k_remove_lp hC hz hsz hnum q (sz + 1) num R (by omega) (by omega) (Nat.le_refl _) ⟨fun _ _ => rfl, fun j hj => by rw [if_neg (by omega)]; exact (hC.2.2.2.2.1 j hj).2⟩
theorem cix_y {n x : Nat} {σ : ST} {K : KM} {I : IM} {R : RM} (h : CW n σ K I R) (hx : x < 1000) (h0 : mn σ x ≠ 0) : R CRD x = some (CA x) ∧ cix R x = x := by
  have h1 := ((CW_c h hx).2.2.2.2.1 h0).1
  rcases h.1.2.2 x hx with ⟨h2, -⟩ | ⟨h2, -⟩
  · rw [show cix R x = 1000 from if_pos h2] at h1
    omega
  · exact ⟨h2, h1⟩
theorem RC_shoot {n : Nat} {σ : ST} {K : KM} {I : IM} {R : RM} (hW : CW n σ K I R) {x m : Nat} (hx : x < 1000) (hy : R CRD x = some (CA x)) (hm : m < mn σ x) : RC (ups σ 19 (36 * x + 6 * m + 5) (nI 1)) (up2 I (MT x (pm R x m)) 5 (nI 1)) R := by
  have hall : ∀ d, d < 1000 → mn σ d ≤ 6 := fun d hd => (hW.2.2.2.2.2.2.2.1 d hd).2.1
  have h6 := hall x hx
  have hcx : CO K R x := by
    rcases hW.1.2.2 x hx with ⟨h, -⟩ | ⟨-, h⟩
    · rw [hy] at h; cases h
    · exact h
  refine RC_C hW.2.1 (fun L hL => up2_ne (fun e => by subst e; exact absurd hL (by show ¬ 21 < 19; decide))) (fun k hk => ups_ne (by omega)) (by rw [up2_ne (by simp)]; exact hW.2.1.2.2.2.2.1) (fun d hd => ?_)
  have hc := hW.2.1.2.2.2.2.2 d hd
  by_cases e : d = x
  · subst e
    rcases hc with ⟨c1, -⟩ | ⟨c1, c2, c3, c4, c5⟩
    · rw [hy] at c1; cases c1
    · have em : mn (ups σ 19 (36 * d + 6 * m + 5) (nI 1)) d = mn σ d := by unfold mn; rw [ups_ne (by decide)]
      refine Or.inr ⟨c1, by rw [up2_ne (by simp), ups_ne (by decide)]; exact c2, by rw [up2_ne (by simp), ups_ne (by decide)]; exact c3, fun q => by rw [up2_ne (by simp), ups_ne (by decide)]; exact c4 (em ▸ q), fun j hj => ?_⟩
      rw [em] at hj
      have h9 := c5 j hj
      by_cases ej : j = m
      · subst ej
        unfold RCm at h9 ⊢
        rw [up2_at, ups_at, upd_at, upd_at, upd_ne (by omega), upd_ne (by omega), upd_ne (by omega), upd_ne (by omega), upd_ne (by omega), upd_ne (by omega), upd_ne (by omega), upd_ne (by omega), upd_ne (by omega), upd_ne (by omega)]
        exact ⟨h9.1, h9.2.1, h9.2.2.1, h9.2.2.2.1, h9.2.2.2.2.1, rfl⟩
      · have hne : pm R d j ≠ pm R d m := fun e9 => ej (hcx.2.2.2.2.2 j m (by omega) (by omega) e9)
        exact RCm_eq2 (up2_ne (by simp [hne])) (fun k hk => by rw [ups_at, upd_ne (by omega)]) h9
  · have := hall d hd
    exact RCc_eq2 hc (hall d hd) rfl rfl (up2_ne (by simp)) (fun j => up2_ne (by simp [e])) (by rw [ups_ne (by decide)]) (by rw [ups_ne (by decide)]) (by rw [ups_ne (by decide)]) (fun k hk => by rw [ups_at, upd_ne (by omega)])
set_option maxRecDepth 20000 in
set_option maxHeartbeats 400000 in
theorem k_strike_o {d b : Nat} {K : KM} {I : IM} {R : RM} {Q : QT} {n : Nat} {σ : ST} {day ma : Int32} (hd : 8 ≤ d) (hW : CW n σ K I R) (hb : 7 ≤ b) (hx : ¬ isN day 1000) (q : Q (.inr 3) K I R) : Mw d b N_X5_strike 0 [some (pR (some RING)), some (pI day), some (pI ma), none] [] K I R Q := by
  obtain ⟨d9, rfl⟩ : ∃ d9, d = d9 + 1 := ⟨d - 1, by omega⟩
  have hS := hW.1.1
  have hR := hW.2.1
  have hV := hW.2.2
  have hpp := hW.2.2.1.2
  have htt := hW.2.2.2.1.2
  have hdd := hW.2.2.2.2.1.2
  refine mw_aload i_38_0 (L := RING) rfl ?_
  refine mw_iload i_38_1 (x := day) rfl ?_
  refine mw_callV i_38_2 mf_63 (as := [pI day]) (rest := []) (d' := d9) (b' := b) (ls0 := [some (pR (some RING)), some (pI day)]) rfl rfl rfl (Nat.le_of_ble_eq_true rfl) hS.1.1 rfl rfl rfl ?_
  refine k_cardOf_o (by omega) hS hx ?_
  refine aft_v ?_
  refine mw_astore i_38_3 (ls' := [some (pR (some RING)), some (pI day), some (pI ma), some (pR (some (CA 1000)))]) rfl (Nat.le_of_ble_eq_true rfl) ?_
  refine mw_aload i_38_4 (L := CA 1000) rfl ?_
  refine mw_iload i_38_5 (x := ma) rfl ?_
  refine mw_callV i_38_6 mf_1 (as := [pI ma]) (rest := []) (d' := d9) (b' := b) (ls0 := [some (pR (some (CA 1000))), some (pI ma)]) rfl rfl rfl (Nat.le_of_ble_eq_true rfl) hW.1.2.1.1 rfl rfl rfl ?_
  refine k_hasMatch (p := pm R 1000) (sz := 0) hW.1.2.1 hR.2.2.2.2.1.1 (by decide) ?_
  refine aft_v ?_
  refine mw_neB i_38_7 rfl (fun c1 => ?_) (fun c1 => ?_)
  · skip
    obtain ⟨j_ma, h_ma, rfl⟩ := c1
    exact absurd h_ma (Nat.not_lt_zero _)
  · skip
    refine mw_throw i_38_8 hx_38 (by omega) (by omega) ?_
    exact q
set_option maxRecDepth 20000 in
set_option maxHeartbeats 400000 in
theorem k_strike_i {d b : Nat} {K : KM} {I : IM} {R : RM} {Q : QT} {n x : Nat} {σ : ST} {ma : Int32} (hd : 8 ≤ d) (hW : CW n σ K I R) (hb : 7 ≤ b) (hx : x < 1000) (q1 : ¬ isN ma (mn σ x) → Q (.inr 3) K I R) (q2 : ∀ m, m < mn σ x → ma = nI m → ¬ σ 22 x = nI 0 → Q (.inr 2) K I R) (q0 : ∀ m, m < mn σ x → ma = nI m → σ 22 x = nI 0 → ∀ I' R', CSX K R' → FrKR K K R R' → FrC I I' → RC (stS σ x m) I' R' → Q (.inl (some (pI (nI (mn σ x - 1))))) K I' R') : Mw d b N_X5_strike 0 [some (pR (some RING)), some (pI (nI x)), some (pI ma), none] [] K I R Q := by
  obtain ⟨d9, rfl⟩ : ∃ d9, d = d9 + 1 := ⟨d - 1, by omega⟩
  have hS := hW.1.1
  have hR := hW.2.1
  have hV := hW.2.2
  have hpp := hW.2.2.1.2
  have htt := hW.2.2.2.1.2
  have hdd := hW.2.2.2.2.1.2
  refine mw_aload i_38_0 (L := RING) rfl ?_
  refine mw_iload i_38_1 (x := nI x) rfl ?_
  obtain ⟨hC_x, hz_x, hz6_x, hp_x, ht0_x, hm_x⟩ := CW_c hW (d := x) (by omega)
  refine mw_callV i_38_2 mf_63 (as := [pI (nI x)]) (rest := []) (d' := d9) (b' := b) (ls0 := [some (pR (some RING)), some (pI (nI x))]) rfl rfl rfl (Nat.le_of_ble_eq_true rfl) hS.1.1 rfl rfl rfl ?_
  refine k_cardOf (by omega) hW.1 (by omega) ?_
  refine aft_v ?_
  refine mw_astore i_38_3 (ls' := [some (pR (some RING)), some (pI (nI x)), some (pI ma), some (pR (some (CA (cix R x))))]) rfl (Nat.le_of_ble_eq_true rfl) ?_
  refine mw_aload i_38_4 (L := CA (cix R x)) rfl ?_
  refine mw_iload i_38_5 (x := ma) rfl ?_
  refine mw_callV i_38_6 mf_1 (as := [pI ma]) (rest := []) (d' := d9) (b' := b) (ls0 := [some (pR (some (CA (cix R x)))), some (pI ma)]) rfl rfl rfl (Nat.le_of_ble_eq_true rfl) hC_x.1 rfl rfl rfl ?_
  refine k_hasMatch hC_x hz_x hz6_x ?_
  refine aft_v ?_
  refine mw_neB i_38_7 rfl (fun c1 => ?_) (fun c1 => ?_)
  · skip
    obtain ⟨j_ma, h_ma, rfl⟩ := c1
    refine mw_aload i_38_13 (L := CA (cix R x)) rfl ?_
    refine mw_get i_38_14 hC_x.1 (v := σ 22 x) hp_x ?_
    refine mw_if i_38_15 (p := (σ 22 x) = nI 0) Iff.rfl (fun c2 => ?_) (fun c2 => ?_)
    · skip
      refine mw_aload i_38_21 (L := CA (cix R x)) rfl ?_
      refine mw_iload i_38_22 (x := nI j_ma) rfl ?_
      refine mw_callV i_38_23 mf_7 (as := [pI (nI j_ma)]) (rest := []) (d' := d9) (b' := b) (ls0 := [some (pR (some (CA (cix R x)))), some (pI (nI j_ma)), none, none]) rfl rfl rfl (Nat.le_of_ble_eq_true rfl) hC_x.1 rfl rfl rfl ?_
      refine k_remove hC_x hz_x hz6_x h_ma ?_
      intro R9 hr9
      refine aft_n ?_
      refine mw_aload i_38_24 (L := CA (cix R x)) rfl ?_
      refine mw_get i_38_25 hC_x.1 (v := nI (mn σ x - 1)) (by rw [up2_at, upd_at]) ?_
      refine mw_iretI i_38_26 (x := nI (mn σ x - 1)) rt_38 ?_
      obtain ⟨hy, hcx⟩ := cix_y hW hx (by omega)
      rw [hcx] at hr9 ⊢
      obtain ⟨g1, g2, g3⟩ := RC_strike hW hx hy h_ma hr9
      exact q0 _ h_ma rfl (by first | assumption | exact Classical.not_not.mp (by assumption)) _ _ g1 g2 (FrC_up FrC_rfl (Nat.le_of_ble_eq_true rfl)) g3
    · skip
      refine mw_throw i_38_16 hx_38 (by omega) (by omega) ?_
      exact q2 _ h_ma rfl (by first | assumption | exact fun h => by contradiction)
  · skip
    refine mw_throw i_38_8 hx_38 (by omega) (by omega) ?_
    exact q1 (fun h => c1 h)
set_option maxRecDepth 20000 in
set_option maxHeartbeats 400000 in
theorem k_shoot {d b : Nat} {K : KM} {I : IM} {R : RM} {Q : QT} {n x : Nat} {σ : ST} {ma : Int32} (hd : 8 ≤ d) (hW : CW n σ K I R) (hb : 7 ≤ b) (hx : x < 1000) (hxd : x = dn σ) (q1 : ¬ isN ma (mn σ x) → Q (.inr 3) K I R) (q2 : ∀ m, m < mn σ x → ma = nI m → ¬ σ 22 x = nI 0 → Q (.inr 2) K I R) (q0 : ∀ m, m < mn σ x → ma = nI m → σ 22 x = nI 0 → ∀ I', FrC I I' → RC (ups σ 19 (36 * x + 6 * m + 5) (nI 1)) I' R → Q (.inl (some (pI (σ 19 (36 * x + 6 * m + 5))))) K I' R) : Mw d b N_X5_shoot 0 [some (pR (some RING)), some (pI ma), none, none] [] K I R Q := by
  obtain ⟨d9, rfl⟩ : ∃ d9, d = d9 + 1 := ⟨d - 1, by omega⟩
  have hS := hW.1.1
  have hR := hW.2.1
  have hV := hW.2.2
  have hpp := hW.2.2.1.2
  have htt := hW.2.2.2.1.2
  have hdd := hW.2.2.2.2.1.2
  refine mw_aload i_39_0 (L := RING) rfl ?_
  refine mw_aload i_39_1 (L := RING) rfl ?_
  refine mw_get i_39_2 hS.1.1 (v := nI x) ((CW_d hW).trans (by rw [hxd])) ?_
  obtain ⟨hC_x, hz_x, hz6_x, hp_x, ht0_x, hm_x⟩ := CW_c hW (d := x) (by omega)
  refine mw_callV i_39_3 mf_63 (as := [pI (nI x)]) (rest := []) (d' := d9) (b' := b) (ls0 := [some (pR (some RING)), some (pI (nI x))]) rfl rfl rfl (Nat.le_of_ble_eq_true rfl) hS.1.1 rfl rfl rfl ?_
  refine k_cardOf (by omega) hW.1 (by omega) ?_
  refine aft_v ?_
  refine mw_astore i_39_4 (ls' := [some (pR (some RING)), some (pI ma), some (pR (some (CA (cix R x)))), none]) rfl (Nat.le_of_ble_eq_true rfl) ?_
  refine mw_aload i_39_5 (L := CA (cix R x)) rfl ?_
  refine mw_iload i_39_6 (x := ma) rfl ?_
  refine mw_callV i_39_7 mf_1 (as := [pI ma]) (rest := []) (d' := d9) (b' := b) (ls0 := [some (pR (some (CA (cix R x)))), some (pI ma)]) rfl rfl rfl (Nat.le_of_ble_eq_true rfl) hC_x.1 rfl rfl rfl ?_
  refine k_hasMatch hC_x hz_x hz6_x ?_
  refine aft_v ?_
  refine mw_neB i_39_8 rfl (fun c1 => ?_) (fun c1 => ?_)
  · skip
    obtain ⟨j_ma, h_ma, rfl⟩ := c1
    have hrl := ((hV.2.2.2.2.2.1 x (by omega)).2.2.2.2.1 j_ma (by omega)).2.2.2.2.2.2
    refine mw_aload i_39_14 (L := CA (cix R x)) rfl ?_
    refine mw_get i_39_15 hC_x.1 (v := σ 22 x) hp_x ?_
    refine mw_if i_39_16 (p := (σ 22 x) = nI 0) Iff.rfl (fun c2 => ?_) (fun c2 => ?_)
    · skip
      refine mw_aload i_39_22 (L := CA (cix R x)) rfl ?_
      refine mw_getR i_39_23 hC_x.1 (q := some (MM (cix R x))) hC_x.2.1 ?_
      refine mw_iload i_39_24 (x := nI j_ma) rfl ?_
      refine mw_aald i_39_25 (jn := j_ma) (n := 6) (by omega) (by omega) hC_x.2.2.1 (by decide) (q := some (MT (cix R x) (pm R (cix R x) j_ma))) (hC_x.2.2.2.2.1 j_ma (by omega)).2 ?_
      refine mw_get i_39_26 (hC_x.2.2.2.1 _ (hC_x.2.2.2.2.1 j_ma (by omega)).1) (v := σ 19 (36 * x + 6 * j_ma + 5)) (hm_x j_ma (by omega)).2.2.2.2.2 ?_
      refine mw_istore i_39_27 (ls' := [some (pR (some RING)), some (pI (nI j_ma)), some (pR (some (CA (cix R x)))), some (pI (σ 19 (36 * x + 6 * j_ma + 5)))]) rfl (Nat.le_of_ble_eq_true rfl) ?_
      refine mw_aload i_39_28 (L := CA (cix R x)) rfl ?_
      refine mw_getR i_39_29 hC_x.1 (q := some (MM (cix R x))) hC_x.2.1 ?_
      refine mw_iload i_39_30 (x := nI j_ma) rfl ?_
      refine mw_aald i_39_31 (jn := j_ma) (n := 6) (by omega) (by omega) hC_x.2.2.1 (by decide) (q := some (MT (cix R x) (pm R (cix R x) j_ma))) (hC_x.2.2.2.2.1 j_ma (by omega)).2 ?_
      refine mw_const i_39_32 (v := nI 1) (by decide) ?_
      refine mw_putB i_39_33 (x := nI 1) (hC_x.2.2.2.1 _ (hC_x.2.2.2.2.1 j_ma (by omega)).1) (by decide) (I' := up2 I (MT (cix R x) (pm R (cix R x) j_ma)) 5 (nI 1)) rfl ?_
      refine mw_iload i_39_34 (x := σ 19 (36 * x + 6 * j_ma + 5)) rfl ?_
      refine mw_iret i_39_35 (x := σ 19 (36 * x + 6 * j_ma + 5)) (fun _ => hrl) ?_
      obtain ⟨hy, hcx⟩ := cix_y hW hx (by omega)
      rw [hcx]
      exact q0 _ h_ma rfl (by first | assumption | exact Classical.not_not.mp (by assumption)) _ (FrC_up FrC_rfl (Nat.le_of_ble_eq_true rfl)) (RC_shoot hW hx hy h_ma)
    · skip
      refine mw_throw i_39_17 hx_39 (by omega) (by omega) ?_
      exact q2 _ h_ma rfl (by first | assumption | exact fun h => by contradiction)
  · skip
    refine mw_throw i_39_9 hx_39 (by omega) (by omega) ?_
    exact q1 (fun h => c1 h)
