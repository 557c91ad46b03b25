/-! the class plays a card -/
def hOp (σ : ST) (x j : Nat) : Prop := nI (dn σ) < σ 6 (σ 19 (36 * x + 6 * j)).toNatClampNeg ∨ nI (dn σ) < σ 6 (σ 19 (36 * x + 6 * j + 1)).toNatClampNeg
def hO (σ : ST) (x : Nat) : Prop := Ex (hOp σ x) (mn σ x)
set_option maxRecDepth 20000 in
theorem k_hurtOnes_lp {d b : Nat} {K : KM} {I : IM} {R : RM} {Q : QT} {n x : Nat} {σ : ST} (hd : 1 ≤ d) (hW : CW n σ K I R) (hx : x < 1000) (q : Q (.inl (some (pI (bI (hO σ x))))) K I R) : ∀ (n i : Nat) (hx9 : ¬ Ex (hOp σ x) i) (u3 : Option PV), mn σ x - i < n → i ≤ mn σ x → Mw d b N_X5_hasHurtOnes 2 [some (pR (some RING)), some (pR (some (CA (cix R x)))), some (pI (nI i)), u3] [] K I R Q := by
  obtain ⟨d9, rfl⟩ : ∃ d9, d = d9 + 1 := ⟨d - 1, by omega⟩
  intro n
  induction n with
  | zero => intro i hx9 u3 hn; exact absurd hn (Nat.not_lt_zero _)
  | succ n ih =>
    intro i hx9 u3 hn hi
    have hS := hW.1.1
    have hR := hW.2.1
    have hV := hW.2.2
    have hpp := hW.2.2.1.2
    have htt := hW.2.2.2.1.2
    have hdd := hW.2.2.2.2.1.2
    obtain ⟨hC_x, hz_x, hz6_x, hp_x, ht0_x, hm_x⟩ := CW_c hW (d := x) (by omega)
    refine mw_iload i_68_2 (x := nI i) rfl ?_
    refine mw_aload i_68_3 (L := CA (cix R x)) rfl ?_
    refine mw_get i_68_4 hC_x.1 (v := nI (mn σ x)) hz_x ?_
    refine mw_ic i_68_5 (p := (mn σ x) ≤ i) (nI_leI (by omega) (by omega)) (fun c1 => ?_) (fun c1 => ?_)
    · skip
      refine mw_const i_68_33 (v := nI 0) (by decide) ?_
      refine mw_iret i_68_34 (x := nI 0) (fun _ => (by decide)) ?_
      obtain rfl : i = mn σ x := by omega
      rw [show nI 0 = bI (hO σ x) from (bI_f hx9).symm]
      exact q
    · skip
      obtain ⟨f, hf, ef⟩ := ((hV.2.2.2.2.2.1 x (by omega)).2.2.2.2.1 i (by omega)).1
      obtain ⟨s, hs, es⟩ := ((hV.2.2.2.2.2.1 x (by omega)).2.2.2.2.1 i (by omega)).2.1
      have hop : ∀ f s, σ 19 (36 * x + 6 * i) = nI f → σ 19 (36 * x + 6 * i + 1) = nI s → (hOp σ x i ↔ nI (dn σ) < σ 6 (nI f).toNatClampNeg ∨ nI (dn σ) < σ 6 (nI s).toNatClampNeg) := fun f s a b => by unfold hOp; rw [a, b]
      have cf : (nI f).toNatClampNeg = f := nI_clamp (by omega)
      have cs9 : (nI s).toNatClampNeg = s := nI_clamp (by omega)
      replace hop : ∀ f9 s9, σ 19 (36 * x + 6 * i) = nI f9 → σ 19 (36 * x + 6 * i + 1) = nI s9 → (hOp σ x i ↔ nI (dn σ) < σ 6 f ∨ nI (dn σ) < σ 6 s) := fun _ _ _ _ => by rw [hop f s ef es, cf, cs9]
      refine mw_aload i_68_6 (L := CA (cix R x)) rfl ?_
      refine mw_getR i_68_7 hC_x.1 (q := some (MM (cix R x))) hC_x.2.1 ?_
      refine mw_iload i_68_8 (x := nI i) rfl ?_
      refine mw_aald i_68_9 (jn := i) (n := 6) (by omega) (by omega) hC_x.2.2.1 (by decide) (q := some (MT (cix R x) (pm R (cix R x) i))) (hC_x.2.2.2.2.1 i (by omega)).2 ?_
      refine mw_astore i_68_10 (ls' := [some (pR (some RING)), some (pR (some (CA (cix R x)))), some (pI (nI i)), some (pR (some (MT (cix R x) (pm R (cix R x) i))))]) rfl (Nat.le_of_ble_eq_true rfl) ?_
      refine mw_aload i_68_11 (L := RING) rfl ?_
      refine mw_getR i_68_12 hS.1.1 (q := some ROS) hS.1.2.1 ?_
      refine mw_aload i_68_13 (L := MT (cix R x) (pm R (cix R x) i)) rfl ?_
      refine mw_get i_68_14 (hC_x.2.2.2.1 _ (hC_x.2.2.2.2.1 i (by omega)).1) (v := nI f) (by rw [(hm_x i (by omega)).1]; exact ef) ?_
      refine mw_aald i_68_15 (jn := f) (n := 10) (by omega) (by omega) hS.2.1.1 (by decide) (q := some (WR f)) (hS.2.2.1 f (by omega)).1 ?_
      refine mw_aload i_68_16 (L := RING) rfl ?_
      refine mw_get i_68_17 hS.1.1 (v := nI (dn σ)) (CW_d hW) ?_
      refine mw_callV i_68_18 mf_27 (as := [pI (nI (dn σ))]) (rest := []) (d' := d9) (b' := b) (ls0 := [some (pR (some (WR f))), some (pI (nI (dn σ)))]) rfl rfl rfl (Nat.le_of_ble_eq_true rfl) (hS.2.2.1 f (by omega)).2.1 rfl rfl rfl ?_
      refine k_isHurtOn hS (by omega) ?_
      rw [(RC_rd hR (w := f) (by omega)).2.2.2.2.1]
      refine aft_v ?_
      refine mw_neB i_68_19 rfl (fun c2 => ?_) (fun c2 => ?_)
      · skip
        refine mw_const i_68_29 (v := nI 1) (by decide) ?_
        refine mw_iret i_68_30 (x := nI 1) (fun _ => (by decide)) ?_
        rw [show nI 1 = bI (hO σ x) from (bI_t ⟨i, by omega, (hop f s ef es).mpr (by first | exact Or.inl c2 | exact Or.inr (Classical.not_not.mp c2) | exact Or.inr c2)⟩).symm]
        exact q
      · skip
        refine mw_aload i_68_20 (L := RING) rfl ?_
        refine mw_getR i_68_21 hS.1.1 (q := some ROS) hS.1.2.1 ?_
        refine mw_aload i_68_22 (L := MT (cix R x) (pm R (cix R x) i)) rfl ?_
        refine mw_get i_68_23 (hC_x.2.2.2.1 _ (hC_x.2.2.2.2.1 i (by omega)).1) (v := nI s) (by rw [(hm_x i (by omega)).2.1]; exact es) ?_
        refine mw_aald i_68_24 (jn := s) (n := 10) (by omega) (by omega) hS.2.1.1 (by decide) (q := some (WR s)) (hS.2.2.1 s (by omega)).1 ?_
        refine mw_aload i_68_25 (L := RING) rfl ?_
        refine mw_get i_68_26 hS.1.1 (v := nI (dn σ)) (CW_d hW) ?_
        refine mw_callV i_68_27 mf_27 (as := [pI (nI (dn σ))]) (rest := []) (d' := d9) (b' := b) (ls0 := [some (pR (some (WR s))), some (pI (nI (dn σ)))]) rfl rfl rfl (Nat.le_of_ble_eq_true rfl) (hS.2.2.1 s (by omega)).2.1 rfl rfl rfl ?_
        refine k_isHurtOn hS (by omega) ?_
        rw [(RC_rd hR (w := s) (by omega)).2.2.2.2.1]
        refine aft_v ?_
        refine mw_eqB i_68_28 rfl (fun c3 => ?_) (fun c3 => ?_)
        · skip
          refine mw_iinc i_68_31 (x := nI i) (v := nI (i + 1)) (ls' := [some (pR (some RING)), some (pR (some (CA (cix R x)))), some (pI (nI (i + 1))), some (pR (some (MT (cix R x) (pm R (cix R x) i))))]) rfl (nI_add _ _) rfl ?_
          refine mw_goto i_68_32 ?_
          exact ih (i + 1) (Ex_s hx9 (fun h => ((hop f s ef es).mp h).elim c2 c3)) _ (by omega) (by omega)
        · skip
          refine mw_const i_68_29 (v := nI 1) (by decide) ?_
          refine mw_iret i_68_30 (x := nI 1) (fun _ => (by decide)) ?_
          rw [show nI 1 = bI (hO σ x) from (bI_t ⟨i, by omega, (hop f s ef es).mpr (by first | exact Or.inl c3 | exact Or.inr (Classical.not_not.mp c3) | exact Or.inr c3)⟩).symm]
          exact q
set_option maxRecDepth 20000 in
set_option maxHeartbeats 400000 in
theorem k_hurtOnes {d b : Nat} {K : KM} {I : IM} {R : RM} {Q : QT} {n x : Nat} {σ : ST} (hd : 1 ≤ d) (hW : CW n σ K I R) (hx : x < 1000) (q : Q (.inl (some (pI (bI (hO σ x))))) K I R) : Mw d b N_X5_hasHurtOnes 0 [some (pR (some RING)), some (pR (some (CA (cix R x)))), none, none] [] K I R Q := by
  obtain ⟨d9, rfl⟩ : ∃ d9, d = d9 + 1 := ⟨d - 1, by omega⟩
  refine mw_const i_68_0 (v := nI 0) (by decide) ?_
  refine mw_istore i_68_1 (ls' := [some (pR (some RING)), some (pR (some (CA (cix R x)))), some (pI (nI 0)), none]) rfl (Nat.le_of_ble_eq_true rfl) ?_
  exact k_hurtOnes_lp hd hW hx q (mn σ x + 1) 0 Ex_0 none (by omega) (by omega)
theorem hndI_o {σ : ST} {ti x0 x1 wn : Int32} {k : Nat} (h : k ≠ 15) (h2 : k ≠ 16) (h3 : k ≠ 17) : hndI σ ti x0 x1 wn k = σ k := by
  unfold hndI hnd
  split
  · rfl
  · split
    · exact crn_o h h2 h3
    · rfl
theorem win_o {σ : ST} {t wi lo k : Nat} (h : k ≠ 4) (h2 : k ≠ 8) (h3 : k ≠ 13) : win σ t wi lo k = σ k := by
  unfold win lov win0
  split
  · rw [ups_ne h, ups_ne h, ups_ne h2, ups_ne h3]
  · rw [ups_ne h, ups_ne h, ups_ne h2, ups_ne h3]
theorem pm_o {σ : ST} {t f s wi lo : Nat} {m ti re : Int32} {k : Nat} (h : k ≠ 3 ∧ k ≠ 4 ∧ k ≠ 5 ∧ k ≠ 8 ∧ k ≠ 9 ∧ k ≠ 13 ∧ k ≠ 15 ∧ k ≠ 16 ∧ k ≠ 17) : pmS σ t f s wi lo m ti re k = σ k := by
  unfold pmS trS
  rw [ups_ne (by omega), ups_ne (by omega)]
  by_cases hr : re = nI 0
  · rw [if_pos hr, if_pos hr, hndI_o (by omega) (by omega) (by omega)]
    unfold adS
    rw [ups_ne (by omega), ups_ne (by omega), win_o (by omega) (by omega) (by omega)]
  · rw [if_neg hr, if_neg hr]
    unfold adS
    rw [ups_ne (by omega), ups_ne (by omega), ups_ne (by omega), ups_ne (by omega)]
/-- the row of a match, as numbers -/
def rF (σ : ST) (x j : Nat) : Nat := (σ 19 (36 * x + 6 * j)).toNatClampNeg
def rS (σ : ST) (x j : Nat) : Nat := (σ 19 (36 * x + 6 * j + 1)).toNatClampNeg
def rW (σ : ST) (x j : Nat) : Nat := (wnr σ x j).toNatClampNeg
def rL (σ : ST) (x j : Nat) : Nat := (lsr σ x j).toNatClampNeg
/-- the matches below i of a card are played; what they take -/
noncomputable def plK (σ : ST) (x t : Nat) : Nat → ST
  | 0 => σ
  | i + 1 => pmS (adS (plK σ x t i) 23 t (wrt (plK σ x t i) t (rF σ x i) + wrt (plK σ x t i) t (rS σ x i))) t (rF σ x i) (rS σ x i) (rW σ x i) (rL σ x i) (σ 19 (36 * x + 6 * i + 3)) (σ 19 (36 * x + 6 * i + 4)) (σ 19 (36 * x + 6 * i + 5))
noncomputable def tkK (σ : ST) (x t : Nat) : Nat → Int32 := smI (fun i => wrt (plK σ x t i) t (rF σ x i) + wrt (plK σ x t i) t (rS σ x i))
theorem plK_o {σ : ST} {x t k : Nat} (h : k ≠ 3 ∧ k ≠ 4 ∧ k ≠ 5 ∧ k ≠ 8 ∧ k ≠ 9 ∧ k ≠ 13 ∧ k ≠ 15 ∧ k ≠ 16 ∧ k ≠ 17 ∧ k ≠ 23) : ∀ i, plK σ x t i k = σ k
  | 0 => rfl
  | i + 1 => by
    unfold plK
    rw [pm_o (by omega)]
    unfold adS
    rw [ups_ne (by omega)]
    exact plK_o h i
