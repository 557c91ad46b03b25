/-! the class: pass -/
/-- a strain behind a day of rest -/
def rst (x : Int32) : Int32 := if nI 0 < x - nI 10 then x - nI 10 else nI 0
/-- those below i have rested -/
def reS (σ : ST) (i : Nat) : ST := fun k => if k = 5 then (fun w => if w < i then rst (σ 5 w) else σ 5 w) else σ k
theorem reS_o {σ : ST} {i k : Nat} (h : k ≠ 5) : reS σ i k = σ k := if_neg h
theorem reS_5 {σ : ST} {i w : Nat} : reS σ i 5 w = if w < i then rst (σ 5 w) else σ 5 w := rfl
theorem reS_0 {σ : ST} : reS σ 0 = σ := by
  funext k w
  unfold reS
  by_cases h : k = 5
  · rw [if_pos h, if_neg (Nat.not_lt_zero _), h]
  · rw [if_neg h]
theorem reS_s {σ : ST} {i : Nat} : reS σ (i + 1) = ups (reS σ i) 5 i (rst (σ 5 i)) := by
  funext k w
  by_cases h : k = 5
  · subst h
    rw [ups_at]
    by_cases e : w = i
    · subst e
      rw [upd_at, reS_5, if_pos (by omega)]
    · rw [upd_ne e, reS_5, reS_5]
      by_cases e2 : w < i
      · rw [if_pos e2, if_pos (by omega)]
      · rw [if_neg e2, if_neg (by omega)]
  · rw [ups_ne h, reS_o h, reS_o h]
set_option maxRecDepth 20000 in
set_option maxHeartbeats 400000 in
theorem k_rest_lp {d : Nat} {b : Nat} {K : KM} {R : RM} {Q : QT} {σ : ST} {I0 : IM} {L1 : Lb} (hd : 1 ≤ d) (hS : CS0 K R) (hpp : pn σ ≤ 10) (hP : σ 14 0 = nI (pn σ)) (q : ∀ I', FrW I0 I' → RC (reS σ (pn σ)) I' R → Mw d b N_X5_pass 42 [some (pR (some RING)), some (pR (some L1)), some (pI (nI (pn σ)))] [] K I' R Q) : ∀ (n i : Nat) (I : IM), pn σ - i < n → i ≤ pn σ → (FrW I0 I) → (RC (reS σ i) I R) → Mw d b N_X5_pass 22 [some (pR (some RING)), some (pR (some L1)), some (pI (nI i))] [] K I R Q := by
  obtain ⟨d9, rfl⟩ : ∃ d9, d = d9 + 1 := ⟨d - 1, by omega⟩
  intro n
  induction n with
  | zero => intro i I  hn; exact absurd hn (Nat.not_lt_zero _)
  | succ n ih =>
    intro i I  hn hi hF hr
    have hP6 : I RING 6 = nI (pn σ) := hr.1.1.trans (by rw [reS_o (by decide)]; exact hP)
    refine mw_iload i_45_22 (x := nI i) rfl ?_
    refine mw_aload i_45_23 (L := RING) rfl ?_
    refine mw_get i_45_24 hS.1.1 (v := nI (pn σ)) hP6 ?_
    refine mw_ic i_45_25 (p := (pn σ) ≤ i) (nI_leI (by omega) (by omega)) (fun c1 => ?_) (fun c1 => ?_)
    · skip
      obtain rfl : i = pn σ := by omega
      exact q _ hF hr
    · skip
      have h5i : I (WR i) 6 = σ 5 i := (RC_rd hr (w := i) (by omega)).2.2.2.1.trans (by rw [reS_5, if_neg (Nat.lt_irrefl _)])
      refine mw_aload i_45_26 (L := RING) rfl ?_
      refine mw_getR i_45_27 hS.1.1 (q := some ROS) hS.1.2.1 ?_
      refine mw_iload i_45_28 (x := nI i) rfl ?_
      refine mw_aald i_45_29 (jn := i) (n := 10) (by omega) (by omega) hS.2.1.1 (by decide) (q := some (WR i)) (hS.2.2.1 i (by omega)).1 ?_
      refine mw_const i_45_30 (v := nI 0) (by decide) ?_
      refine mw_aload i_45_31 (L := RING) rfl ?_
      refine mw_getR i_45_32 hS.1.1 (q := some ROS) hS.1.2.1 ?_
      refine mw_iload i_45_33 (x := nI i) rfl ?_
      refine mw_aald i_45_34 (jn := i) (n := 10) (by omega) (by omega) hS.2.1.1 (by decide) (q := some (WR i)) (hS.2.2.1 i (by omega)).1 ?_
      refine mw_get i_45_35 (hS.2.2.1 i (by omega)).2.1 (v := σ 5 i) h5i ?_
      refine mw_const i_45_36 (v := nI 10) (by decide) ?_
      refine mw_isub i_45_37 (w := ((σ 5 i) - (nI 10))) rfl ?_
      refine mw_max i_45_38 (Nat.le_of_ble_eq_true rfl) (by omega) (w := (if nI 0 < ((σ 5 i) - (nI 10)) then ((σ 5 i) - (nI 10)) else nI 0)) rfl ?_
      obtain ⟨I22, e22⟩ : ∃ I22, I22 = up2 I (WR i) 6 (if nI 0 < ((σ 5 i) - (nI 10)) then ((σ 5 i) - (nI 10)) else nI 0) := ⟨_, rfl⟩
      refine mw_put i_45_39 (x := (if nI 0 < ((σ 5 i) - (nI 10)) then ((σ 5 i) - (nI 10)) else nI 0)) (hS.2.2.1 i (by omega)).2.1 (I' := I22) e22.symm ?_
      refine mw_iinc i_45_40 (x := nI i) (v := nI (i + 1)) (ls' := [some (pR (some RING)), some (pR (some L1)), some (pI (nI (i + 1)))]) rfl (nI_add _ _) rfl ?_
      refine mw_goto i_45_41 ?_
      refine ih (i + 1) _ (by omega) (by omega) (by rw [e22]; exact FrW_up hF (Nat.le_of_ble_eq_true rfl) (Nat.le_of_ble_eq_true rfl)) ?_
      rw [reS_s, e22]
      exact RC_strain hr (w := i) (rst (σ 5 i))
