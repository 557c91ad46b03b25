/-! the class plays a match -/
theorem up2_slot {I : IM} {L L2 : Lb} {k k2 : Nat} {x : Int32} (h : k2 ≠ k) : up2 I L k x L2 k2 = I L2 k2 := by
  unfold up2 setI
  by_cases e : L2 = L
  · rw [if_pos e, upd_ne h, e]
  · rw [if_neg e]
theorem up2_comm {I : IM} {L L2 : Lb} {k k2 : Nat} {x x2 : Int32} (h : L ≠ L2 ∨ k ≠ k2) : up2 (up2 I L k x) L2 k2 x2 = up2 (up2 I L2 k2 x2) L k x := by
  funext q j
  unfold up2 setI
  by_cases e1 : q = L <;> by_cases e2 : q = L2
  · subst e1; subst e2
    have hk : k ≠ k2 := by rcases h with h | h; exact absurd rfl h; exact h
    simp only [if_true]
    unfold upd
    by_cases j1 : j = k <;> by_cases j2 : j = k2 <;> simp [j1, j2] <;> omega
  · subst e1
    simp [e2]
  · subst e2
    simp [e1]
  · simp [e1, e2]
theorem ups_comm {σ : ST} {k k2 j j2 : Nat} {x x2 : Int32} (h : k ≠ k2) : ups (ups σ k j x) k2 j2 x2 = ups (ups σ k2 j2 x2) k j x := by
  funext q r
  unfold ups
  by_cases e1 : q = k <;> by_cases e2 : q = k2
  · exact absurd (e1.symm.trans e2) h
  · subst e1; simp [e2, h]
  · subst e2; simp [e1, Ne.symm h]
  · simp [e1, e2]
theorem nI_nm1 {n : Nat} (h : n < 2147483648) : ¬ nI n = (-1) := fun e => by
  have := congrArg Int32.toInt e
  rw [nI_toInt h] at this
  simp at this
/-- what a love gets more -/
def lov (σ : ST) (t w : Nat) (x : Int32) : ST := ups σ 4 (10 * t + w) (cl99 (σ 4 (10 * t + w) + x))
def win0 (σ : ST) (wi lo : Nat) : ST := ups (ups σ 13 (10 * wi + lo) (σ 13 (10 * wi + lo) + nI 1)) 8 lo (σ 8 lo + nI 1)
def win (σ : ST) (t wi lo : Nat) : ST := if σ 3 wi = σ 3 lo then lov (lov (win0 σ wi lo) t wi (nI 3)) t lo (-1) else lov (lov (win0 σ wi lo) t wi (if σ 3 wi = nI 0 then nI 6 else (-6))) t lo (if σ 3 lo = nI 0 then nI 2 else (-2))
theorem RC_lov {σ : ST} {I : IM} {R : RM} (h : RC σ I R) {w t : Nat} (hw : w < 10) (ht : t < 4) (x : Int32) : RC (lov σ t w x) (up2 I (LV w) t (cl99 (I (LV w) t + x))) R := by
  have e := (h.2.2.1 w hw).2.2.2.2.2.2.2.2.2.2.1 t ht
  rw [e]
  exact RC_love h hw _
theorem RC_win0 {σ : ST} {I : IM} {R : RM} (h : RC σ I R) {wi lo : Nat} (hw : wi < 10) (hl : lo < 10) : RC (win0 σ wi lo) (up2 (up2 (up2 I (WR wi) 9 (I (WR wi) 9 + nI 1)) (WR lo) 10 (I (WR lo) 10 + nI 1)) (WA wi) lo (I (WA wi) lo + nI 1)) R := by
  have e := (h.2.2.1 lo hl).2.2.2.2.2.2.2.1
  rw [up2_comm (L := WR lo) (L2 := WA wi) (Or.inl (by simp)), e]
  exact RC_lost (RC_beat h hw hl) _
theorem RC_rd {σ : ST} {I : IM} {R : RM} (h : RC σ I R) {w : Nat} (hw : w < 10) : I (WR w) 3 = σ 1 w ∧ I (WR w) 4 = σ 2 w ∧ I (WR w) 5 = σ 3 w ∧ I (WR w) 6 = σ 5 w ∧ I (WR w) 7 = σ 6 w ∧ I (WR w) 8 = σ 7 w ∧ I (WR w) 9 = smI (fun k => σ 13 (10 * w + k)) 10 ∧ I (WR w) 10 = σ 8 w ∧ I (WR w) 11 = σ 9 w ∧ I (WR w) 12 = σ 12 w ∧ (∀ t, t < 4 → I (LV w) t = σ 4 (10 * t + w)) ∧ (∀ o, o < 10 → I (CD w) o + nI 1 = σ 11 (10 * w + o)) ∧ (∀ o, o < 10 → I (WA w) o = σ 13 (10 * w + o)) ∧ prO σ I w := h.2.2.1 w hw
def FrW (I I' : IM) : Prop := ∀ L : Lb, (L.1 < 12 ∨ 15 < L.1) → I' L = I L
def FrT (I I' : IM) : Prop := ∀ L : Lb, (L.1 < 16 ∨ 18 < L.1) → I' L = I L
theorem FrW_rfl {I : IM} : FrW I I := fun _ _ => rfl
theorem FrT_rfl {I : IM} : FrT I I := fun _ _ => rfl
theorem FrW_tr {I I' I'' : IM} (h : FrW I I') (h' : FrW I' I'') : FrW I I'' := fun L a => (h' L a).trans (h L a)
theorem FrT_tr {I I' I'' : IM} (h : FrT I I') (h' : FrT I' I'') : FrT I I'' := fun L a => (h' L a).trans (h L a)
theorem FrW_up {I I' : IM} (h : FrW I I') {L : Lb} (h1 : 12 ≤ L.1) (h2 : L.1 ≤ 15) {k : Nat} {x : Int32} : FrW I (up2 I' L k x) := fun q a => by
  rw [up2_ne (fun e => by subst e; omega)]
  exact h q a
theorem FrT_up {I I' : IM} (h : FrT I I') {L : Lb} (h1 : 16 ≤ L.1) (h2 : L.1 ≤ 18) {k : Nat} {x : Int32} : FrT I (up2 I' L k x) := fun q a => by
  rw [up2_ne (fun e => by subst e; omega)]
  exact h q a
theorem FrC_W {I I' : IM} (h : FrW I I') : FrC I I' := fun L a => h L (Or.inl (by omega))
theorem FrC_T {I I' : IM} (h : FrT I I') : FrC I I' := fun L a => h L (Or.inl (by omega))
set_option maxRecDepth 20000 in
set_option maxHeartbeats 200000 in
theorem k_decide {d b : Nat} {K : KM} {I : IM} {R : RM} {Q : QT} {σ : ST} {wi lo t : Nat} (hd : 2 ≤ d) (hS : CS0 K R) (hR : RC σ I R) (hw : wi < 10) (hl : lo < 10) (ht : t < 4) (q : ∀ I', FrW I I' → RC (win σ t wi lo) I' R → Q (.inl none) K I' R) : Mw d b N_X5_decide 0 [some (pR (some RING)), some (pI (nI wi)), some (pI (nI lo)), some (pI (nI t)), none, none] [] K I R Q := by
  obtain ⟨d9, rfl⟩ : ∃ d9, d = d9 + 1 := ⟨d - 1, by omega⟩
  refine mw_aload i_70_0 (L := RING) rfl ?_
  refine mw_getR i_70_1 hS.1.1 (q := some ROS) hS.1.2.1 ?_
  refine mw_iload i_70_2 (x := nI wi) rfl ?_
  refine mw_aald i_70_3 (jn := wi) (n := 10) (by omega) (by omega) hS.2.1.1 (by decide) (q := some (WR wi)) (hS.2.2.1 wi (by omega)).1 ?_
  refine mw_astore i_70_4 (ls' := [some (pR (some RING)), some (pI (nI wi)), some (pI (nI lo)), some (pI (nI t)), some (pR (some (WR wi))), none]) rfl (Nat.le_of_ble_eq_true rfl) ?_
  refine mw_aload i_70_5 (L := RING) rfl ?_
  refine mw_getR i_70_6 hS.1.1 (q := some ROS) hS.1.2.1 ?_
  refine mw_iload i_70_7 (x := nI lo) rfl ?_
  refine mw_aald i_70_8 (jn := lo) (n := 10) (by omega) (by omega) hS.2.1.1 (by decide) (q := some (WR lo)) (hS.2.2.1 lo (by omega)).1 ?_
  refine mw_astore i_70_9 (ls' := [some (pR (some RING)), some (pI (nI wi)), some (pI (nI lo)), some (pI (nI t)), some (pR (some (WR wi))), some (pR (some (WR lo)))]) rfl (Nat.le_of_ble_eq_true rfl) ?_
  refine mw_aload i_70_10 (L := WR wi) rfl ?_
  refine mw_dup i_70_11 trivial ?_
  refine mw_get i_70_12 (hS.2.2.1 wi (by omega)).2.1 (v := I (WR wi) 9) rfl ?_
  refine mw_const i_70_13 (v := nI 1) (by decide) ?_
  refine mw_iadd i_70_14 (w := ((I (WR wi) 9) + (nI 1))) rfl ?_
  refine mw_put i_70_15 (x := ((I (WR wi) 9) + (nI 1))) (hS.2.2.1 wi (by omega)).2.1 (I' := up2 I (WR wi) 9 ((I (WR wi) 9) + (nI 1))) rfl ?_
  refine mw_aload i_70_16 (L := WR lo) rfl ?_
  refine mw_dup i_70_17 trivial ?_
  refine mw_get i_70_18 (hS.2.2.1 lo (by omega)).2.1 (v := I (WR lo) 10) (by rw [up2_slot (by decide)]) ?_
  refine mw_const i_70_19 (v := nI 1) (by decide) ?_
  refine mw_iadd i_70_20 (w := ((I (WR lo) 10) + (nI 1))) rfl ?_
  refine mw_put i_70_21 (x := ((I (WR lo) 10) + (nI 1))) (hS.2.2.1 lo (by omega)).2.1 (I' := up2 (up2 I (WR wi) 9 ((I (WR wi) 9) + (nI 1))) (WR lo) 10 ((I (WR lo) 10) + (nI 1))) rfl ?_
  refine mw_aload i_70_22 (L := WR wi) rfl ?_
  refine mw_getR i_70_23 (hS.2.2.1 wi (by omega)).2.1 (q := some (WA wi)) (hS.2.2.1 wi (by omega)).2.2.2.2.1 ?_
  refine mw_iload i_70_24 (x := nI lo) rfl ?_
  refine mw_dup2 i_70_25 trivial trivial ?_
  refine mw_iald i_70_26 (jn := lo) (n := 10) (by omega) (by omega) (hS.2.2.1 wi (by omega)).2.2.2.2.2.2.2 (by decide) (v := I (WA wi) lo) (by rw [up2_ne (by simp), up2_ne (by simp)]) ?_
  refine mw_const i_70_27 (v := nI 1) (by decide) ?_
  refine mw_iadd i_70_28 (w := ((I (WA wi) lo) + (nI 1))) rfl ?_
  refine mw_iast i_70_29 (jn := lo) (n := 10) (by omega) (by omega) (x := ((I (WA wi) lo) + (nI 1))) (hS.2.2.1 wi (by omega)).2.2.2.2.2.2.2 (I' := up2 (up2 (up2 I (WR wi) 9 ((I (WR wi) 9) + (nI 1))) (WR lo) 10 ((I (WR lo) 10) + (nI 1))) (WA wi) lo ((I (WA wi) lo) + (nI 1))) rfl ?_
  refine mw_aload i_70_30 (L := WR wi) rfl ?_
  refine mw_get i_70_31 (hS.2.2.1 wi (by omega)).2.1 (v := I (WR wi) 5) (by rw [up2_ne (by simp), up2_slot (by decide), up2_slot (by decide)]) ?_
  refine mw_aload i_70_32 (L := WR lo) rfl ?_
  refine mw_get i_70_33 (hS.2.2.1 lo (by omega)).2.1 (v := I (WR lo) 5) (by rw [up2_ne (by simp), up2_slot (by decide), up2_slot (by decide)]) ?_
  refine mw_ic i_70_34 (p := ¬ (I (WR wi) 5) = (I (WR lo) 5)) Iff.rfl (fun c1 => ?_) (fun c1 => ?_)
  · skip
    refine mw_aload i_70_44 (L := WR wi) rfl ?_
    refine mw_iload i_70_45 (x := nI t) rfl ?_
    refine mw_aload i_70_46 (L := WR wi) rfl ?_
    refine mw_get i_70_47 (hS.2.2.1 wi (by omega)).2.1 (v := I (WR wi) 5) (by rw [up2_ne (by simp), up2_slot (by decide), up2_slot (by decide)]) ?_
    refine mw_if i_70_48 (p := ¬ (I (WR wi) 5) = nI 0) Iff.rfl (fun c2 => ?_) (fun c2 => ?_)
    · skip
      refine mw_const i_70_51 (v := (-6)) (by decide) ?_
      refine mw_callV i_70_52 mf_30 (as := [pI (nI t), pI (-6)]) (rest := []) (d' := d9) (b' := b) (ls0 := [some (pR (some (WR wi))), some (pI (nI t)), some (pI (-6))]) rfl rfl rfl (Nat.le_of_ble_eq_true rfl) (hS.2.2.1 wi (by omega)).2.1 rfl rfl rfl ?_
      refine k_addLove (w := wi) (t := t) (x := (-6)) (by omega) hS (by omega) (by omega) ?_
      refine aft_n ?_
      refine mw_aload i_70_53 (L := WR lo) rfl ?_
      refine mw_iload i_70_54 (x := nI t) rfl ?_
      refine mw_aload i_70_55 (L := WR lo) rfl ?_
      refine mw_get i_70_56 (hS.2.2.1 lo (by omega)).2.1 (v := I (WR lo) 5) (by rw [up2_ne (by simp), up2_ne (by simp), up2_slot (by decide), up2_slot (by decide)]) ?_
      refine mw_if i_70_57 (p := ¬ (I (WR lo) 5) = nI 0) Iff.rfl (fun c3 => ?_) (fun c3 => ?_)
      · skip
        refine mw_const i_70_60 (v := (-2)) (by decide) ?_
        refine mw_callV i_70_61 mf_30 (as := [pI (nI t), pI (-2)]) (rest := []) (d' := d9) (b' := b) (ls0 := [some (pR (some (WR lo))), some (pI (nI t)), some (pI (-2))]) rfl rfl rfl (Nat.le_of_ble_eq_true rfl) (hS.2.2.1 lo (by omega)).2.1 rfl rfl rfl ?_
        refine k_addLove (w := lo) (t := t) (x := (-2)) (by omega) hS (by omega) (by omega) ?_
        refine aft_n ?_
        refine mw_ret i_70_62 ?_
        refine q _ (FrW_up (FrW_up (FrW_up (FrW_up (FrW_up (FrW_rfl) (Nat.le_of_ble_eq_true rfl) (Nat.le_of_ble_eq_true rfl)) (Nat.le_of_ble_eq_true rfl) (Nat.le_of_ble_eq_true rfl)) (Nat.le_of_ble_eq_true rfl) (Nat.le_of_ble_eq_true rfl)) (Nat.le_of_ble_eq_true rfl) (Nat.le_of_ble_eq_true rfl)) (Nat.le_of_ble_eq_true rfl) (Nat.le_of_ble_eq_true rfl)) ?_
        have r0 := RC_win0 hR hw hl
        have r1 := RC_lov r0 hw ht ((-6))
        have r2 := RC_lov r1 hl ht ((-2))
        have e3 := (RC_rd hR hw).2.2.1
        have e4 := (RC_rd hR hl).2.2.1
        rw [e3, e4] at c1
        first | rw [e3] at c2 | rw [e4] at c2
        first | rw [e3] at c3 | rw [e4] at c3
        unfold win
        rw [if_neg c1, if_neg c2, if_neg c3]
        exact r2
      · skip
        refine mw_const i_70_58 (v := nI 2) (by decide) ?_
        refine mw_goto i_70_59 ?_
        refine mw_callV i_70_61 mf_30 (as := [pI (nI t), pI (nI 2)]) (rest := []) (d' := d9) (b' := b) (ls0 := [some (pR (some (WR lo))), some (pI (nI t)), some (pI (nI 2))]) rfl rfl rfl (Nat.le_of_ble_eq_true rfl) (hS.2.2.1 lo (by omega)).2.1 rfl rfl rfl ?_
        refine k_addLove (w := lo) (t := t) (x := nI 2) (by omega) hS (by omega) (by omega) ?_
        refine aft_n ?_
        refine mw_ret i_70_62 ?_
        refine q _ (FrW_up (FrW_up (FrW_up (FrW_up (FrW_up (FrW_rfl) (Nat.le_of_ble_eq_true rfl) (Nat.le_of_ble_eq_true rfl)) (Nat.le_of_ble_eq_true rfl) (Nat.le_of_ble_eq_true rfl)) (Nat.le_of_ble_eq_true rfl) (Nat.le_of_ble_eq_true rfl)) (Nat.le_of_ble_eq_true rfl) (Nat.le_of_ble_eq_true rfl)) (Nat.le_of_ble_eq_true rfl) (Nat.le_of_ble_eq_true rfl)) ?_
        have r0 := RC_win0 hR hw hl
        have r1 := RC_lov r0 hw ht ((-6))
        have r2 := RC_lov r1 hl ht (nI 2)
        have e3 := (RC_rd hR hw).2.2.1
        have e4 := (RC_rd hR hl).2.2.1
        rw [e3, e4] at c1
        first | rw [e3] at c2 | rw [e4] at c2
        first | rw [e3] at c3 | rw [e4] at c3
        unfold win
        rw [if_neg c1, if_neg c2, if_pos (Classical.not_not.mp c3)]
        exact r2
    · skip
      refine mw_const i_70_49 (v := nI 6) (by decide) ?_
      refine mw_goto i_70_50 ?_
      refine mw_callV i_70_52 mf_30 (as := [pI (nI t), pI (nI 6)]) (rest := []) (d' := d9) (b' := b) (ls0 := [some (pR (some (WR wi))), some (pI (nI t)), some (pI (nI 6))]) rfl rfl rfl (Nat.le_of_ble_eq_true rfl) (hS.2.2.1 wi (by omega)).2.1 rfl rfl rfl ?_
      refine k_addLove (w := wi) (t := t) (x := nI 6) (by omega) hS (by omega) (by omega) ?_
      refine aft_n ?_
      refine mw_aload i_70_53 (L := WR lo) rfl ?_
      refine mw_iload i_70_54 (x := nI t) rfl ?_
      refine mw_aload i_70_55 (L := WR lo) rfl ?_
      refine mw_get i_70_56 (hS.2.2.1 lo (by omega)).2.1 (v := I (WR lo) 5) (by rw [up2_ne (by simp), up2_ne (by simp), up2_slot (by decide), up2_slot (by decide)]) ?_
      refine mw_if i_70_57 (p := ¬ (I (WR lo) 5) = nI 0) Iff.rfl (fun c4 => ?_) (fun c4 => ?_)
      · skip
        refine mw_const i_70_60 (v := (-2)) (by decide) ?_
        refine mw_callV i_70_61 mf_30 (as := [pI (nI t), pI (-2)]) (rest := []) (d' := d9) (b' := b) (ls0 := [some (pR (some (WR lo))), some (pI (nI t)), some (pI (-2))]) rfl rfl rfl (Nat.le_of_ble_eq_true rfl) (hS.2.2.1 lo (by omega)).2.1 rfl rfl rfl ?_
        refine k_addLove (w := lo) (t := t) (x := (-2)) (by omega) hS (by omega) (by omega) ?_
        refine aft_n ?_
        refine mw_ret i_70_62 ?_
        refine q _ (FrW_up (FrW_up (FrW_up (FrW_up (FrW_up (FrW_rfl) (Nat.le_of_ble_eq_true rfl) (Nat.le_of_ble_eq_true rfl)) (Nat.le_of_ble_eq_true rfl) (Nat.le_of_ble_eq_true rfl)) (Nat.le_of_ble_eq_true rfl) (Nat.le_of_ble_eq_true rfl)) (Nat.le_of_ble_eq_true rfl) (Nat.le_of_ble_eq_true rfl)) (Nat.le_of_ble_eq_true rfl) (Nat.le_of_ble_eq_true rfl)) ?_
        have r0 := RC_win0 hR hw hl
        have r1 := RC_lov r0 hw ht (nI 6)
        have r2 := RC_lov r1 hl ht ((-2))
        have e3 := (RC_rd hR hw).2.2.1
        have e4 := (RC_rd hR hl).2.2.1
        rw [e3, e4] at c1
        first | rw [e3] at c2 | rw [e4] at c2
        first | rw [e3] at c4 | rw [e4] at c4
        unfold win
        rw [if_neg c1, if_pos (Classical.not_not.mp c2), if_neg c4]
        exact r2
      · skip
        refine mw_const i_70_58 (v := nI 2) (by decide) ?_
        refine mw_goto i_70_59 ?_
        refine mw_callV i_70_61 mf_30 (as := [pI (nI t), pI (nI 2)]) (rest := []) (d' := d9) (b' := b) (ls0 := [some (pR (some (WR lo))), some (pI (nI t)), some (pI (nI 2))]) rfl rfl rfl (Nat.le_of_ble_eq_true rfl) (hS.2.2.1 lo (by omega)).2.1 rfl rfl rfl ?_
        refine k_addLove (w := lo) (t := t) (x := nI 2) (by omega) hS (by omega) (by omega) ?_
        refine aft_n ?_
        refine mw_ret i_70_62 ?_
        refine q _ (FrW_up (FrW_up (FrW_up (FrW_up (FrW_up (FrW_rfl) (Nat.le_of_ble_eq_true rfl) (Nat.le_of_ble_eq_true rfl)) (Nat.le_of_ble_eq_true rfl) (Nat.le_of_ble_eq_true rfl)) (Nat.le_of_ble_eq_true rfl) (Nat.le_of_ble_eq_true rfl)) (Nat.le_of_ble_eq_true rfl) (Nat.le_of_ble_eq_true rfl)) (Nat.le_of_ble_eq_true rfl) (Nat.le_of_ble_eq_true rfl)) ?_
        have r0 := RC_win0 hR hw hl
        have r1 := RC_lov r0 hw ht (nI 6)
        have r2 := RC_lov r1 hl ht (nI 2)
        have e3 := (RC_rd hR hw).2.2.1
        have e4 := (RC_rd hR hl).2.2.1
        rw [e3, e4] at c1
        first | rw [e3] at c2 | rw [e4] at c2
        first | rw [e3] at c4 | rw [e4] at c4
        unfold win
        rw [if_neg c1, if_pos (Classical.not_not.mp c2), if_pos (Classical.not_not.mp c4)]
        exact r2
  · skip
    refine mw_aload i_70_35 (L := WR wi) rfl ?_
    refine mw_iload i_70_36 (x := nI t) rfl ?_
    refine mw_const i_70_37 (v := nI 3) (by decide) ?_
    refine mw_callV i_70_38 mf_30 (as := [pI (nI t), pI (nI 3)]) (rest := []) (d' := d9) (b' := b) (ls0 := [some (pR (some (WR wi))), some (pI (nI t)), some (pI (nI 3))]) rfl rfl rfl (Nat.le_of_ble_eq_true rfl) (hS.2.2.1 wi (by omega)).2.1 rfl rfl rfl ?_
    refine k_addLove (w := wi) (t := t) (x := nI 3) (by omega) hS (by omega) (by omega) ?_
    refine aft_n ?_
    refine mw_aload i_70_39 (L := WR lo) rfl ?_
    refine mw_iload i_70_40 (x := nI t) rfl ?_
    refine mw_const i_70_41 (v := (-1)) (by decide) ?_
    refine mw_callV i_70_42 mf_30 (as := [pI (nI t), pI (-1)]) (rest := []) (d' := d9) (b' := b) (ls0 := [some (pR (some (WR lo))), some (pI (nI t)), some (pI (-1))]) rfl rfl rfl (Nat.le_of_ble_eq_true rfl) (hS.2.2.1 lo (by omega)).2.1 rfl rfl rfl ?_
    refine k_addLove (w := lo) (t := t) (x := (-1)) (by omega) hS (by omega) (by omega) ?_
    refine aft_n ?_
    refine mw_goto i_70_43 ?_
    refine mw_ret i_70_62 ?_
    refine q _ (FrW_up (FrW_up (FrW_up (FrW_up (FrW_up (FrW_rfl) (Nat.le_of_ble_eq_true rfl) (Nat.le_of_ble_eq_true rfl)) (Nat.le_of_ble_eq_true rfl) (Nat.le_of_ble_eq_true rfl)) (Nat.le_of_ble_eq_true rfl) (Nat.le_of_ble_eq_true rfl)) (Nat.le_of_ble_eq_true rfl) (Nat.le_of_ble_eq_true rfl)) (Nat.le_of_ble_eq_true rfl) (Nat.le_of_ble_eq_true rfl)) ?_
    have r0 := RC_win0 hR hw hl
    have r1 := RC_lov r0 hw ht (nI 3)
    have r2 := RC_lov r1 hl ht ((-1))
    have e3 := (RC_rd hR hw).2.2.1
    have e4 := (RC_rd hR hl).2.2.1
    rw [e3, e4] at c1
    unfold win
    rw [if_pos (Classical.not_not.mp c1)]
    exact r2
set_option maxRecDepth 20000 in
set_option maxHeartbeats 200000 in
theorem k_stake0 {d b : Nat} {K : KM} {I : IM} {R : RM} {Q : QT} {f s : Int32}  (q : Q (.inl (some (pI (bI True)))) K I R) : Mw d b N_X5_isAtStake 0 [some (pR (some RING)), some (pI (-1)), some (pI f), some (pI s), none] [] K I R Q := by
  refine mw_iload i_65_0 (x := (-1)) rfl ?_
  refine mw_const i_65_1 (v := (-1)) (by decide) ?_
  refine mw_ic i_65_2 (p := ¬ (-1) = (-1)) Iff.rfl (fun c1 => ?_) (fun c1 => ?_)
  · skip
    exact absurd rfl c1
  · skip
    refine mw_const i_65_3 (v := nI 1) (by decide) ?_
    refine mw_iret i_65_4 (x := nI 1) (fun _ => (by decide)) ?_
    rw [bI_T] at q
    exact q
set_option maxRecDepth 20000 in
set_option maxHeartbeats 200000 in
theorem k_stake {d b : Nat} {K : KM} {I : IM} {R : RM} {Q : QT} {f s : Int32} {t : Nat} (hS : CS0 K R) (ht : t < 4) (q : Q (.inl (some (pI (bI (I (TT t) 3 = (-1) ∨ I (TT t) 3 = f ∨ I (TT t) 3 = s))))) K I R) : Mw d b N_X5_isAtStake 0 [some (pR (some RING)), some (pI (nI t)), some (pI f), some (pI s), none] [] K I R Q := by
  refine mw_iload i_65_0 (x := nI t) rfl ?_
  refine mw_const i_65_1 (v := (-1)) (by decide) ?_
  refine mw_ic i_65_2 (p := ¬ (nI t) = (-1)) Iff.rfl (fun c1 => ?_) (fun c1 => ?_)
  · skip
    refine mw_aload i_65_5 (L := RING) rfl ?_
    refine mw_getR i_65_6 hS.1.1 (q := some TIT) hS.1.2.2.1 ?_
    refine mw_iload i_65_7 (x := nI t) rfl ?_
    refine mw_aald i_65_8 (jn := t) (n := 4) (by omega) (by omega) hS.2.1.2.1 (by decide) (q := some (TT t)) (hS.2.2.2.1 t (by omega)).1 ?_
    refine mw_get i_65_9 (hS.2.2.2.1 t (by omega)).2.1 (v := I (TT t) 3) rfl ?_
    refine mw_istore i_65_10 (ls' := [some (pR (some RING)), some (pI (nI t)), some (pI f), some (pI s), some (pI (I (TT t) 3))]) rfl (Nat.le_of_ble_eq_true rfl) ?_
    refine mw_iload i_65_11 (x := I (TT t) 3) rfl ?_
    refine mw_const i_65_12 (v := (-1)) (by decide) ?_
    refine mw_ic i_65_13 (p := (I (TT t) 3) = (-1)) Iff.rfl (fun c2 => ?_) (fun c2 => ?_)
    · skip
      refine mw_const i_65_20 (v := nI 1) (by decide) ?_
      refine mw_goto i_65_21 ?_
      refine mw_iret i_65_23 (x := nI 1) (fun _ => (by decide)) ?_
      rw [show nI 1 = bI (I (TT t) 3 = (-1) ∨ I (TT t) 3 = f ∨ I (TT t) 3 = s) from (bI_t ((Or.inl (c2)))).symm]
      exact q
    · skip
      refine mw_iload i_65_14 (x := I (TT t) 3) rfl ?_
      refine mw_iload i_65_15 (x := f) rfl ?_
      refine mw_ic i_65_16 (p := (I (TT t) 3) = f) Iff.rfl (fun c3 => ?_) (fun c3 => ?_)
      · skip
        refine mw_const i_65_20 (v := nI 1) (by decide) ?_
        refine mw_goto i_65_21 ?_
        refine mw_iret i_65_23 (x := nI 1) (fun _ => (by decide)) ?_
        rw [show nI 1 = bI (I (TT t) 3 = (-1) ∨ I (TT t) 3 = f ∨ I (TT t) 3 = s) from (bI_t ((Or.inr (Or.inl (c3))))).symm]
        exact q
      · skip
        refine mw_iload i_65_17 (x := I (TT t) 3) rfl ?_
        refine mw_iload i_65_18 (x := s) rfl ?_
        refine mw_ic i_65_19 (p := ¬ (I (TT t) 3) = s) Iff.rfl (fun c4 => ?_) (fun c4 => ?_)
        · skip
          refine mw_const i_65_22 (v := nI 0) (by decide) ?_
          refine mw_iret i_65_23 (x := nI 0) (fun _ => (by decide)) ?_
          rw [show nI 0 = bI (I (TT t) 3 = (-1) ∨ I (TT t) 3 = f ∨ I (TT t) 3 = s) from (bI_f (fun h => by rcases h with h | h | h <;> contradiction)).symm]
          exact q
        · skip
          refine mw_const i_65_20 (v := nI 1) (by decide) ?_
          refine mw_goto i_65_21 ?_
          refine mw_iret i_65_23 (x := nI 1) (fun _ => (by decide)) ?_
          rw [show nI 1 = bI (I (TT t) 3 = (-1) ∨ I (TT t) 3 = f ∨ I (TT t) 3 = s) from (bI_t ((Or.inr (Or.inr (Classical.not_not.mp c4))))).symm]
          exact q
  · skip
    exact absurd (Classical.not_not.mp c1) (nI_nm1 (by omega))
