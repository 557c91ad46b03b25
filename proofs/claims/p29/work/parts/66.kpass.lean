/-! the class: pass -/
/-- a strain behind a day of rest -/
def rst (x : Int32) : Int32 := if nI 0 < x - nI 10 then x - nI 10 else nI 0
/-- those below i have rested -/
def reS (σ : ST) (i : Nat) : ST := fun k => if k = 5 then (fun w => if w < i then rst (σ 5 w) else σ 5 w) else σ k
theorem reS_o {σ : ST} {i k : Nat} (h : k ≠ 5) : reS σ i k = σ k := if_neg h
theorem reS_5 {σ : ST} {i w : Nat} : reS σ i 5 w = if w < i then rst (σ 5 w) else σ 5 w := rfl
theorem reS_0 {σ : ST} : reS σ 0 = σ := by
  funext k w
  unfold reS
  by_cases h : k = 5
  · rw [if_pos h, if_neg (Nat.not_lt_zero _), h]
  · rw [if_neg h]
theorem reS_s {σ : ST} {i : Nat} : reS σ (i + 1) = ups (reS σ i) 5 i (rst (σ 5 i)) := by
  funext k w
  by_cases h : k = 5
  · subst h
    rw [ups_at]
    by_cases e : w = i
    · subst e
      rw [upd_at, reS_5, if_pos (by omega)]
    · rw [upd_ne e, reS_5, reS_5]
      by_cases e2 : w < i
      · rw [if_pos e2, if_pos (by omega)]
      · rw [if_neg e2, if_neg (by omega)]
  · rw [ups_ne h, reS_o h, reS_o h]
set_option maxRecDepth 20000 in
set_option maxHeartbeats 400000 in
theorem k_rest_lp {d : Nat} {b : Nat} {K : KM} {R : RM} {Q : QT} {σ : ST} {I0 : IM} {L1 : Lb} (hd : 1 ≤ d) (hS : CS0 K R) (hpp : pn σ ≤ 10) (hP : σ 14 0 = nI (pn σ)) (q : ∀ I', FrW I0 I' → RC (reS σ (pn σ)) I' R → Mw d b N_X5_pass 42 [some (pR (some RING)), some (pR (some L1)), some (pI (nI (pn σ)))] [] K I' R Q) : ∀ (n i : Nat) (I : IM), pn σ - i < n → i ≤ pn σ → (FrW I0 I) → (RC (reS σ i) I R) → Mw d b N_X5_pass 22 [some (pR (some RING)), some (pR (some L1)), some (pI (nI i))] [] K I R Q := by
  obtain ⟨d9, rfl⟩ : ∃ d9, d = d9 + 1 := ⟨d - 1, by omega⟩
  intro n
  induction n with
  | zero => intro i I  hn; exact absurd hn (Nat.not_lt_zero _)
  | succ n ih =>
    intro i I  hn hi hF hr
    have hP6 : I RING 6 = nI (pn σ) := hr.1.1.trans (by rw [reS_o (by decide)]; exact hP)
    refine mw_iload i_45_22 (x := nI i) rfl ?_
    refine mw_aload i_45_23 (L := RING) rfl ?_
    refine mw_get i_45_24 hS.1.1 (v := nI (pn σ)) hP6 ?_
    refine mw_ic i_45_25 (p := (pn σ) ≤ i) (nI_leI (by omega) (by omega)) (fun c1 => ?_) (fun c1 => ?_)
    · skip
      obtain rfl : i = pn σ := by omega
      exact q _ hF hr
    · skip
      have h5i : I (WR i) 6 = σ 5 i := (RC_rd hr (w := i) (by omega)).2.2.2.1.trans (by rw [reS_5, if_neg (Nat.lt_irrefl _)])
      refine mw_aload i_45_26 (L := RING) rfl ?_
      refine mw_getR i_45_27 hS.1.1 (q := some ROS) hS.1.2.1 ?_
      refine mw_iload i_45_28 (x := nI i) rfl ?_
      refine mw_aald i_45_29 (jn := i) (n := 10) (by omega) (by omega) hS.2.1.1 (by decide) (q := some (WR i)) (hS.2.2.1 i (by omega)).1 ?_
      refine mw_const i_45_30 (v := nI 0) (by decide) ?_
      refine mw_aload i_45_31 (L := RING) rfl ?_
      refine mw_getR i_45_32 hS.1.1 (q := some ROS) hS.1.2.1 ?_
      refine mw_iload i_45_33 (x := nI i) rfl ?_
      refine mw_aald i_45_34 (jn := i) (n := 10) (by omega) (by omega) hS.2.1.1 (by decide) (q := some (WR i)) (hS.2.2.1 i (by omega)).1 ?_
      refine mw_get i_45_35 (hS.2.2.1 i (by omega)).2.1 (v := σ 5 i) h5i ?_
      refine mw_const i_45_36 (v := nI 10) (by decide) ?_
      refine mw_isub i_45_37 (w := ((σ 5 i) - (nI 10))) rfl ?_
      refine mw_max i_45_38 (Nat.le_of_ble_eq_true rfl) (by omega) (w := (if nI 0 < ((σ 5 i) - (nI 10)) then ((σ 5 i) - (nI 10)) else nI 0)) rfl ?_
      obtain ⟨I22, e22⟩ : ∃ I22, I22 = up2 I (WR i) 6 (if nI 0 < ((σ 5 i) - (nI 10)) then ((σ 5 i) - (nI 10)) else nI 0) := ⟨_, rfl⟩
      refine mw_put i_45_39 (x := (if nI 0 < ((σ 5 i) - (nI 10)) then ((σ 5 i) - (nI 10)) else nI 0)) (hS.2.2.1 i (by omega)).2.1 (I' := I22) e22.symm ?_
      refine mw_iinc i_45_40 (x := nI i) (v := nI (i + 1)) (ls' := [some (pR (some RING)), some (pR (some L1)), some (pI (nI (i + 1)))]) rfl (nI_add _ _) rfl ?_
      refine mw_goto i_45_41 ?_
      refine ih (i + 1) _ (by omega) (by omega) (by rw [e22]; exact FrW_up hF (Nat.le_of_ble_eq_true rfl) (Nat.le_of_ble_eq_true rfl)) ?_
      rw [reS_s, e22]
      exact RC_strain hr (w := i) (rst (σ 5 i))
/-- a day's card that was not played is empty -/
def cdS (σ : ST) : ST := if σ 22 (dn σ) = nI 0 then ups σ 20 (dn σ) (nI 0) else σ
/-- the next day -/
def dyS (σ : ST) : ST := fun k j => if k = 0 then nI (dn σ + 1) else if k = 10 then (if j < pn σ then nI 0 else σ 10 j) else σ k j
theorem dyS_o {σ : ST} {k : Nat} (h : k ≠ 0) (h2 : k ≠ 10) : dyS σ k = σ k := by
  funext j
  unfold dyS
  rw [if_neg h, if_neg h2]
theorem RC_day {σ : ST} {I : IM} {R : RM} (h : RC σ I R) (hd : dn σ ≤ 999) (hd0 : σ 0 0 = nI (dn σ)) (h10 : ∀ w, w < 10 → pn σ ≤ w → σ 10 w = nI 0) : RC (dyS σ) (up2 I RING 8 (nI (dn σ + 1))) R := by
  obtain ⟨⟨a1, a2, a3⟩, g, w, t, ⟨n1, n2⟩, c⟩ := h
  have e : ∀ L : Lb, L.1 ≠ 4 → up2 I RING 8 (nI (dn σ + 1)) L = I L := fun L hL => up2_ne (fun e => by subst e; exact hL rfl)
  refine ⟨⟨?_, ?_, ?_⟩, fun q hq => ?_, fun q hq => ?_, fun q hq => ?_, ⟨?_, ?_⟩, fun q hq => ?_⟩
  · rw [up2_at, upd_ne (by decide), dyS_o (by decide) (by decide)]; exact a1
  · rw [up2_at, upd_ne (by decide), dyS_o (by decide) (by decide)]; exact a2
  · rw [up2_at, upd_at]; rfl
  · rw [e GAT (by decide), dyS_o (by decide) (by decide)]; exact g q hq
  · have hq9 := w q hq
    unfold RCw at hq9 ⊢
    rw [e (WR q) (by show 12 ≠ 4; decide), e (LV q) (by show 13 ≠ 4; decide), e (CD q) (by show 14 ≠ 4; decide), e (WA q) (by show 15 ≠ 4; decide)]
    rw [dyS_o (k := 1) (by decide) (by decide), dyS_o (k := 2) (by decide) (by decide), dyS_o (k := 3) (by decide) (by decide), dyS_o (k := 4) (by decide) (by decide), dyS_o (k := 5) (by decide) (by decide), dyS_o (k := 6) (by decide) (by decide), dyS_o (k := 7) (by decide) (by decide), dyS_o (k := 8) (by decide) (by decide), dyS_o (k := 9) (by decide) (by decide), dyS_o (k := 11) (by decide) (by decide), dyS_o (k := 12) (by decide) (by decide), dyS_o (k := 13) (by decide) (by decide)]
    obtain ⟨h3, h4, h5, h6, h7, h8, h9, h10b, h11, h12, hl, hc, ha, hp⟩ := hq9
    refine ⟨h3, h4, h5, h6, h7, h8, h9, h10b, h11, h12, hl, hc, ha, ?_⟩
    have ed : (dyS σ 0 0).toNatClampNeg = dn σ + 1 := nI_clamp (by omega)
    have e10 : dyS σ 10 q = nI 0 := by
      show (if q < pn σ then nI 0 else σ 10 q) = nI 0
      by_cases hqp : q < pn σ
      · rw [if_pos hqp]
      · rw [if_neg hqp]; exact h10 q hq (by omega)
    unfold prO at hp ⊢
    rw [ed, e10, e (WR q) (by show 12 ≠ 4; decide)]
    refine Or.inl ⟨rfl, ?_⟩
    rcases hp with ⟨-, hp | ⟨k, hk, hp⟩⟩ | ⟨-, hp⟩
    · exact Or.inl hp
    · exact Or.inr ⟨k, Nat.lt_succ_of_lt hk, hp⟩
    · exact Or.inr ⟨dn σ, Nat.lt_succ_self _, hp.trans hd0⟩
  · exact RCt_eq (e _ (by show 16 ≠ 4; decide)) (e _ (by show 17 ≠ 4; decide)) (e _ (by show 18 ≠ 4; decide)) (dyS_o (by decide) (by decide)) (dyS_o (by decide) (by decide)) (dyS_o (by decide) (by decide)) (t q hq)
  · rw [e (CA 1000) (by decide)]; exact n1
  · rw [e (CA 1000) (by decide)]; exact n2
  · exact RCc_eq (e _ (by show 19 ≠ 4; decide)) (fun j => e _ (by show 21 ≠ 4; decide)) (dyS_o (by decide) (by decide)) (dyS_o (by decide) (by decide)) (dyS_o (by decide) (by decide)) (dyS_o (by decide) (by decide)) (c q hq)
theorem RC_drop {n : Nat} {σ : ST} {K : KM} {I : IM} {R : RM} (hW : CW n σ K I R) {x : Nat} (hx : x < 1000) (h0 : σ 22 x = nI 0) : RC (ups σ 20 x (nI 0)) (up2 I (CA (cix R x)) 2 (nI 0)) R := by
  have hall : ∀ d, d < 1000 → mn σ d ≤ 6 := fun d hd => (hW.2.2.2.2.2.2.2.1 d hd).2.1
  refine RC_C hW.2.1 (fun L hL => up2_ne (fun e => by subst e; exact absurd hL (by show ¬ 19 < 19; decide))) (fun k hk => ups_ne (by omega)) ?_ (fun d hd => ?_)
  · have hN := hW.2.1.2.2.2.2.1
    by_cases e : cix R x = 1000
    · rw [e, up2_at, upd_at, upd_ne (by decide)]; exact ⟨rfl, hN.2⟩
    · rw [up2_ne (by simp; omega)]; exact hN
  · have hc := hW.2.1.2.2.2.2.2 d hd
    by_cases e : d = x
    · subst e
      rcases hc with ⟨c1, c2, c3⟩ | ⟨c1, c2, c3, c4, c5⟩
      · exact Or.inl ⟨c1, by rw [ups_at, upd_at], by rw [ups_ne (by decide)]; exact c3⟩
      · have ec : cix R d = d := if_neg (by rw [c1]; exact fun q => by cases q)
        have em : mn (ups σ 20 d (nI 0)) d = 0 := by unfold mn; rw [ups_at, upd_at]; rfl
        rw [ec]
        exact Or.inr ⟨c1, by rw [up2_at, upd_at, ups_at, upd_at], by rw [up2_at, upd_ne (by decide), ups_ne (by decide)]; exact c3, fun q => absurd em q, fun j hj => absurd hj (by omega)⟩
    · have hne : cix R x ≠ d := by
        unfold cix
        split
        · omega
        · exact fun q => e q.symm
      exact RCc_eq2 hc (hall d hd) rfl rfl (up2_ne (by simp; exact fun q => hne q.symm)) (fun j => up2_ne (by simp)) (by rw [ups_at, upd_ne e]) (by rw [ups_ne (by decide)]) (by rw [ups_ne (by decide)]) (fun k hk => by rw [ups_ne (by decide)])
theorem cd_o {σ : ST} {k : Nat} (h : k ≠ 20) : cdS σ k = σ k := by
  unfold cdS
  split
  · exact ups_ne h
  · rfl
noncomputable def psS (σ : ST) : ST := dyS (reS (cdS σ) (pn (cdS σ)))
theorem ps_pn {σ : ST} : pn (cdS σ) = pn σ := by unfold pn; rw [cd_o (by decide)]
theorem ps_dn {σ : ST} {p : Nat} : dn (reS (cdS σ) p) = dn σ := by unfold dn; rw [reS_o (by decide), cd_o (by decide)]
theorem ps_pn2 {σ : ST} {p : Nat} : pn (reS (cdS σ) p) = pn σ := by unfold pn; rw [reS_o (by decide), cd_o (by decide)]
set_option maxRecDepth 20000 in
set_option maxHeartbeats 400000 in
theorem k_pass2 {d b : Nat} {K : KM} {I : IM} {R : RM} {Q : QT} {L1 : Lb} {pp dd : Nat} (hS : CS0 K R) (h8 : I RING 8 = nI dd) (q : Q (.inl (some (pI (nI (dd + 1))))) K (up2 I RING 8 (nI (dd + 1))) R) : Mw d b N_X5_pass 42 [some (pR (some RING)), some (pR (some L1)), some (pI (nI pp))] [] K I R Q := by
  refine mw_aload i_45_42 (L := RING) rfl ?_
  refine mw_dup i_45_43 trivial ?_
  refine mw_get i_45_44 hS.1.1 (v := nI dd) h8 ?_
  refine mw_const i_45_45 (v := nI 1) (by decide) ?_
  refine mw_iadd i_45_46 (w := nI (dd + 1)) (nI_add _ _) ?_
  refine mw_put i_45_47 (x := nI (dd + 1)) hS.1.1 (I' := up2 I RING 8 (nI (dd + 1))) rfl ?_
  refine mw_aload i_45_48 (L := RING) rfl ?_
  refine mw_get i_45_49 hS.1.1 (v := nI (dd + 1)) (by rw [up2_at, upd_at]) ?_
  refine mw_iretI i_45_50 (x := nI (dd + 1)) rt_45 ?_
  exact q
set_option maxRecDepth 20000 in
set_option maxHeartbeats 400000 in
theorem k_pass {d b : Nat} {K : KM} {I : IM} {R : RM} {Q : QT} {n : Nat} {σ : ST}  (hd : 8 ≤ d) (hW : CW n σ K I R) (hb : 7 ≤ b) (hn : n < 512)  (q1 : ¬ dn σ < 999 → Q (.inr 2) K I R) (q0 : dn σ < 999 → ∀ I', FrC I I' → RC (psS σ) I' R → ∀ v, v = nI (dn σ + 1) → Q (.inl (some (pI v))) K I' R) : Mw d b N_X5_pass 0 [some (pR (some RING)), none, none] [] K I R Q := by
  obtain ⟨d9, rfl⟩ : ∃ d9, d = d9 + 1 := ⟨d - 1, by omega⟩
  have hS := hW.1.1
  have hR := hW.2.1
  have hV := hW.2.2
  have hpp := hW.2.2.1.2
  have htt := hW.2.2.2.1.2
  have hdd := hW.2.2.2.2.1.2
  refine mw_aload i_45_0 (L := RING) rfl ?_
  refine mw_get i_45_1 hS.1.1 (v := nI (dn σ)) (CW_d hW) ?_
  refine mw_const i_45_2 (v := nI 999) (by decide) ?_
  refine mw_ic i_45_3 (p := (dn σ) < 999) (nI_ltI (by omega) (by omega)) (fun c1 => ?_) (fun c1 => ?_)
  · skip
    refine mw_aload i_45_9 (L := RING) rfl ?_
    refine mw_aload i_45_10 (L := RING) rfl ?_
    refine mw_get i_45_11 hS.1.1 (v := nI (dn σ)) (CW_d hW) ?_
    obtain ⟨hC_dnσ, hz_dnσ, hz6_dnσ, hp_dnσ, ht0_dnσ, hm_dnσ⟩ := CW_c hW (d := dn σ) (by omega)
    refine mw_callV i_45_12 mf_63 (as := [pI (nI (dn σ))]) (rest := []) (d' := d9) (b' := b) (ls0 := [some (pR (some RING)), some (pI (nI (dn σ)))]) rfl rfl rfl (Nat.le_of_ble_eq_true rfl) hS.1.1 rfl rfl rfl ?_
    refine k_cardOf (by omega) hW.1 (by omega) ?_
    refine aft_v ?_
    refine mw_astore i_45_13 (ls' := [some (pR (some RING)), some (pR (some (CA (cix R (dn σ))))), none]) rfl (Nat.le_of_ble_eq_true rfl) ?_
    refine mw_aload i_45_14 (L := CA (cix R (dn σ))) rfl ?_
    refine mw_get i_45_15 hC_dnσ.1 (v := σ 22 (dn σ)) hp_dnσ ?_
    refine mw_if i_45_16 (p := ¬ (σ 22 (dn σ)) = nI 0) Iff.rfl (fun c2 => ?_) (fun c2 => ?_)
    · skip
      refine mw_const i_45_20 (v := nI 0) (by decide) ?_
      refine mw_istore i_45_21 (ls' := [some (pR (some RING)), some (pR (some (CA (cix R (dn σ))))), some (pI (nI 0))]) rfl (Nat.le_of_ble_eq_true rfl) ?_
      have hcd : RC (cdS σ) I R := by
        unfold cdS
        rw [if_neg c2]
        exact hR
      refine k_rest_lp (σ := cdS σ) (I0 := I) (by omega) hS (by rw [ps_pn]; exact hpp) (by rw [ps_pn, cd_o (by decide)]; exact hV.1.1) (fun I9 hF9 hr9 => ?_) (pn (cdS σ) + 1) 0 _ (by omega) (by omega) FrW_rfl (by rw [reS_0]; exact hcd)
      have h8 : I9 RING 8 = nI (dn σ) := hr9.1.2.2.trans (by rw [reS_o (by decide), cd_o (by decide)]; exact hV.2.2.1.1)
      refine k_pass2 hS h8 (q0 (by omega) _ (FrC_up (FrC_tr (FrC_rfl) (FrC_W hF9)) (Nat.le_of_ble_eq_true rfl)) ?_ _ rfl)
      have hz := RC_day hr9 (by rw [ps_dn]; exact hdd) (by rw [ps_dn, reS_o (by decide), cd_o (by decide)]; exact hV.2.2.1.1) (fun w hw h9 => by rw [ps_pn2] at h9; rw [reS_o (by decide), cd_o (by decide)]; exact (hV.2.2.2.1 w hw).2.2.2.2.2.2.2 h9)
      rw [ps_dn] at hz
      exact hz
    · skip
      refine mw_aload i_45_17 (L := CA (cix R (dn σ))) rfl ?_
      refine mw_const i_45_18 (v := nI 0) (by decide) ?_
      obtain ⟨I23, e23⟩ : ∃ I23, I23 = up2 I (CA (cix R (dn σ))) 2 (nI 0) := ⟨_, rfl⟩
      refine mw_put i_45_19 (x := nI 0) hC_dnσ.1 (I' := I23) e23.symm ?_
      refine mw_const i_45_20 (v := nI 0) (by decide) ?_
      refine mw_istore i_45_21 (ls' := [some (pR (some RING)), some (pR (some (CA (cix R (dn σ))))), some (pI (nI 0))]) rfl (Nat.le_of_ble_eq_true rfl) ?_
      have hcd : RC (cdS σ) I23 R := by
        rw [e23]
        unfold cdS
        rw [if_pos (by first | exact c2 | exact Classical.not_not.mp c2)]
        exact RC_drop hW (by omega) (by first | exact c2 | exact Classical.not_not.mp c2)
      refine k_rest_lp (σ := cdS σ) (I0 := I23) (by omega) hS (by rw [ps_pn]; exact hpp) (by rw [ps_pn, cd_o (by decide)]; exact hV.1.1) (fun I9 hF9 hr9 => ?_) (pn (cdS σ) + 1) 0 _ (by omega) (by omega) FrW_rfl (by rw [reS_0]; exact hcd)
      have h8 : I9 RING 8 = nI (dn σ) := hr9.1.2.2.trans (by rw [reS_o (by decide), cd_o (by decide)]; exact hV.2.2.1.1)
      refine k_pass2 hS h8 (q0 (by omega) _ (FrC_up (FrC_tr ((e23.symm ▸ FrC_up (FrC_rfl) (Nat.le_of_ble_eq_true rfl))) (FrC_W hF9)) (Nat.le_of_ble_eq_true rfl)) ?_ _ rfl)
      have hz := RC_day hr9 (by rw [ps_dn]; exact hdd) (by rw [ps_dn, reS_o (by decide), cd_o (by decide)]; exact hV.2.2.1.1) (fun w hw h9 => by rw [ps_pn2] at h9; rw [reS_o (by decide), cd_o (by decide)]; exact (hV.2.2.2.1 w hw).2.2.2.2.2.2.2 h9)
      rw [ps_dn] at hz
      exact hz
  · skip
    refine mw_throw i_45_4 hx_45 (by omega) (by omega) ?_
    exact q1 (by omega)
