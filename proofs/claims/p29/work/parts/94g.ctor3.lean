/-! making the class: roster and titles; the reference -/
def WPs (i : Nat) (K : KM) (I : IM) (R : RM) : Prop := ∀ w, w < i → R ROS w = some (WR w) ∧ (K (WR w) = some (4, 0) ∧ R (WR w) 0 = some (LV w) ∧ R (WR w) 1 = some (CD w) ∧ R (WR w) 2 = some (WA w) ∧ K (LV w) = some (7, 4) ∧ K (CD w) = some (7, 10) ∧ K (WA w) = some (7, 10)) ∧ I (WR w) = upd (fun _ => 0) 13 (-1) ∧ I (LV w) = (fun _ => 0) ∧ (∀ o, o < 10 → I (CD w) o = (-1)) ∧ I (WA w) = fun _ => 0
def WFr (i : Nat) (K : KM) : Prop := ∀ w, i ≤ w → K (WR w) = none ∧ K (LV w) = none ∧ K (CD w) = none ∧ K (WA w) = none
def TPs (j : Nat) (K : KM) (I : IM) (R : RM) : Prop := ∀ t, t < j → R TIT t = some (TT t) ∧ (K (TT t) = some (3, 0) ∧ R (TT t) 0 = some (TH t) ∧ R (TT t) 1 = some (TD t) ∧ K (TH t) = some (7, 512) ∧ K (TD t) = some (7, 512)) ∧ I (TT t) = upd (fun _ => 0) 3 (-1)
def TFr (j : Nat) (K : KM) : Prop := ∀ t, j ≤ t → K (TT t) = none ∧ K (TH t) = none ∧ K (TD t) = none
theorem W_step {i : Nat} {K0 K K1 K2 : KM} {I0 I I1 I2 : IM} {R0 R R1 R2 R3 : RM} (hRS : RS K0 I0 R0 K I R) (hw : WPs i K I R) (hwf : WFr i K) (htf : TFr 0 K) (eK : K1 = setK K (WR i) (4, 0)) (eI : I1 = setI I (WR i) (fun _ => 0)) (eR : R1 = setR R (WR i) (fun _ => none)) (hwb : WB i K1 I1 R1 K2 I2 R2) (e3 : R3 = up2R R2 ROS i (some (WR i))) : RS K0 I0 R0 K2 I2 R3 ∧ WPs (i + 1) K2 I2 R3 ∧ WFr (i + 1) K2 ∧ TFr 0 K2 := by
  have hs : ∀ L, L ≠ WR i → L ≠ LV i → L ≠ CD i → L ≠ WA i → K2 L = K L ∧ I2 L = I L ∧ R2 L = R L := fun L a b c d => by
    obtain ⟨z1, z2, z3⟩ := hwb.1 L a b c d
    rw [z1, z2, z3, eK, eI, eR, setK_ne a, setI_ne a, setR_ne a]
    exact ⟨rfl, rfl, rfl⟩
  have h3 : ∀ L, L ≠ ROS → R3 L = R2 L := fun L h => by rw [e3, up2R_ne h]
  refine ⟨RS_eq hRS (fun L hL => ?_), fun w hw9 => ?_, fun w hw9 => ?_, fun t ht => ?_⟩
  · obtain ⟨z1, z2, z3⟩ := hs L (fun e => by subst e; exact absurd hL (by show ¬ (12 < 12 ∨ 18 < 12); decide)) (fun e => by subst e; exact absurd hL (by show ¬ (13 < 12 ∨ 18 < 13); decide)) (fun e => by subst e; exact absurd hL (by show ¬ (14 < 12 ∨ 18 < 14); decide)) (fun e => by subst e; exact absurd hL (by show ¬ (15 < 12 ∨ 18 < 15); decide))
    exact ⟨z1, z2, fun a b => by rw [h3 L a, z3]⟩
  · by_cases e : w = i
    · subst e
      obtain ⟨-, ⟨k1, k2, k3, k4, k5, k6, k7⟩, q⟩ := hwb
      exact ⟨by rw [e3, up2R_is], ⟨k1, by rw [h3 _ (by simp)]; exact k2, by rw [h3 _ (by simp)]; exact k3, by rw [h3 _ (by simp)]; exact k4, k5, k6, k7⟩, q⟩
    · obtain ⟨p0, ⟨k1, k2, k3, k4, k5, k6, k7⟩, q1, q2, q3, q4⟩ := hw w (by omega)
      have a := hs (WR w) (by simp [e]) (by simp) (by simp) (by simp)
      have b := hs (LV w) (by simp) (by simp [e]) (by simp) (by simp)
      have c := hs (CD w) (by simp) (by simp) (by simp [e]) (by simp)
      have d := hs (WA w) (by simp) (by simp) (by simp) (by simp [e])
      have r := hs ROS (by simp) (by simp) (by simp) (by simp)
      refine ⟨by rw [e3, up2R_slot e, r.2.2]; exact p0, ⟨by rw [a.1]; exact k1, by rw [h3 _ (by simp), a.2.2]; exact k2, by rw [h3 _ (by simp), a.2.2]; exact k3, by rw [h3 _ (by simp), a.2.2]; exact k4, by rw [b.1]; exact k5, by rw [c.1]; exact k6, by rw [d.1]; exact k7⟩, by rw [a.2.1]; exact q1, by rw [b.2.1]; exact q2, by rw [c.2.1]; exact q3, by rw [d.2.1]; exact q4⟩
  · have e : w ≠ i := by omega
    obtain ⟨p1, p2, p3, p4⟩ := hwf w (by omega)
    exact ⟨by rw [(hs (WR w) (by simp [e]) (by simp) (by simp) (by simp)).1]; exact p1, by rw [(hs (LV w) (by simp) (by simp [e]) (by simp) (by simp)).1]; exact p2, by rw [(hs (CD w) (by simp) (by simp) (by simp [e]) (by simp)).1]; exact p3, by rw [(hs (WA w) (by simp) (by simp) (by simp) (by simp [e])).1]; exact p4⟩
  · obtain ⟨p1, p2, p3⟩ := htf t ht
    exact ⟨by rw [(hs (TT t) (by simp) (by simp) (by simp) (by simp)).1]; exact p1, by rw [(hs (TH t) (by simp) (by simp) (by simp) (by simp)).1]; exact p2, by rw [(hs (TD t) (by simp) (by simp) (by simp) (by simp)).1]; exact p3⟩
theorem T_step {j : Nat} {K0 K K1 K2 : KM} {I0 I I1 I2 : IM} {R0 R R1 R2 R3 : RM} (hRS : RS K0 I0 R0 K I R) (hw : WPs 10 K I R) (ht : TPs j K I R) (htf : TFr j K) (eK : K1 = setK K (TT j) (3, 0)) (eI : I1 = setI I (TT j) (fun _ => 0)) (eR : R1 = setR R (TT j) (fun _ => none)) (htb : TB j K1 I1 R1 K2 I2 R2) (e3 : R3 = up2R R2 TIT j (some (TT j))) : RS K0 I0 R0 K2 I2 R3 ∧ WPs 10 K2 I2 R3 ∧ TPs (j + 1) K2 I2 R3 ∧ TFr (j + 1) K2 := by
  have hs : ∀ L, L ≠ TT j → L ≠ TH j → L ≠ TD j → K2 L = K L ∧ I2 L = I L ∧ R2 L = R L := fun L a b c => by
    obtain ⟨z1, z2, z3⟩ := htb.1 L a b c
    rw [z1, z2, z3, eK, eI, eR, setK_ne a, setI_ne a, setR_ne a]
    exact ⟨rfl, rfl, rfl⟩
  have h3 : ∀ L, L ≠ TIT → R3 L = R2 L := fun L h => by rw [e3, up2R_ne h]
  refine ⟨RS_eq hRS (fun L hL => ?_), fun w hw9 => ?_, fun t ht9 => ?_, fun t ht9 => ?_⟩
  · obtain ⟨z1, z2, z3⟩ := hs L (fun e => by subst e; exact absurd hL (by show ¬ (16 < 12 ∨ 18 < 16); decide)) (fun e => by subst e; exact absurd hL (by show ¬ (17 < 12 ∨ 18 < 17); decide)) (fun e => by subst e; exact absurd hL (by show ¬ (18 < 12 ∨ 18 < 18); decide))
    exact ⟨z1, z2, fun a b => by rw [h3 L b, z3]⟩
  · obtain ⟨p0, ⟨k1, k2, k3, k4, k5, k6, k7⟩, q1, q2, q3, q4⟩ := hw w hw9
    have a := hs (WR w) (by simp) (by simp) (by simp)
    have b := hs (LV w) (by simp) (by simp) (by simp)
    have c := hs (CD w) (by simp) (by simp) (by simp)
    have d := hs (WA w) (by simp) (by simp) (by simp)
    have r := hs ROS (by simp) (by simp) (by simp)
    exact ⟨by rw [h3 _ (by simp), r.2.2]; exact p0, ⟨by rw [a.1]; exact k1, by rw [h3 _ (by simp), a.2.2]; exact k2, by rw [h3 _ (by simp), a.2.2]; exact k3, by rw [h3 _ (by simp), a.2.2]; exact k4, by rw [b.1]; exact k5, by rw [c.1]; exact k6, by rw [d.1]; exact k7⟩, by rw [a.2.1]; exact q1, by rw [b.2.1]; exact q2, by rw [c.2.1]; exact q3, by rw [d.2.1]; exact q4⟩
  · by_cases e : t = j
    · subst e
      obtain ⟨-, ⟨k1, k2, k3, k4, k5⟩, q⟩ := htb
      exact ⟨by rw [e3, up2R_is], ⟨k1, by rw [h3 _ (by simp)]; exact k2, by rw [h3 _ (by simp)]; exact k3, k4, k5⟩, q⟩
    · obtain ⟨p0, ⟨k1, k2, k3, k4, k5⟩, q⟩ := ht t (by omega)
      have a := hs (TT t) (by simp [e]) (by simp) (by simp)
      have b := hs (TH t) (by simp) (by simp [e]) (by simp)
      have c := hs (TD t) (by simp) (by simp) (by simp [e])
      have r := hs TIT (by simp) (by simp) (by simp)
      exact ⟨by rw [e3, up2R_slot e, r.2.2]; exact p0, ⟨by rw [a.1]; exact k1, by rw [h3 _ (by simp), a.2.2]; exact k2, by rw [h3 _ (by simp), a.2.2]; exact k3, by rw [b.1]; exact k4, by rw [c.1]; exact k5⟩, by rw [a.2.1]; exact q⟩
  · have e : t ≠ j := by omega
    obtain ⟨p1, p2, p3⟩ := htf t (by omega)
    exact ⟨by rw [(hs (TT t) (by simp [e]) (by simp) (by simp)).1]; exact p1, by rw [(hs (TH t) (by simp) (by simp [e]) (by simp)).1]; exact p2, by rw [(hs (TD t) (by simp) (by simp) (by simp [e])).1]; exact p3⟩
set_option maxRecDepth 20000 in
set_option maxHeartbeats 400000 in
theorem k_Rw_lp {d : Nat} {Q : QT} {K0 : KM} {I0 : IM} {R0 : RM} (hd : 4 ≤ d)  (q : ∀ b K I R, RS K0 I0 R0 K I R → WPs 10 K I R → TFr 0 K → 4124 ≤ b → Mw d b N_X5_init 42 [some (pR (some RING)), some (pI (nI 10))] [] K I R Q) : ∀ (n i : Nat) (b : Nat) (K : KM) (I : IM) (R : RM), 10 - i < n → i ≤ 10 → (RS K0 I0 R0 K I R) → (WPs i K I R) → (WFr i K) → (TFr 0 K) → (42 * (10 - i) + 4124 ≤ b) → Mw d b N_X5_init 30 [some (pR (some RING)), some (pI (nI i))] [] K I R Q := by
  obtain ⟨d9, rfl⟩ : ∃ d9, d = d9 + 1 := ⟨d - 1, by omega⟩
  intro n
  induction n with
  | zero => intro i b K I R  hn; exact absurd hn (Nat.not_lt_zero _)
  | succ n ih =>
    intro i b K I R  hn hi hRS hw hwf htf hb
    refine mw_iload i_32_30 (x := nI i) rfl ?_
    refine mw_const i_32_31 (v := nI 10) (by decide) ?_
    refine mw_ic i_32_32 (p := 10 ≤ i) (nI_leI (by omega) (by omega)) (fun c1 => ?_) (fun c1 => ?_)
    · skip
      obtain rfl : i = 10 := by omega
      exact q _ _ _ _ hRS hw htf (by omega)
    · skip
      refine mw_aload i_32_33 (L := RING) rfl ?_
      refine mw_getR i_32_34 hRS.2.1.1 (q := some ROS) hRS.2.1.2.1 ?_
      refine mw_iload i_32_35 (x := nI i) rfl ?_
      obtain ⟨b22, rfl⟩ : ∃ b22, b = b22 + 15 := ⟨b - 15, by omega⟩
      obtain ⟨K22, eK22⟩ : ∃ K22, K22 = setK K (WR i) (4, 0) := ⟨_, rfl⟩
      obtain ⟨I22, eI22⟩ : ∃ I22, I22 = setI I (WR i) (fun _ => 0) := ⟨_, rfl⟩
      obtain ⟨R22, eR22⟩ : ∃ R22, R22 = setR R (WR i) (fun _ => none) := ⟨_, rfl⟩
      refine mw_new i_32_36 (WR i) (hwf i (Nat.le_refl _)).1 (b' := b22) (by first | rfl | omega) eK22.symm eI22.symm eR22.symm ?_
      refine mw_dup i_32_37 trivial ?_
      obtain ⟨b43, rfl⟩ : ∃ b43, b22 = b43 + 27 := ⟨b22 - 27, by omega⟩
      refine mw_callI i_32_38 mf_26 (as := []) (rest := [pR (some (WR i)), pI (nI i), pR (some ROS)]) (d' := d9) (b' := b43) (ls0 := [some (pR (some (WR i)))]) rfl rfl rfl (Nat.le_of_ble_eq_true rfl) (by rw [eK22, setK_at]) rfl (by omega) rfl ?_
      refine k_Winit (b := 0) (by omega) (by rw [eK22, setK_at]) (by rw [eI22, setI_at]) (by rw [eK22, setK_ne (by simp)]; exact (hwf i (Nat.le_refl _)).2.1) (by rw [eK22, setK_ne (by simp)]; exact (hwf i (Nat.le_refl _)).2.2.1) (by rw [eK22, setK_ne (by simp)]; exact (hwf i (Nat.le_refl _)).2.2.2) (fun K2 I2 R2 hwb => ?_)
      have hk4 : K2 (WR i) = some (4, 0) := hwb.2.1.1
      have hk5 : K2 ROS = some (12, 10) := by rw [(hwb.1 ROS (by simp) (by simp) (by simp) (by simp)).1, eK22, setK_ne (by simp)]; exact hRS.2.2.1.1
      refine ⟨⟨_, rfl⟩, aft_n ?_⟩
      obtain ⟨R24, eR24⟩ : ∃ R24, R24 = up2R R2 ROS i (some (WR i)) := ⟨_, rfl⟩
      refine mw_aast i_32_39 (jn := i) (n := 10) (by omega) (by omega) hk5 (by decide) hk4 (R' := R24) eR24.symm ?_
      refine mw_iinc i_32_40 (x := nI i) (v := nI (i + 1)) (ls' := [some (pR (some RING)), some (pI (nI (i + 1)))]) rfl (nI_add _ _) rfl ?_
      refine mw_goto i_32_41 ?_
      obtain ⟨z1, z2, z3, z4⟩ := W_step hRS hw hwf htf eK22 eI22 eR22 hwb eR24
      exact ih (i + 1) _ K2 I2 R24 (by omega) (by omega) z1 z2 z3 z4 (by omega)
set_option maxRecDepth 20000 in
set_option maxHeartbeats 400000 in
theorem k_Rt_lp {d : Nat} {Q : QT} {K0 : KM} {I0 : IM} {R0 : RM} (hd : 3 ≤ d)  (q : ∀ K I R, RS K0 I0 R0 K I R → WPs 10 K I R → TPs 4 K I R → Q (.inl none) K I R) : ∀ (n i : Nat) (b : Nat) (K : KM) (I : IM) (R : RM), 4 - i < n → i ≤ 4 → (RS K0 I0 R0 K I R) → (WPs 10 K I R) → (TPs i K I R) → (TFr i K) → (1031 * (4 - i) ≤ b) → Mw d b N_X5_init 44 [some (pR (some RING)), some (pI (nI i))] [] K I R Q := by
  obtain ⟨d9, rfl⟩ : ∃ d9, d = d9 + 1 := ⟨d - 1, by omega⟩
  intro n
  induction n with
  | zero => intro i b K I R  hn; exact absurd hn (Nat.not_lt_zero _)
  | succ n ih =>
    intro i b K I R  hn hi hRS hw ht htf hb
    refine mw_iload i_32_44 (x := nI i) rfl ?_
    refine mw_const i_32_45 (v := nI 4) (by decide) ?_
    refine mw_ic i_32_46 (p := 4 ≤ i) (nI_leI (by omega) (by omega)) (fun c1 => ?_) (fun c1 => ?_)
    · skip
      refine mw_ret i_32_56 ?_
      obtain rfl : i = 4 := by omega
      exact q _ _ _ hRS hw ht
    · skip
      refine mw_aload i_32_47 (L := RING) rfl ?_
      refine mw_getR i_32_48 hRS.2.1.1 (q := some TIT) hRS.2.1.2.2.1 ?_
      refine mw_iload i_32_49 (x := nI i) rfl ?_
      obtain ⟨b22, rfl⟩ : ∃ b22, b = b22 + 5 := ⟨b - 5, by omega⟩
      obtain ⟨K22, eK22⟩ : ∃ K22, K22 = setK K (TT i) (3, 0) := ⟨_, rfl⟩
      obtain ⟨I22, eI22⟩ : ∃ I22, I22 = setI I (TT i) (fun _ => 0) := ⟨_, rfl⟩
      obtain ⟨R22, eR22⟩ : ∃ R22, R22 = setR R (TT i) (fun _ => none) := ⟨_, rfl⟩
      refine mw_new i_32_50 (TT i) (htf i (Nat.le_refl _)).1 (b' := b22) (by first | rfl | omega) eK22.symm eI22.symm eR22.symm ?_
      refine mw_dup i_32_51 trivial ?_
      obtain ⟨b43, rfl⟩ : ∃ b43, b22 = b43 + 1026 := ⟨b22 - 1026, by omega⟩
      refine mw_callI i_32_52 mf_24 (as := []) (rest := [pR (some (TT i)), pI (nI i), pR (some TIT)]) (d' := d9) (b' := b43) (ls0 := [some (pR (some (TT i)))]) rfl rfl rfl (Nat.le_of_ble_eq_true rfl) (by rw [eK22, setK_at]) rfl (by omega) rfl ?_
      refine k_Tinit (b := 0) (by omega) (by rw [eK22, setK_at]) (by rw [eI22, setI_at]) (by rw [eK22, setK_ne (by simp)]; exact (htf i (Nat.le_refl _)).2.1) (by rw [eK22, setK_ne (by simp)]; exact (htf i (Nat.le_refl _)).2.2) (fun K2 I2 R2 htb => ?_)
      have hk4 : K2 (TT i) = some (3, 0) := htb.2.1.1
      have hk5 : K2 TIT = some (11, 4) := by rw [(htb.1 TIT (by simp) (by simp) (by simp)).1, eK22, setK_ne (by simp)]; exact hRS.2.2.1.2.1
      refine ⟨⟨_, rfl⟩, aft_n ?_⟩
      obtain ⟨R24, eR24⟩ : ∃ R24, R24 = up2R R2 TIT i (some (TT i)) := ⟨_, rfl⟩
      refine mw_aast i_32_53 (jn := i) (n := 4) (by omega) (by omega) hk5 (by decide) hk4 (R' := R24) eR24.symm ?_
      refine mw_iinc i_32_54 (x := nI i) (v := nI (i + 1)) (ls' := [some (pR (some RING)), some (pI (nI (i + 1)))]) rfl (nI_add _ _) rfl ?_
      refine mw_goto i_32_55 ?_
      obtain ⟨z1, z2, z3, z4⟩ := T_step hRS hw ht htf eK22 eI22 eR22 htb eR24
      exact ih (i + 1) _ K2 I2 R24 (by omega) (by omega) z1 z2 z3 z4 (by omega)
set_option maxRecDepth 20000 in
set_option maxHeartbeats 400000 in
theorem k_R42 {d b : Nat} {K : KM} {I : IM} {R : RM} {Q : QT} {j : Nat}  (q : Mw d b N_X5_init 44 [some (pR (some RING)), some (pI (nI 0))] [] K I R Q) : Mw d b N_X5_init 42 [some (pR (some RING)), some (pI (nI j))] [] K I R Q := by
  refine mw_const i_32_42 (v := nI 0) (by decide) ?_
  refine mw_istore i_32_43 (ls' := [some (pR (some RING)), some (pI (nI 0))]) rfl (Nat.le_of_ble_eq_true rfl) ?_
  exact q
theorem k_Rinit {d b : Nat} {K : KM} {I : IM} {R : RM} {Q : QT} (hd : 8 ≤ d) (h0 : K RING = some (5, 0)) (h0I : I RING = fun _ => 0) (hfr : ∀ L : Lb, 5 ≤ L.1 → K L = none) (q : ∀ K' I' R', RS K I R K' I' R' → WPs 10 K' I' R' → TPs 4 K' I' R' → Q (.inl none) K' I' R') : Mw d (b + 6000) N_X5_init 0 [some (pR (some RING)), none] [] K I R Q := by
  refine k_Rinit0 (by omega) h0 h0I hfr (fun K1 I1 R1 h1 hf1 => ?_)
  refine k_Rw_lp (by omega) (fun b2 K2 I2 R2 h2 hw2 ht2 hb2 => k_R42 (k_Rt_lp (by omega) q 5 0 b2 K2 I2 R2 (by omega) (by omega) h2 hw2 (fun t ht => absurd ht (Nat.not_lt_zero _)) ht2 (by omega))) 11 0 _ K1 I1 R1 (by omega) (by omega) h1 (fun w hw => absurd hw (Nat.not_lt_zero _)) (fun w _ => ?_) (fun t _ => ?_) (by omega)
  · exact ⟨hf1 _ (by show 12 ≤ 12; decide) (by show 12 ≤ 18; decide), hf1 _ (by show 12 ≤ 13; decide) (by show 13 ≤ 18; decide), hf1 _ (by show 12 ≤ 14; decide) (by show 14 ≤ 18; decide), hf1 _ (by show 12 ≤ 15; decide) (by show 15 ≤ 18; decide)⟩
  · exact ⟨hf1 _ (by show 12 ≤ 16; decide) (by show 16 ≤ 18; decide), hf1 _ (by show 12 ≤ 17; decide) (by show 17 ≤ 18; decide), hf1 _ (by show 12 ≤ 18; decide) (by show 18 ≤ 18; decide)⟩
def sg0 : ST := fun _ _ => 0
theorem n00 : (0 : Int32) = nI 0 := rfl
theorem smI_z {n : Nat} : smI (fun _ => (0 : Int32)) n = 0 := smI_00 (fun _ _ => rfl)
theorem IV_0 : IV 0 sg0 := by
  have ep : pn sg0 = 0 := rfl
  have et : tn sg0 = 0 := rfl
  have ed : dn sg0 = 0 := rfl
  refine ⟨⟨by rw [ep]; rfl, by omega⟩, ⟨by rw [et]; rfl, by omega⟩, ⟨by rw [ed]; rfl, by omega⟩, fun w hw => ⟨⟨0, by omega, rfl⟩, ⟨0, by omega, rfl⟩, Or.inl rfl, ⟨0, by omega, rfl⟩, ⟨0, by omega, rfl⟩, fun t ht => ⟨0, by omega, Or.inl rfl⟩, fun o ho => ⟨0, by omega, rfl⟩, fun _ => rfl⟩, fun t ht => ⟨rfl, Nat.le_refl _⟩, fun d hd => ⟨rfl, Nat.zero_le _, Or.inl rfl, fun h => absurd rfl h, fun j hj => absurd hj (Nat.not_lt_zero _), fun i j hi => absurd hi (Nat.not_lt_zero _)⟩, fun w o hw ho => ?_⟩
  show (0 : Int32) = smI (fun d => if (0 : Int32) = nI 1 then wcn sg0 d w o (mn sg0 d) else nI 0) 1000
  exact (smI_00 (fun d hd => if_neg (by decide))).symm
theorem CW_0 {K0 K : KM} {I0 I : IM} {R0 R : RM} (h : RS K0 I0 R0 K I R) (hw : WPs 10 K I R) (ht : TPs 4 K I R) : CW 0 sg0 K I R := by
  obtain ⟨h1, h2, h3, h4, h5, h6, h7, h8, h9, h10⟩ := h
  have hpm : ∀ j, j < 6 → pm R 1000 j = j := fun j hj => by
    unfold pm
    rw [(h5.2.2.2.2.1 j hj).2]
  refine ⟨⟨⟨h2, h3, fun w q => ⟨(hw w q).1, (hw w q).2.1⟩, fun t q => ⟨(ht t q).1, (ht t q).2.1⟩, h4⟩, ?_, fun c hc => Or.inl ⟨h6 c, (h10 c hc).1, (h10 c hc).2.1, (h10 c hc).2.2⟩⟩, ⟨⟨by rw [h7]; rfl, by rw [h7]; rfl, by rw [h7]; rfl⟩, fun t _ => by rw [h8]; rfl, fun w q => ?_, fun t q => ?_, ⟨by rw [h9]; rfl, by rw [h9]; rfl⟩, fun d _ => Or.inl ⟨h6 d, rfl, rfl⟩⟩, IV_0⟩
  · obtain ⟨c1, c2, c3, c4, c5, c6⟩ := h5
    refine ⟨c1, c2, c3, c4, fun j hj => ?_, fun i j hi hj e => ?_⟩
    · rw [hpm j hj]; exact c5 j hj
    · rw [hpm i hi, hpm j hj] at e; exact e
  · obtain ⟨-, -, e1, e2, e3, e4⟩ := hw w q
    unfold RCw
    rw [e1, e2, e4]
    refine ⟨rfl, rfl, rfl, rfl, rfl, rfl, ?_, rfl, rfl, rfl, fun t _ => rfl, fun o ho => ?_, fun o _ => rfl, Or.inl ⟨rfl, Or.inl ?_⟩⟩
    · exact (smI_00 (fun _ _ => rfl)).symm
    · rw [e3 o ho]; rfl
    · rw [e1]; rfl
  · obtain ⟨-, -, e1⟩ := ht t q
    refine ⟨by rw [e1]; rfl, by rw [e1]; rfl, fun j hj => absurd hj (Nat.not_lt_zero _)⟩
