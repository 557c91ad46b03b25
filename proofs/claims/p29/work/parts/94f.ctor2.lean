/-! making the class -/
def Old (L : Lb) : Prop := L.1 < 4 ∨ (12 ≤ L.1 ∧ L.1 ≤ 18) ∨ (19 ≤ L.1 ∧ L.2.1 < 1000)
theorem Old_NC {L : Lb} (h : Old L) {c : Nat} (hc : 1000 ≤ c) : NC c L := ⟨fun e => by unfold Old at h; omega, fun e => by unfold Old at h; omega⟩
theorem Old_NM {L : Lb} (h : Old L) : NM L := ⟨fun e => by unfold Old at h; omega, fun e => by unfold Old at h; omega, fun e => by unfold Old at h; omega, fun e => by subst e; exact absurd h (by unfold Old; decide), Old_NC h (by decide)⟩
theorem Old_ne {L M : Lb} (h : Old L) (hM : ¬ Old M) : L ≠ M := fun e => hM (e ▸ h)
/-- what stands before the roster is made -/
def RS (K0 : KM) (I0 : IM) (R0 : RM) (K : KM) (I : IM) (R : RM) : Prop := (∀ L : Lb, L.1 < 4 → K L = K0 L ∧ I L = I0 L ∧ R L = R0 L) ∧
  (K RING = some (5, 0) ∧ R RING 0 = some ROS ∧ R RING 1 = some TIT ∧ R RING 2 = some CRD ∧ R RING 3 = some (CA 1000) ∧ R RING 4 = some GAT ∧ R RING 5 = some MEN) ∧
  (K ROS = some (12, 10) ∧ K TIT = some (11, 4) ∧ K CRD = some (9, 1000) ∧ K GAT = some (7, 4) ∧ K MEN = some (2, 0)) ∧ (∀ k, k < 8 → R MEN k = some (MN k) ∧ K (MN k) = some (mnk k, mnl k)) ∧ COp K R 1000 (fun j => j) ∧
  (∀ d, R CRD d = none) ∧ I RING = (fun _ => 0) ∧ I GAT = (fun _ => 0) ∧ I (CA 1000) = (fun _ => 0) ∧ ∀ c, c < 1000 → K (CA c) = none ∧ K (MM c) = none ∧ ∀ j, K (MT c j) = none
theorem RS_eq {K0 K K' : KM} {I0 I I' : IM} {R0 R R' : RM} (h : RS K0 I0 R0 K I R) (e : ∀ L : Lb, (L.1 < 12 ∨ 18 < L.1) → K' L = K L ∧ I' L = I L ∧ (L ≠ ROS → L ≠ TIT → R' L = R L)) : RS K0 I0 R0 K' I' R' := by
  obtain ⟨h1, ⟨a1, a2, a3, a4, a5, a6, a7⟩, ⟨b1, b2, b3, b4, b5⟩, h4, ⟨c1, c2, c3, c4, c5, c6⟩, h6, h7, h8, h9, h10⟩ := h
  have lo : ∀ L : Lb, L.1 < 12 → K' L = K L ∧ I' L = I L ∧ (L ≠ ROS → L ≠ TIT → R' L = R L) := fun L q => e L (Or.inl q)
  have hi : ∀ L : Lb, 18 < L.1 → K' L = K L ∧ I' L = I L ∧ R' L = R L := fun L q => ⟨(e L (Or.inr q)).1, (e L (Or.inr q)).2.1, (e L (Or.inr q)).2.2 (fun z => by subst z; exact absurd q (by decide)) (fun z => by subst z; exact absurd q (by decide))⟩
  have r4 := lo RING (by decide)
  have hr4 := r4.2.2 (by simp) (by simp)
  have r9 := lo MEN (by decide)
  have hr9 := r9.2.2 (by simp) (by simp)
  have hm : ∀ k, K' (MN k) = K (MN k) := fun k => (lo (MN k) (by show 10 < 12; decide)).1
  have ha := hi (CA 1000) (by show 18 < 19; decide)
  have hb := hi (MM 1000) (by show 18 < 20; decide)
  refine ⟨fun L q => ?_, ⟨by rw [r4.1]; exact a1, by rw [hr4]; exact a2, by rw [hr4]; exact a3, by rw [hr4]; exact a4, by rw [hr4]; exact a5, by rw [hr4]; exact a6, by rw [hr4]; exact a7⟩, ⟨by rw [(lo ROS (by decide)).1]; exact b1, by rw [(lo TIT (by decide)).1]; exact b2, by rw [(lo CRD (by decide)).1]; exact b3, by rw [(lo GAT (by decide)).1]; exact b4, by rw [r9.1]; exact b5⟩, fun k hk => ⟨by rw [hr9]; exact (h4 k hk).1, by rw [hm]; exact (h4 k hk).2⟩, ⟨by rw [ha.1]; exact c1, by rw [ha.2.2]; exact c2, by rw [hb.1]; exact c3, fun j hj => by rw [(hi (MT 1000 j) (by show 18 < 21; decide)).1]; exact c4 j hj, fun j hj => by rw [hb.2.2]; exact c5 j hj, c6⟩, fun d => by rw [(lo CRD (by decide)).2.2 (by simp) (by simp)]; exact h6 d, by rw [r4.2.1]; exact h7, by rw [(lo GAT (by decide)).2.1]; exact h8, by rw [ha.2.1]; exact h9, fun c hc => ⟨by rw [(hi (CA c) (by show 18 < 19; decide)).1]; exact (h10 c hc).1, by rw [(hi (MM c) (by show 18 < 20; decide)).1]; exact (h10 c hc).2.1, fun j => by rw [(hi (MT c j) (by show 18 < 21; decide)).1]; exact (h10 c hc).2.2 j⟩⟩
  have z := lo L (by omega)
  have z2 := h1 L q
  rw [z.1, z.2.1, z.2.2 (fun y => by subst y; exact absurd q (by decide)) (fun y => by subst y; exact absurd q (by decide))]
  exact z2
set_option maxRecDepth 20000 in
set_option maxHeartbeats 400000 in
theorem k_Rinit0 {d b : Nat} {K : KM} {I : IM} {R : RM} {Q : QT}  (hd : 6 ≤ d) (h0 : K RING = some (5, 0)) (h0I : I RING = fun _ => 0) (hfr : ∀ L : Lb, 5 ≤ L.1 → K L = none) (q : ∀ K' I' R', RS K I R K' I' R' → (∀ L : Lb, 12 ≤ L.1 → L.1 ≤ 18 → K' L = none) → Mw d (b + 4769) N_X5_init 30 [some (pR (some RING)), some (pI (nI 0))] [] K' I' R' Q) : Mw d (b + 6000) N_X5_init 0 [some (pR (some RING)), none] [] K I R Q := by
  obtain ⟨d9, rfl⟩ : ∃ d9, d = d9 + 1 := ⟨d - 1, by omega⟩
  refine mw_aload i_32_0 (L := RING) rfl ?_
  refine mw_obj i_32_1 (Nat.le_of_ble_eq_true rfl) (by omega) ?_
  refine mw_aload i_32_2 (L := RING) rfl ?_
  refine mw_const i_32_3 (v := nI 10) (by decide) ?_
  obtain ⟨K21, eK21⟩ : ∃ K21, K21 = setK K ROS (12, 10) := ⟨_, rfl⟩
  obtain ⟨I21, eI21⟩ : ∃ I21, I21 = setI I ROS (fun _ => 0) := ⟨_, rfl⟩
  obtain ⟨R21, eR21⟩ : ∃ R21, R21 = setR R ROS (fun _ => none) := ⟨_, rfl⟩
  refine mw_newq i_32_4 (ROS) (hfr ROS (by show 5 ≤ 5; decide)) (by decide) (b' := b + 5989) (by first | rfl | omega) eK21.symm eI21.symm eR21.symm ?_
  obtain ⟨R22, eR22⟩ : ∃ R22, R22 = up2R R21 RING 0 (some ROS) := ⟨_, rfl⟩
  refine mw_putR i_32_5 (by rw [eK21, setK_ne (by simp)]; exact h0) (R' := R22) eR22.symm ?_
  refine mw_aload i_32_6 (L := RING) rfl ?_
  refine mw_const i_32_7 (v := nI 4) (by decide) ?_
  obtain ⟨K23, eK23⟩ : ∃ K23, K23 = setK K21 TIT (11, 4) := ⟨_, rfl⟩
  obtain ⟨I23, eI23⟩ : ∃ I23, I23 = setI I21 TIT (fun _ => 0) := ⟨_, rfl⟩
  obtain ⟨R23, eR23⟩ : ∃ R23, R23 = setR R22 TIT (fun _ => none) := ⟨_, rfl⟩
  refine mw_newq i_32_8 (TIT) (by rw [eK21, setK_ne (by simp)]; exact (hfr TIT (by show 5 ≤ 6; decide))) (by decide) (b' := b + 5984) (by first | rfl | omega) eK23.symm eI23.symm eR23.symm ?_
  obtain ⟨R24, eR24⟩ : ∃ R24, R24 = up2R R23 RING 1 (some TIT) := ⟨_, rfl⟩
  refine mw_putR i_32_9 (by rw [eK23, setK_ne (by simp), eK21, setK_ne (by simp)]; exact h0) (R' := R24) eR24.symm ?_
  refine mw_aload i_32_10 (L := RING) rfl ?_
  refine mw_const i_32_11 (v := nI 1000) (by decide) ?_
  obtain ⟨K25, eK25⟩ : ∃ K25, K25 = setK K23 CRD (9, 1000) := ⟨_, rfl⟩
  obtain ⟨I25, eI25⟩ : ∃ I25, I25 = setI I23 CRD (fun _ => 0) := ⟨_, rfl⟩
  obtain ⟨R25, eR25⟩ : ∃ R25, R25 = setR R24 CRD (fun _ => none) := ⟨_, rfl⟩
  refine mw_newq i_32_12 (CRD) (by rw [eK23, setK_ne (by simp), eK21, setK_ne (by simp)]; exact (hfr CRD (by show 5 ≤ 7; decide))) (by decide) (b' := b + 4983) (by first | rfl | omega) eK25.symm eI25.symm eR25.symm ?_
  obtain ⟨R26, eR26⟩ : ∃ R26, R26 = up2R R25 RING 2 (some CRD) := ⟨_, rfl⟩
  refine mw_putR i_32_13 (by rw [eK25, setK_ne (by simp), eK23, setK_ne (by simp), eK21, setK_ne (by simp)]; exact h0) (R' := R26) eR26.symm ?_
  refine mw_aload i_32_14 (L := RING) rfl ?_
  obtain ⟨K27, eK27⟩ : ∃ K27, K27 = setK K25 (CA 1000) (0, 0) := ⟨_, rfl⟩
  obtain ⟨I27, eI27⟩ : ∃ I27, I27 = setI I25 (CA 1000) (fun _ => 0) := ⟨_, rfl⟩
  obtain ⟨R27, eR27⟩ : ∃ R27, R27 = setR R26 (CA 1000) (fun _ => none) := ⟨_, rfl⟩
  refine mw_new i_32_15 (CA 1000) (by rw [eK25, setK_ne (by simp), eK23, setK_ne (by simp), eK21, setK_ne (by simp)]; exact (hfr (CA 1000) (by show 5 ≤ 19; decide))) (b' := b + 4978) (by first | rfl | omega) eK27.symm eI27.symm eR27.symm ?_
  refine mw_dup i_32_16 trivial ?_
  have hk0 : K27 (CA 1000) = some (0, 0) := (by rw [eK27, setK_at])
  have hi0 : I27 (CA 1000) = fun _ => 0 := (by rw [eI27, setI_at])
  refine mw_callI i_32_17 mf_0 (as := []) (rest := [pR (some (CA 1000)), pR (some RING)]) (d' := d9) (b' := b + 4929) (ls0 := [some (pR (some (CA 1000))), none]) rfl rfl rfl (Nat.le_of_ble_eq_true rfl) (by rw [eK27, setK_at]) rfl (by omega) rfl ?_
  refine k_Cinit (b := 0) (c := 1000) (by omega) hk0 (by rw [eK27, setK_ne (by simp), eK25, setK_ne (by simp), eK23, setK_ne (by simp), eK21, setK_ne (by simp)]; exact (hfr (MM 1000) (by show 5 ≤ 20; decide))) (fun j => (by rw [eK27, setK_ne (by simp), eK25, setK_ne (by simp), eK23, setK_ne (by simp), eK21, setK_ne (by simp)]; exact (hfr (MT 1000 j) (by show 5 ≤ 21; decide)))) (fun K1 I1 R1 hci => ?_)
  refine ⟨⟨_, rfl⟩, aft_n ?_⟩
  obtain ⟨R28, eR28⟩ : ∃ R28, R28 = up2R R1 RING 3 (some (CA 1000)) := ⟨_, rfl⟩
  refine mw_putR i_32_18 (by rw [(hci.1 RING (NC_lt (by show 4 < 20; decide))).1, eK27, setK_ne (by simp), eK25, setK_ne (by simp), eK23, setK_ne (by simp), eK21, setK_ne (by simp)]; exact h0) (R' := R28) eR28.symm ?_
  refine mw_aload i_32_19 (L := RING) rfl ?_
  refine mw_const i_32_20 (v := nI 4) (by decide) ?_
  obtain ⟨K29, eK29⟩ : ∃ K29, K29 = setK K1 GAT (7, 4) := ⟨_, rfl⟩
  obtain ⟨I29, eI29⟩ : ∃ I29, I29 = setI I1 GAT (fun _ => 0) := ⟨_, rfl⟩
  obtain ⟨R29, eR29⟩ : ∃ R29, R29 = setR R28 GAT (fun _ => none) := ⟨_, rfl⟩
  refine mw_newa i_32_21 (GAT) (by rw [(hci.1 GAT (NC_lt (by show 8 < 20; decide))).1, eK27, setK_ne (by simp), eK25, setK_ne (by simp), eK23, setK_ne (by simp), eK21, setK_ne (by simp)]; exact (hfr GAT (by show 5 ≤ 8; decide))) (by decide) (b' := b + 4924) (by first | rfl | omega) eK29.symm eI29.symm eR29.symm ?_
  obtain ⟨R30, eR30⟩ : ∃ R30, R30 = up2R R29 RING 4 (some GAT) := ⟨_, rfl⟩
  refine mw_putR i_32_22 (by rw [eK29, setK_ne (by simp), (hci.1 RING (NC_lt (by show 4 < 20; decide))).1, eK27, setK_ne (by simp), eK25, setK_ne (by simp), eK23, setK_ne (by simp), eK21, setK_ne (by simp)]; exact h0) (R' := R30) eR30.symm ?_
  refine mw_aload i_32_23 (L := RING) rfl ?_
  obtain ⟨K31, eK31⟩ : ∃ K31, K31 = setK K29 MEN (2, 0) := ⟨_, rfl⟩
  obtain ⟨I31, eI31⟩ : ∃ I31, I31 = setI I29 MEN (fun _ => 0) := ⟨_, rfl⟩
  obtain ⟨R31, eR31⟩ : ∃ R31, R31 = setR R30 MEN (fun _ => none) := ⟨_, rfl⟩
  refine mw_new i_32_24 (MEN) (by rw [eK29, setK_ne (by simp), (hci.1 MEN (NC_lt (by show 9 < 20; decide))).1, eK27, setK_ne (by simp), eK25, setK_ne (by simp), eK23, setK_ne (by simp), eK21, setK_ne (by simp)]; exact (hfr MEN (by show 5 ≤ 9; decide))) (b' := b + 4909) (by first | rfl | omega) eK31.symm eI31.symm eR31.symm ?_
  refine mw_dup i_32_25 trivial ?_
  have hM1 : ∀ k, K31 (MN k) = none := fun k => (by rw [eK31, setK_ne (by simp), eK29, setK_ne (by simp), (hci.1 (MN k) (NC_lt (by show 10 < 20; decide))).1, eK27, setK_ne (by simp), eK25, setK_ne (by simp), eK23, setK_ne (by simp), eK21, setK_ne (by simp)]; exact (hfr (MN k) (by show 5 ≤ 10; decide)))
  have hM5 : K31 (MM 1001) = none := by rw [eK31, setK_ne (by simp), eK29, setK_ne (by simp), (hci.1 (MM 1001) ⟨fun e => absurd e.2 (by show ¬ 1001 = 1000; decide), fun e => absurd e.2 (by show ¬ 1001 = 1000; decide)⟩).1, eK27, setK_ne (by simp), eK25, setK_ne (by simp), eK23, setK_ne (by simp), eK21, setK_ne (by simp)]; exact hfr _ (by show 5 ≤ 20; decide)
  have hM6 : ∀ j, K31 (MT 1001 j) = none := fun j => by rw [eK31, setK_ne (by simp), eK29, setK_ne (by simp), (hci.1 (MT 1001 j) ⟨fun e => absurd e.2 (by show ¬ 1001 = 1000; decide), fun e => absurd e.2 (by show ¬ 1001 = 1000; decide)⟩).1, eK27, setK_ne (by simp), eK25, setK_ne (by simp), eK23, setK_ne (by simp), eK21, setK_ne (by simp)]; exact hfr _ (by show 5 ≤ 21; decide)
  refine mw_callI i_32_26 mf_12 (as := []) (rest := [pR (some MEN), pR (some RING)]) (d' := d9) (b' := b + 4769) (ls0 := [some (pR (some MEN))]) rfl rfl rfl (Nat.le_of_ble_eq_true rfl) (by rw [eK31, setK_at]) rfl (by omega) rfl ?_
  refine k_Mend0 (b := 0) (by omega) (by rw [eK31, setK_at]) hM1 (by rw [eK31, setK_ne (by simp), eK29, setK_ne (by simp), (hci.1 RW0 (NC_lt (by show 11 < 20; decide))).1, eK27, setK_ne (by simp), eK25, setK_ne (by simp), eK23, setK_ne (by simp), eK21, setK_ne (by simp)]; exact (hfr RW0 (by show 5 ≤ 11; decide))) (by rw [eK31, setK_ne (by simp), eK29, setK_ne (by simp), (hci.1 (CA 1001) NC_CA).1, eK27, setK_ne (by simp), eK25, setK_ne (by simp), eK23, setK_ne (by simp), eK21, setK_ne (by simp)]; exact (hfr (CA 1001) (by show 5 ≤ 19; decide))) hM5 hM6 (fun K2 I2 R2 hmq => ?_)
  refine ⟨⟨_, rfl⟩, aft_n ?_⟩
  obtain ⟨R32, eR32⟩ : ∃ R32, R32 = up2R R2 RING 5 (some MEN) := ⟨_, rfl⟩
  refine mw_putR i_32_27 (by rw [(hmq.1 RING ⟨by show 4 ≠ 9; decide, by show 4 ≠ 10; decide, by show 4 ≠ 11; decide, by simp, (NC_lt (by show 4 < 20; decide))⟩).1, eK31, setK_ne (by simp), eK29, setK_ne (by simp), (hci.1 RING (NC_lt (by show 4 < 20; decide))).1, eK27, setK_ne (by simp), eK25, setK_ne (by simp), eK23, setK_ne (by simp), eK21, setK_ne (by simp)]; exact h0) (R' := R32) eR32.symm ?_
  refine mw_const i_32_28 (v := nI 0) (by decide) ?_
  refine mw_istore i_32_29 (ls' := [some (pR (some RING)), some (pI (nI 0))]) rfl (Nat.le_of_ble_eq_true rfl) ?_
  have hO : ∀ L, Old L → K2 L = K L ∧ I2 L = I L ∧ R32 L = R L := fun L hL => ⟨by rw [(hmq.1 L (Old_NM hL)).1, eK31, setK_ne (Old_ne hL (by unfold Old; decide)), eK29, setK_ne (Old_ne hL (by unfold Old; decide)), (hci.1 L (Old_NC hL (by decide))).1, eK27, setK_ne (Old_ne hL (by unfold Old; decide)), eK25, setK_ne (Old_ne hL (by unfold Old; decide)), eK23, setK_ne (Old_ne hL (by unfold Old; decide)), eK21, setK_ne (Old_ne hL (by unfold Old; decide))], by rw [(hmq.1 L (Old_NM hL)).2.1, eI31, setI_ne (Old_ne hL (by unfold Old; decide)), eI29, setI_ne (Old_ne hL (by unfold Old; decide)), (hci.1 L (Old_NC hL (by decide))).2, eI27, setI_ne (Old_ne hL (by unfold Old; decide)), eI25, setI_ne (Old_ne hL (by unfold Old; decide)), eI23, setI_ne (Old_ne hL (by unfold Old; decide)), eI21, setI_ne (Old_ne hL (by unfold Old; decide))], by rw [eR32, up2R_ne (Old_ne hL (by unfold Old; decide)), (hmq.1 L (Old_NM hL)).2.2, eR31, setR_ne (Old_ne hL (by unfold Old; decide)), eR30, up2R_ne (Old_ne hL (by unfold Old; decide)), eR29, setR_ne (Old_ne hL (by unfold Old; decide)), eR28, up2R_ne (Old_ne hL (by unfold Old; decide)), hci.2.1 L (Old_NC hL (by decide)) (Old_ne hL (by unfold Old; decide)), eR27, setR_ne (Old_ne hL (by unfold Old; decide)), eR26, up2R_ne (Old_ne hL (by unfold Old; decide)), eR25, setR_ne (Old_ne hL (by unfold Old; decide)), eR24, up2R_ne (Old_ne hL (by unfold Old; decide)), eR23, setR_ne (Old_ne hL (by unfold Old; decide)), eR22, up2R_ne (Old_ne hL (by unfold Old; decide)), eR21, setR_ne (Old_ne hL (by unfold Old; decide))]⟩
  have hfrO : ∀ L, Old L → 5 ≤ L.1 → K2 L = none := fun L hL h5 => by rw [(hO L hL).1]; exact hfr L h5
  refine q K2 I2 R32 ⟨fun L hL => hO L (Or.inl hL), ⟨(by rw [(hmq.1 RING ⟨by show 4 ≠ 9; decide, by show 4 ≠ 10; decide, by show 4 ≠ 11; decide, by simp, (NC_lt (by show 4 < 20; decide))⟩).1, eK31, setK_ne (by simp), eK29, setK_ne (by simp), (hci.1 RING (NC_lt (by show 4 < 20; decide))).1, eK27, setK_ne (by simp), eK25, setK_ne (by simp), eK23, setK_ne (by simp), eK21, setK_ne (by simp)]; exact h0), (by rw [eR32, up2R_slot (by decide), (hmq.1 RING ⟨by show 4 ≠ 9; decide, by show 4 ≠ 10; decide, by show 4 ≠ 11; decide, by simp, (NC_lt (by show 4 < 20; decide))⟩).2.2, eR31, setR_ne (by simp), eR30, up2R_slot (by decide), eR29, setR_ne (by simp), eR28, up2R_slot (by decide), hci.2.1 RING (NC_lt (by show 4 < 20; decide)) (by simp), eR27, setR_ne (by simp), eR26, up2R_slot (by decide), eR25, setR_ne (by simp), eR24, up2R_slot (by decide), eR23, setR_ne (by simp), eR22, up2R_is]), (by rw [eR32, up2R_slot (by decide), (hmq.1 RING ⟨by show 4 ≠ 9; decide, by show 4 ≠ 10; decide, by show 4 ≠ 11; decide, by simp, (NC_lt (by show 4 < 20; decide))⟩).2.2, eR31, setR_ne (by simp), eR30, up2R_slot (by decide), eR29, setR_ne (by simp), eR28, up2R_slot (by decide), hci.2.1 RING (NC_lt (by show 4 < 20; decide)) (by simp), eR27, setR_ne (by simp), eR26, up2R_slot (by decide), eR25, setR_ne (by simp), eR24, up2R_is]), (by rw [eR32, up2R_slot (by decide), (hmq.1 RING ⟨by show 4 ≠ 9; decide, by show 4 ≠ 10; decide, by show 4 ≠ 11; decide, by simp, (NC_lt (by show 4 < 20; decide))⟩).2.2, eR31, setR_ne (by simp), eR30, up2R_slot (by decide), eR29, setR_ne (by simp), eR28, up2R_slot (by decide), hci.2.1 RING (NC_lt (by show 4 < 20; decide)) (by simp), eR27, setR_ne (by simp), eR26, up2R_is]), (by rw [eR32, up2R_slot (by decide), (hmq.1 RING ⟨by show 4 ≠ 9; decide, by show 4 ≠ 10; decide, by show 4 ≠ 11; decide, by simp, (NC_lt (by show 4 < 20; decide))⟩).2.2, eR31, setR_ne (by simp), eR30, up2R_slot (by decide), eR29, setR_ne (by simp), eR28, up2R_is]), (by rw [eR32, up2R_slot (by decide), (hmq.1 RING ⟨by show 4 ≠ 9; decide, by show 4 ≠ 10; decide, by show 4 ≠ 11; decide, by simp, (NC_lt (by show 4 < 20; decide))⟩).2.2, eR31, setR_ne (by simp), eR30, up2R_is]), (by rw [eR32, up2R_is])⟩, ⟨(by rw [(hmq.1 ROS ⟨by show 5 ≠ 9; decide, by show 5 ≠ 10; decide, by show 5 ≠ 11; decide, by simp, (NC_lt (by show 5 < 20; decide))⟩).1, eK31, setK_ne (by simp), eK29, setK_ne (by simp), (hci.1 ROS (NC_lt (by show 5 < 20; decide))).1, eK27, setK_ne (by simp), eK25, setK_ne (by simp), eK23, setK_ne (by simp), eK21, setK_at]), (by rw [(hmq.1 TIT ⟨by show 6 ≠ 9; decide, by show 6 ≠ 10; decide, by show 6 ≠ 11; decide, by simp, (NC_lt (by show 6 < 20; decide))⟩).1, eK31, setK_ne (by simp), eK29, setK_ne (by simp), (hci.1 TIT (NC_lt (by show 6 < 20; decide))).1, eK27, setK_ne (by simp), eK25, setK_ne (by simp), eK23, setK_at]), (by rw [(hmq.1 CRD ⟨by show 7 ≠ 9; decide, by show 7 ≠ 10; decide, by show 7 ≠ 11; decide, by simp, (NC_lt (by show 7 < 20; decide))⟩).1, eK31, setK_ne (by simp), eK29, setK_ne (by simp), (hci.1 CRD (NC_lt (by show 7 < 20; decide))).1, eK27, setK_ne (by simp), eK25, setK_at]), (by rw [(hmq.1 GAT ⟨by show 8 ≠ 9; decide, by show 8 ≠ 10; decide, by show 8 ≠ 11; decide, by simp, (NC_lt (by show 8 < 20; decide))⟩).1, eK31, setK_ne (by simp), eK29, setK_at]), hmq.2.1⟩, fun k hk => ⟨by rw [eR32, up2R_ne (by simp)]; exact (hmq.2.2 k hk).1, (hmq.2.2 k hk).2⟩, ⟨?_, ?_, ?_, fun j hj => ?_, fun j hj => ⟨hj, ?_⟩, fun i j _ _ e => e⟩, fun d => (by rw [eR32, up2R_ne (by simp), (hmq.1 CRD ⟨by show 7 ≠ 9; decide, by show 7 ≠ 10; decide, by show 7 ≠ 11; decide, by simp, (NC_lt (by show 7 < 20; decide))⟩).2.2, eR31, setR_ne (by simp), eR30, up2R_ne (by simp), eR29, setR_ne (by simp), eR28, up2R_ne (by simp), hci.2.1 CRD (NC_lt (by show 7 < 20; decide)) (by simp), eR27, setR_ne (by simp), eR26, up2R_ne (by simp), eR25, setR_at]), (by rw [(hmq.1 RING ⟨by show 4 ≠ 9; decide, by show 4 ≠ 10; decide, by show 4 ≠ 11; decide, by simp, (NC_lt (by show 4 < 20; decide))⟩).2.1, eI31, setI_ne (by simp), eI29, setI_ne (by simp), (hci.1 RING (NC_lt (by show 4 < 20; decide))).2, eI27, setI_ne (by simp), eI25, setI_ne (by simp), eI23, setI_ne (by simp), eI21, setI_ne (by simp)]; exact h0I), (by rw [(hmq.1 GAT ⟨by show 8 ≠ 9; decide, by show 8 ≠ 10; decide, by show 8 ≠ 11; decide, by simp, (NC_lt (by show 8 < 20; decide))⟩).2.1, eI31, setI_ne (by simp), eI29, setI_at]), ?_, fun c hc => ⟨hfrO _ (Or.inr (Or.inr ⟨by show 19 ≤ 19; decide, hc⟩)) (by show 5 ≤ 19; decide), hfrO _ (Or.inr (Or.inr ⟨by show 19 ≤ 20; decide, hc⟩)) (by show 5 ≤ 20; decide), fun j => hfrO _ (Or.inr (Or.inr ⟨by show 19 ≤ 21; decide, hc⟩)) (by show 5 ≤ 21; decide)⟩⟩ (fun L h1 h2 => hfrO L (Or.inr (Or.inl ⟨h1, h2⟩)) (by omega))
  · rw [(hmq.1 (CA 1000) ⟨by show 19 ≠ 9; decide, by show 19 ≠ 10; decide, by show 19 ≠ 11; decide, by simp, NC_CA⟩).1, eK31, setK_ne (by simp), eK29, setK_ne (by simp), (hci.1 (CA 1000) NC_CA).1]; exact hk0
  · rw [eR32, up2R_ne (by simp), (hmq.1 (CA 1000) ⟨by show 19 ≠ 9; decide, by show 19 ≠ 10; decide, by show 19 ≠ 11; decide, by simp, NC_CA⟩).2.2, eR31, setR_ne (by simp), eR30, up2R_ne (by simp), eR29, setR_ne (by simp), eR28, up2R_ne (by simp)]; exact hci.2.2.1
  · rw [(hmq.1 (MM 1000) ⟨by show 20 ≠ 9; decide, by show 20 ≠ 10; decide, by show 20 ≠ 11; decide, by simp, ⟨fun e => absurd e.2 (by show ¬ 1000 = 1001; decide), fun e => absurd e.2 (by show ¬ 1000 = 1001; decide)⟩⟩).1, eK31, setK_ne (by simp), eK29, setK_ne (by simp)]; exact hci.2.2.2.1
  · rw [(hmq.1 (MT 1000 j) ⟨by show 21 ≠ 9; decide, by show 21 ≠ 10; decide, by show 21 ≠ 11; decide, by simp, ⟨fun e => absurd e.2 (by show ¬ 1000 = 1001; decide), fun e => absurd e.2 (by show ¬ 1000 = 1001; decide)⟩⟩).1, eK31, setK_ne (by simp), eK29, setK_ne (by simp)]; exact (hci.2.2.2.2.1 j hj).1
  · rw [eR32, up2R_ne (by simp), (hmq.1 (MM 1000) ⟨by show 20 ≠ 9; decide, by show 20 ≠ 10; decide, by show 20 ≠ 11; decide, by simp, ⟨fun e => absurd e.2 (by show ¬ 1000 = 1001; decide), fun e => absurd e.2 (by show ¬ 1000 = 1001; decide)⟩⟩).2.2, eR31, setR_ne (by simp), eR30, up2R_ne (by simp), eR29, setR_ne (by simp), eR28, up2R_ne (by simp)]; exact (hci.2.2.2.2.1 j hj).2
  · rw [(hmq.1 (CA 1000) ⟨by show 19 ≠ 9; decide, by show 19 ≠ 10; decide, by show 19 ≠ 11; decide, by simp, NC_CA⟩).2.1, eI31, setI_ne (by simp), eI29, setI_ne (by simp), (hci.1 (CA 1000) NC_CA).2]; exact hi0
