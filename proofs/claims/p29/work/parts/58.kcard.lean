/-! the class makes a card -/
/-- a label that is no row of matches and no match of a card -/
def NC (c : Nat) (L : Lb) : Prop := ¬ (L.1 = 20 ∧ L.2.1 = c) ∧ ¬ (L.1 = 21 ∧ L.2.1 = c)
def CI (c i : Nat) (K0 : KM) (I0 : IM) (R0 : RM) (K : KM) (I : IM) (R : RM) : Prop := (∀ L, NC c L → K L = K0 L ∧ I L = I0 L) ∧ (∀ L, NC c L → L ≠ CA c → R L = R0 L) ∧ R (CA c) 0 = some (MM c) ∧ K (MM c) = some (10, 6) ∧ (∀ j, j < i → K (MT c j) = some (1, 0) ∧ R (MM c) j = some (MT c j)) ∧ ∀ j, i ≤ j → K (MT c j) = none
theorem setK_at {K : KM} {L : Lb} {v : Nat × Nat} : setK K L v L = some v := if_pos rfl
theorem setK_ne {K : KM} {L L2 : Lb} {v : Nat × Nat} (h : L2 ≠ L) : setK K L v L2 = K L2 := if_neg h
theorem up2R_ne {R : RM} {L L2 : Lb} {k : Nat} {q : Option Lb} (h : L2 ≠ L) : up2R R L k q L2 = R L2 := if_neg h
theorem up2R_is {R : RM} {L : Lb} {k : Nat} {q : Option Lb} : up2R R L k q L k = q := by
  unfold up2R setR
  rw [if_pos rfl]
  exact if_pos rfl
theorem up2R_slot {R : RM} {L : Lb} {k k2 : Nat} {q : Option Lb} (h : k2 ≠ k) : up2R R L k q L k2 = R L k2 := by
  unfold up2R setR
  rw [if_pos rfl]
  exact if_neg h
theorem NC_MM {c : Nat} {L : Lb} (h : NC c L) : L ≠ MM c := fun e => h.1 (by subst e; exact ⟨rfl, rfl⟩)
theorem NC_MT {c j : Nat} {L : Lb} (h : NC c L) : L ≠ MT c j := fun e => h.2 (by subst e; exact ⟨rfl, rfl⟩)
theorem NC_CA {c c2 : Nat} : NC c (CA c2) := ⟨fun h => absurd (show (19 : Nat) = 20 from h.1) (by decide), fun h => absurd (show (19 : Nat) = 21 from h.1) (by decide)⟩
theorem NC_lt {c : Nat} {L : Lb} (h : L.1 < 20) : NC c L := ⟨fun e => by omega, fun e => by omega⟩
theorem CI_0 {c : Nat} {K : KM} {I : IM} {R : RM} (hT : ∀ j, K (MT c j) = none) : CI c 0 K I R (setK K (MM c) (10, 6)) (setI I (MM c) (fun _ => 0)) (up2R (setR R (MM c) (fun _ => none)) (CA c) 0 (some (MM c))) := by
  refine ⟨fun L h => ⟨setK_ne (NC_MM h), setI_ne (NC_MM h)⟩, fun L h h2 => ?_, up2R_is, setK_at, fun j hj => absurd hj (Nat.not_lt_zero _), fun j _ => ?_⟩
  · rw [up2R_ne h2, setR_ne (NC_MM h)]
  · rw [setK_ne (by simp)]; exact hT j
theorem CI_step {c i : Nat} {K0 K : KM} {I0 I : IM} {R0 R : RM} (h : CI c i K0 I0 R0 K I R) : CI c (i + 1) K0 I0 R0 (setK K (MT c i) (1, 0)) (setI I (MT c i) (fun _ => 0)) (up2R (setR R (MT c i) (fun _ => none)) (MM c) i (some (MT c i))) := by
  obtain ⟨h1, h2, h3, h4, h5, h6⟩ := h
  refine ⟨fun L q => ?_, fun L q q2 => ?_, ?_, ?_, fun j hj => ⟨?_, ?_⟩, fun j hj => ?_⟩
  · rw [setK_ne (NC_MT q), setI_ne (NC_MT q)]; exact h1 L q
  · rw [up2R_ne (NC_MM q), setR_ne (NC_MT q)]; exact h2 L q q2
  · rw [up2R_ne (by simp), setR_ne (by simp)]; exact h3
  · rw [setK_ne (by simp)]; exact h4
  · by_cases e : j = i
    · subst e; exact setK_at
    · rw [setK_ne (by simp [e])]; exact (h5 j (by omega)).1
  · by_cases e : j = i
    · subst e; exact up2R_is
    · rw [up2R_slot e, setR_ne (by simp)]; exact (h5 j (by omega)).2
  · rw [setK_ne (by simp; omega)]; exact h6 j (by omega)
set_option maxRecDepth 20000 in
set_option maxHeartbeats 400000 in
theorem k_Minit {d b : Nat} {K : KM} {I : IM} {R : RM} {Q : QT} {L : Lb} (hd : 1 ≤ d)  (q : Q (.inl none) K I R) : Mw d b N_X1_init 0 [some (pR (some L))] [] K I R Q := by
  refine mw_aload i_8_0 (L := L) rfl ?_
  refine mw_obj i_8_1 (Nat.le_of_ble_eq_true rfl) (by omega) ?_
  refine mw_ret i_8_2 ?_
  exact q
set_option maxRecDepth 20000 in
set_option maxHeartbeats 400000 in
theorem k_Cinit_lp {d : Nat} {Q : QT} {c : Nat} {K0 : KM} {I0 : IM} {R0 : RM} (hd : 2 ≤ d) (hK0 : K0 (CA c) = some (0, 0)) (q : ∀ K I R, CI c 6 K0 I0 R0 K I R → Q (.inl none) K I R) : ∀ (n i : Nat) (b : Nat) (K : KM) (I : IM) (R : RM), 6 - i < n → i ≤ 6 → (7 * (6 - i) ≤ b) → (CI c i K0 I0 R0 K I R) → Mw d b N_X0_init 8 [some (pR (some (CA c))), some (pI (nI i))] [] K I R Q := by
  obtain ⟨d9, rfl⟩ : ∃ d9, d = d9 + 1 := ⟨d - 1, by omega⟩
  intro n
  induction n with
  | zero => intro i b K I R  hn; exact absurd hn (Nat.not_lt_zero _)
  | succ n ih =>
    intro i b K I R  hn hi hb hCI
    refine mw_iload i_0_8 (x := nI i) rfl ?_
    refine mw_const i_0_9 (v := nI 6) (by decide) ?_
    refine mw_ic i_0_10 (p := 6 ≤ i) (nI_leI (by omega) (by omega)) (fun c1 => ?_) (fun c1 => ?_)
    · skip
      refine mw_ret i_0_20 ?_
      obtain rfl : i = 6 := by omega
      exact q _ _ _ hCI
    · skip
      refine mw_aload i_0_11 (L := CA c) rfl ?_
      refine mw_getR i_0_12 ((hCI.1 (CA c) NC_CA).1.trans hK0) (q := some (MM c)) hCI.2.2.1 ?_
      refine mw_iload i_0_13 (x := nI i) rfl ?_
      obtain ⟨b22, rfl⟩ : ∃ b22, b = b22 + 7 := ⟨b - 7, by omega⟩
      obtain ⟨K22, eK22⟩ : ∃ K22, K22 = setK K (MT c i) (1, 0) := ⟨_, rfl⟩
      obtain ⟨I22, eI22⟩ : ∃ I22, I22 = setI I (MT c i) (fun _ => 0) := ⟨_, rfl⟩
      obtain ⟨R22, eR22⟩ : ∃ R22, R22 = setR R (MT c i) (fun _ => none) := ⟨_, rfl⟩
      refine mw_new i_0_14 (MT c i) (hCI.2.2.2.2.2 i (Nat.le_refl i)) (b' := b22) (by first | rfl | omega) eK22.symm eI22.symm eR22.symm ?_
      have hk1 : K22 (MM c) = some (10, 6) := by rw [eK22, setK_ne (by simp)]; exact hCI.2.2.2.1
      have hk2 : K22 (MT c i) = some (1, 0) := by rw [eK22]; exact setK_at
      have hfl : nfl 1 = 6 := rfl
      refine mw_dup i_0_15 trivial ?_
      refine mw_callI i_0_16 mf_8 (as := []) (rest := [pR (some (MT c i)), pI (nI i), pR (some (MM c))]) (d' := d9) (b' := b22) (ls0 := [some (pR (some (MT c i)))]) rfl rfl rfl (Nat.le_of_ble_eq_true rfl) hk2 rfl rfl rfl ?_
      refine k_Minit (by omega) ?_
      refine ⟨⟨_, rfl⟩, aft_n ?_⟩
      obtain ⟨R23, eR23⟩ : ∃ R23, R23 = up2R R22 (MM c) i (some (MT c i)) := ⟨_, rfl⟩
      refine mw_aast i_0_17 (jn := i) (n := 6) (by omega) (by omega) hk1 (by decide) hk2 (R' := R23) eR23.symm ?_
      refine mw_iinc i_0_18 (x := nI i) (v := nI (i + 1)) (ls' := [some (pR (some (CA c))), some (pI (nI (i + 1)))]) rfl (nI_add _ _) rfl ?_
      refine mw_goto i_0_19 ?_
      exact ih (i + 1) b22 K22 I22 R23 (by omega) (by omega) (by omega) (by rw [eR23, eK22, eI22, eR22]; exact CI_step hCI)
set_option maxRecDepth 20000 in
set_option maxHeartbeats 400000 in
theorem k_Cinit {d b : Nat} {K : KM} {I : IM} {R : RM} {Q : QT} {c : Nat} (hd : 2 ≤ d) (hK0 : K (CA c) = some (0, 0)) (hM : K (MM c) = none) (hT : ∀ j, K (MT c j) = none) (q : ∀ K' I' R', CI c 6 K I R K' I' R' → Q (.inl none) K' I' R') : Mw d (b + 49) N_X0_init 0 [some (pR (some (CA c))), none] [] K I R Q := by
  obtain ⟨d9, rfl⟩ : ∃ d9, d = d9 + 1 := ⟨d - 1, by omega⟩
  refine mw_aload i_0_0 (L := CA c) rfl ?_
  refine mw_obj i_0_1 (Nat.le_of_ble_eq_true rfl) (by omega) ?_
  refine mw_aload i_0_2 (L := CA c) rfl ?_
  refine mw_const i_0_3 (v := nI 6) (by decide) ?_
  obtain ⟨K21, eK21⟩ : ∃ K21, K21 = setK K (MM c) (10, 6) := ⟨_, rfl⟩
  obtain ⟨I21, eI21⟩ : ∃ I21, I21 = setI I (MM c) (fun _ => 0) := ⟨_, rfl⟩
  obtain ⟨R21, eR21⟩ : ∃ R21, R21 = setR R (MM c) (fun _ => none) := ⟨_, rfl⟩
  refine mw_newq i_0_4 (MM c) hM (by decide) (b' := b + 42) (by first | rfl | omega) eK21.symm eI21.symm eR21.symm ?_
  have hk0 : K21 (CA c) = some (0, 0) := by rw [eK21, setK_ne (by simp)]; exact hK0
  obtain ⟨R22, eR22⟩ : ∃ R22, R22 = up2R R21 (CA c) 0 (some (MM c)) := ⟨_, rfl⟩
  refine mw_putR i_0_5 hk0 (R' := R22) eR22.symm ?_
  refine mw_const i_0_6 (v := nI 0) (by decide) ?_
  refine mw_istore i_0_7 (ls' := [some (pR (some (CA c))), some (pI (nI 0))]) rfl (Nat.le_of_ble_eq_true rfl) ?_
  exact k_Cinit_lp (by omega) hK0 q 7 0 (b + 42) K21 I21 R22 (by omega) (by omega) (by omega) (by rw [eR22, eK21, eI21, eR21]; exact CI_0 hT)
/-- what is new behind a card's making -/
def CB (x : Nat) (K : KM) (I : IM) (R : RM) (K' : KM) (I' : IM) (R' : RM) : Prop := (∀ L, NC x L → L ≠ CA x → K' L = K L ∧ I' L = I L) ∧ (∀ L, NC x L → L ≠ CA x → L ≠ CRD → R' L = R L) ∧ (∀ k, k ≠ x → R' CRD k = R CRD k) ∧ R' CRD x = some (CA x) ∧ COp K' R' x (fun j => j) ∧ I' (CA x) = fun _ => 0
theorem CB_of {x : Nat} {K K' : KM} {I I' : IM} {R R' : RM} (h : CI x 6 (setK K (CA x) (0, 0)) (setI I (CA x) (fun _ => 0)) (setR R (CA x) (fun _ => none)) K' I' R') : CB x K I R K' I' (up2R R' CRD x (some (CA x))) := by
  obtain ⟨h1, h2, h3, h4, h5, h6⟩ := h
  have hn : NC x CRD := NC_lt (by show 7 < 20; decide)
  refine ⟨fun L q q2 => ?_, fun L q q2 q3 => ?_, fun k hk => ?_, up2R_is, ⟨?_, ?_, h4, fun j hj => (h5 j hj).1, fun j hj => ⟨hj, ?_⟩, fun i j _ _ e => e⟩, ?_⟩
  · rw [(h1 L q).1, (h1 L q).2, setK_ne q2, setI_ne q2]; exact ⟨rfl, rfl⟩
  · rw [up2R_ne q3, h2 L q q2, setR_ne q2]
  · rw [up2R_slot hk, h2 CRD hn (by simp), setR_ne (by simp)]
  · rw [(h1 (CA x) NC_CA).1]; exact setK_at
  · rw [up2R_ne (by simp)]; exact h3
  · rw [up2R_ne (by simp)]; exact (h5 j hj).2
  · rw [(h1 (CA x) NC_CA).2]; exact setI_at
set_option maxRecDepth 20000 in
set_option maxHeartbeats 400000 in
theorem k_ctb_y {d b : Nat} {K : KM} {I : IM} {R : RM} {Q : QT} {x : Nat} (hS : CS0 K R) (hx : x < 1000) (hy : R CRD x = some (CA x)) (q : Q (.inl (some (pR (some (CA x))))) K I R) : Mw d b N_X5_cardToBook 0 [some (pR (some RING)), some (pI (nI x))] [] K I R Q := by
  refine mw_aload i_64_0 (L := RING) rfl ?_
  refine mw_getR i_64_1 hS.1.1 (q := some CRD) hS.1.2.2.2.1 ?_
  refine mw_iload i_64_2 (x := nI x) rfl ?_
  refine mw_aald i_64_3 (jn := x) (n := 1000) (by omega) (by omega) hS.2.1.2.2.1 (by decide) (q := some (CA x)) hy ?_
  refine mw_nn i_64_4 ?_
  refine mw_aload i_64_12 (L := RING) rfl ?_
  refine mw_getR i_64_13 hS.1.1 (q := some CRD) hS.1.2.2.2.1 ?_
  refine mw_iload i_64_14 (x := nI x) rfl ?_
  refine mw_aald i_64_15 (jn := x) (n := 1000) (by omega) (by omega) hS.2.1.2.2.1 (by decide) (q := some (CA x)) hy ?_
  refine mw_aret i_64_16 (L := CA x) ?_
  exact q
set_option maxRecDepth 20000 in
set_option maxHeartbeats 400000 in
theorem k_ctb_n {d b : Nat} {K : KM} {I : IM} {R : RM} {Q : QT} {x : Nat} (hd : 3 ≤ d) (hS : CS0 K R) (hx : x < 1000) (hn : R CRD x = none) (hnC : K (CA x) = none) (hnM : K (MM x) = none) (hnT : ∀ j, K (MT x j) = none) (q : ∀ K' I' R', CB x K I R K' I' R' → Q (.inl (some (pR (some (CA x))))) K' I' R') : Mw d (b + 54) N_X5_cardToBook 0 [some (pR (some RING)), some (pI (nI x))] [] K I R Q := by
  obtain ⟨d9, rfl⟩ : ∃ d9, d = d9 + 1 := ⟨d - 1, by omega⟩
  refine mw_aload i_64_0 (L := RING) rfl ?_
  refine mw_getR i_64_1 hS.1.1 (q := some CRD) hS.1.2.2.2.1 ?_
  refine mw_iload i_64_2 (x := nI x) rfl ?_
  refine mw_aald i_64_3 (jn := x) (n := 1000) (by omega) (by omega) hS.2.1.2.2.1 (by decide) (q := none) hn ?_
  refine mw_nl i_64_4 ?_
  refine mw_aload i_64_5 (L := RING) rfl ?_
  refine mw_getR i_64_6 hS.1.1 (q := some CRD) hS.1.2.2.2.1 ?_
  refine mw_iload i_64_7 (x := nI x) rfl ?_
  obtain ⟨K21, eK21⟩ : ∃ K21, K21 = setK K (CA x) (0, 0) := ⟨_, rfl⟩
  obtain ⟨I21, eI21⟩ : ∃ I21, I21 = setI I (CA x) (fun _ => 0) := ⟨_, rfl⟩
  obtain ⟨R21, eR21⟩ : ∃ R21, R21 = setR R (CA x) (fun _ => none) := ⟨_, rfl⟩
  refine mw_new i_64_8 (CA x) hnC (b' := b + 49) (by first | rfl | omega) eK21.symm eI21.symm eR21.symm ?_
  have hk1 : K21 (CA x) = some (0, 0) := by rw [eK21]; exact setK_at
  refine mw_dup i_64_9 trivial ?_
  refine mw_callI i_64_10 mf_0 (as := []) (rest := [pR (some (CA x)), pI (nI x), pR (some CRD)]) (d' := d9) (b' := b) (ls0 := [some (pR (some (CA x))), none]) rfl rfl rfl (Nat.le_of_ble_eq_true rfl) hk1 rfl (by omega) rfl ?_
  refine k_Cinit (b := 0) (by omega) hk1 (by rw [eK21, setK_ne (by simp)]; exact hnM) (fun j => by rw [eK21, setK_ne (by simp)]; exact hnT j) ?_
  intro K' I' R' hci
  rw [eK21, eI21, eR21] at hci
  have hcb := CB_of hci
  have hk4 : K' CRD = some (9, 1000) := ((hcb.1 CRD (NC_lt (by show 7 < 20; decide)) (by simp)).1).trans hS.2.1.2.2.1
  have hk5 : K' (CA x) = some (0, 0) := hcb.2.2.2.2.1.1
  have hk6 : K' RING = some (5, 0) := ((hcb.1 RING (NC_lt (by show 4 < 20; decide)) (by simp)).1).trans hS.1.1
  refine ⟨⟨_, rfl⟩, aft_n ?_⟩
  obtain ⟨R22, eR22⟩ : ∃ R22, R22 = up2R R' CRD x (some (CA x)) := ⟨_, rfl⟩
  refine mw_aast i_64_11 (jn := x) (n := 1000) (by omega) (by omega) hk4 (by decide) hk5 (R' := R22) eR22.symm ?_
  have hr6 : R22 RING 2 = some CRD := by rw [eR22, up2R_ne (by simp), hci.2.1 RING (NC_lt (by show 4 < 20; decide)) (by simp), setR_ne (by simp)]; exact hS.1.2.2.2.1
  refine mw_aload i_64_12 (L := RING) rfl ?_
  refine mw_getR i_64_13 hk6 (q := some CRD) hr6 ?_
  refine mw_iload i_64_14 (x := nI x) rfl ?_
  refine mw_aald i_64_15 (jn := x) (n := 1000) (by omega) (by omega) hk4 (by decide) (q := some (CA x)) (by rw [eR22]; exact up2R_is) ?_
  refine mw_aret i_64_16 (L := CA x) ?_
  exact q _ _ _ (by rw [eR22]; exact hcb)
