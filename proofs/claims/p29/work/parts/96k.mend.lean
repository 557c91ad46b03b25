/-! the law's mender -/
/-- the matches from j on are carried out -/
noncomputable def uc (σ : ST) (j : Nat) : Nat := cnt (opn σ) (2 * j)
noncomputable def mS (σ : ST) (c : Nat → Nat) (j : Nat) : ST := cS σ c (mO σ - uc σ j)
noncomputable def mK (σ : ST) (c : Nat → Nat) (j : Nat) : Nat := cK σ c (mO σ - uc σ j)
/-- a seat is filled -/
noncomputable def sW (σ : ST) (c : Nat → Nat) (j r : Nat) (τ : ST) : ST := @ite _ (oP σ (2 * j + r)) (Classical.propDecidable _) (ups τ 19 (36 * dn σ + 6 * j + r) (nI (dW σ c (2 * j + r)))) τ
theorem sW_t {σ : ST} {c : Nat → Nat} {j r : Nat} {τ : ST} (h : oP σ (2 * j + r)) : sW σ c j r τ = ups τ 19 (36 * dn σ + 6 * j + r) (nI (dW σ c (2 * j + r))) := if_pos h
theorem sW_f {σ : ST} {c : Nat → Nat} {j r : Nat} {τ : ST} (h : ¬ oP σ (2 * j + r)) : sW σ c j r τ = τ := if_neg h
/-- a match is struck -/
def mX (σ : ST) (c : Nat → Nat) (j : Nat) : Prop := (oP σ (2 * j) ∧ dW σ c (2 * j) = 7) ∨ (oP σ (2 * j + 1) ∧ dW σ c (2 * j + 1) = 7)
theorem step_P {σ : ST} {c : Nat → Nat} {i j r : Nat} {τ : ST} (hr : r < 2) (e : Os σ i = 2 * j + r) (hc : c i = pn σ) (hn : ¬ (r = 0 ∧ opn σ (2 * j + 1))) : stepC σ c i τ = stS τ (dn σ) j ∧ kC σ c i = 1 := by
  have h2 : ¬ (Os σ i % 2 = 0 ∧ opn σ (Os σ i + 1)) := fun h => hn ⟨by omega, by have h9 := h.2; rw [e, show r = 0 by omega] at h9; exact h9⟩
  unfold stepC kC
  rw [if_pos hc, if_neg h2, if_pos ⟨hc, h2⟩, show Os σ i / 2 = j by omega]
  exact ⟨rfl, rfl⟩
theorem step_Q {σ : ST} {c : Nat → Nat} {i j : Nat} {τ : ST} (e : Os σ i = 2 * j) (hc : c i = pn σ) (hn : opn σ (2 * j + 1)) : stepC σ c i τ = τ ∧ kC σ c i = 0 := by
  have h2 : (Os σ i % 2 = 0 ∧ opn σ (Os σ i + 1)) := ⟨by omega, by rw [e]; exact hn⟩
  unfold stepC kC
  rw [if_pos hc, if_pos h2, if_neg (fun h => h.2 h2)]
  exact ⟨rfl, rfl⟩
theorem step_W {σ : ST} {c : Nat → Nat} {i j r : Nat} {τ : ST} (hr : r < 2) (e : Os σ i = 2 * j + r) (hc : ¬ c i = pn σ) : stepC σ c i τ = ups τ 19 (36 * dn σ + 6 * j + r) (nI (c i)) ∧ kC σ c i = 0 := by
  unfold stepC kC
  rw [if_neg hc, if_neg (fun h => hc h.1), show Os σ i / 2 = j by omega, show Os σ i % 2 = r by omega]
  exact ⟨rfl, rfl⟩
theorem oP_i {σ : ST} {s : Nat} (hs : s < 2 * mn σ (dn σ)) : oP σ s ↔ opn σ s := ⟨fun h => h.2, fun h => ⟨hs, h⟩⟩
theorem dW_c {σ : ST} {c : Nat → Nat} {s : Nat} (hs : s < 2 * mn σ (dn σ)) (h : opn σ s) : dW σ c s = c (cnt (opn σ) s) := by
  rw [dW_t ⟨hs, h⟩, cnt_oP (by omega)]
/-- one match -/
theorem me_step {σ : ST} {c : Nat → Nat} {j : Nat} (hP : PVd σ c (mO σ)) (h7 : pn σ = 7) (hj : j < mn σ (dn σ)) : (mX σ c j → mS σ c j = stS (mS σ c (j + 1)) (dn σ) j ∧ mK σ c j = mK σ c (j + 1) + 1) ∧ (¬ mX σ c j → mS σ c j = sW σ c j 1 (sW σ c j 0 (mS σ c (j + 1))) ∧ mK σ c j = mK σ c (j + 1)) := by
  obtain ⟨u, eu⟩ : ∃ u, u = uc σ j := ⟨_, rfl⟩
  have s0 : 2 * j < 2 * mn σ (dn σ) := by omega
  have s1 : 2 * j + 1 < 2 * mn σ (dn σ) := by omega
  have hle : uc σ (j + 1) ≤ mO σ := cnt_mono (by omega)
  have e2 : uc σ (j + 1) = cnt (opn σ) (2 * j + 1 + 1) := rfl
  have i0 := oP_i s0
  have i1 := oP_i s1
  have hu0 : cnt (opn σ) (2 * j) = u := eu.symm
  by_cases o0 : opn σ (2 * j)
  · have d0 : dW σ c (2 * j) = c u := by rw [dW_c s0 o0, hu0]
    have c1 : cnt (opn σ) (2 * j + 1) = u + 1 := by rw [cnt_t o0, hu0]
    have p0 : Os σ u = 2 * j := by rw [← hu0]; exact pos_cnt s0 o0
    by_cases o1 : opn σ (2 * j + 1)
    · have d1 : dW σ c (2 * j + 1) = c (u + 1) := by rw [dW_c s1 o1, c1]
      have c2 : uc σ (j + 1) = u + 1 + 1 := by rw [e2, cnt_t o1, c1]
      have p1 : Os σ (u + 1) = 2 * j + 1 := by rw [← c1]; exact pos_cnt s1 o1
      obtain ⟨a1, a2⟩ := cS_next (σ := σ) (c := c) (u := u) (by omega)
      obtain ⟨a3, a4⟩ := cS_next (σ := σ) (c := c) (u := u + 1) (by omega)
      have hb := (hP (u + 1) (by omega)).2.1 ⟨by omega, by rw [p1]; exact o0⟩
      rw [Nat.add_sub_cancel] at hb
      unfold mX mS mK
      rw [d0, d1, ← eu, c2, a1, a2, a3, a4]
      by_cases h : c (u + 1) = pn σ
      · obtain ⟨b1, b2⟩ := step_P (τ := cS σ c (mO σ - (u + 1 + 1))) (show 1 < 2 by decide) p1 h (fun h => absurd h.1 (by decide))
        obtain ⟨b3, b4⟩ := step_Q (τ := stepC σ c (u + 1) (cS σ c (mO σ - (u + 1 + 1)))) p0 (hb.mp h) o1
        rw [b3, b4, b1, b2]
        exact ⟨fun _ => ⟨rfl, rfl⟩, fun h9 => absurd (Or.inr ⟨i1.mpr o1, by rw [h, h7]⟩) h9⟩
      · obtain ⟨b1, b2⟩ := step_W (τ := cS σ c (mO σ - (u + 1 + 1))) (show 1 < 2 by decide) p1 h
        obtain ⟨b3, b4⟩ := step_W (τ := stepC σ c (u + 1) (cS σ c (mO σ - (u + 1 + 1)))) (r := 0) (by decide) p0 (fun q => h (hb.mpr q))
        rw [b3, b4, b1, b2]
        refine ⟨fun h9 => ?_, fun _ => ⟨?_, rfl⟩⟩
        · rw [← h7] at h9
          exact absurd h9 (fun h9 => h9.elim (fun q => h (hb.mpr q.2)) (fun q => h q.2))
        · rw [sW_t (r := 1) (i1.mpr o1), sW_t (r := 0) (i0.mpr o0), d1, show dW σ c (2 * j + 0) = c u from d0]
          exact ups_cm (Or.inr (by omega))
    · have c2 : uc σ (j + 1) = u + 1 := by rw [e2, cnt_f o1, c1]
      obtain ⟨a1, a2⟩ := cS_next (σ := σ) (c := c) (u := u) (by omega)
      unfold mX mS mK
      rw [d0, ← eu, c2, a1, a2]
      by_cases h : c u = pn σ
      · obtain ⟨b1, b2⟩ := step_P (τ := cS σ c (mO σ - (u + 1))) (r := 0) (by decide) p0 h (fun h => o1 h.2)
        rw [b1, b2]
        exact ⟨fun _ => ⟨rfl, rfl⟩, fun h9 => absurd (Or.inl ⟨i0.mpr o0, by rw [h, h7]⟩) h9⟩
      · obtain ⟨b1, b2⟩ := step_W (τ := cS σ c (mO σ - (u + 1))) (r := 0) (by decide) p0 h
        rw [b1, b2]
        refine ⟨fun h9 => ?_, fun _ => ⟨?_, rfl⟩⟩
        · rw [← h7] at h9
          exact absurd h9 (fun h9 => h9.elim (fun q => h q.2) (fun q => o1 q.1.2))
        · rw [sW_f (r := 1) (fun q => o1 q.2), sW_t (r := 0) (i0.mpr o0), show dW σ c (2 * j + 0) = c u from d0]
  · have c1 : cnt (opn σ) (2 * j + 1) = u := by rw [cnt_f o0, hu0]
    by_cases o1 : opn σ (2 * j + 1)
    · have d1 : dW σ c (2 * j + 1) = c u := by rw [dW_c s1 o1, c1]
      have c2 : uc σ (j + 1) = u + 1 := by rw [e2, cnt_t o1, c1]
      have p1 : Os σ u = 2 * j + 1 := by rw [← c1]; exact pos_cnt s1 o1
      obtain ⟨a1, a2⟩ := cS_next (σ := σ) (c := c) (u := u) (by omega)
      unfold mX mS mK
      rw [d1, ← eu, c2, a1, a2]
      by_cases h : c u = pn σ
      · obtain ⟨b1, b2⟩ := step_P (τ := cS σ c (mO σ - (u + 1))) (r := 1) (by decide) p1 h (fun h => absurd h.1 (by decide))
        rw [b1, b2]
        exact ⟨fun _ => ⟨rfl, rfl⟩, fun h9 => absurd (Or.inr ⟨i1.mpr o1, by rw [h, h7]⟩) h9⟩
      · obtain ⟨b1, b2⟩ := step_W (τ := cS σ c (mO σ - (u + 1))) (r := 1) (by decide) p1 h
        rw [b1, b2]
        refine ⟨fun h9 => ?_, fun _ => ⟨?_, rfl⟩⟩
        · rw [← h7] at h9
          exact absurd h9 (fun h9 => h9.elim (fun q => o0 q.1.2) (fun q => h q.2))
        · rw [sW_t (r := 1) (i1.mpr o1), sW_f (r := 0) (fun q => o0 q.2), d1]
    · have c2 : uc σ (j + 1) = u := by rw [e2, cnt_f o1, c1]
      unfold mX mS mK
      rw [← eu, c2]
      refine ⟨fun h9 => h9.elim (fun q => absurd q.1.2 o0) (fun q => absurd q.1.2 o1), fun _ => ⟨?_, rfl⟩⟩
      rw [sW_f (r := 1) (fun q => o1 q.2), sW_f (r := 0) (fun q => o0 q.2)]
theorem RW_all {n : Nat} {σ : ST} {c : Nat → Nat} (hV : IV n σ) (hP : PVd σ c (mO σ)) : ∀ t, t ≤ mO σ → RWp σ c (mO σ - t) (cS σ c t)
  | 0, _ => RW_0 hV
  | t + 1, h => by
    have ih := RW_all hV hP t (by omega)
    show RWp σ c (mO σ - (t + 1)) (stepC σ c (mO σ - 1 - t) (cS σ c t))
    rw [show mO σ - 1 - t = mO σ - (t + 1) by omega]
    refine RW_step hV hP (by omega) ?_
    rw [show mO σ - (t + 1) + 1 = mO σ - t by omega]
    exact ih
theorem mS_o {n : Nat} {σ : ST} {c : Nat → Nat} (hV : IV n σ) (hP : PVd σ c (mO σ)) {j k : Nat} (h1 : k ≠ 19) (h2 : k ≠ 20) : mS σ c j k = σ k := (RW_all hV hP (mO σ - uc σ j) (Nat.sub_le _ _)).1 k h1 h2
theorem mS_mn {n : Nat} {σ : ST} {c : Nat → Nat} (hV : IV n σ) (hP : PVd σ c (mO σ)) {j : Nat} (hj : j < mn σ (dn σ)) : j < mn (mS σ c (j + 1)) (dn σ) := by
  have hle : uc σ (j + 1) ≤ mO σ := cnt_mono (by omega)
  refine ((RW_all hV hP (mO σ - uc σ (j + 1)) (Nat.sub_le _ _)).2 j hj (fun k h1 h2 _ => ?_)).1
  rw [show mO σ - (mO σ - uc σ (j + 1)) = uc σ (j + 1) by omega] at h1
  obtain ⟨a, b, e⟩ := Os_lt h2
  apply Classical.byContradiction
  intro h
  have h3 : cnt (opn σ) (Os σ k + 1) ≤ uc σ (j + 1) := cnt_mono (by omega)
  rw [cnt_t b, e] at h3
  omega
theorem mS_0 {σ : ST} {c : Nat → Nat} : mS σ c 0 = cS σ c (mO σ) ∧ mK σ c 0 = cK σ c (mO σ) := ⟨rfl, rfl⟩
theorem mS_M {σ : ST} {c : Nat → Nat} : mS σ c (mn σ (dn σ)) = σ ∧ mK σ c (mn σ (dn σ)) = 0 := by
  unfold mS mK
  rw [show mO σ - uc σ (mn σ (dn σ)) = 0 from Nat.sub_self _]
  exact ⟨rfl, rfl⟩
theorem mK_le {σ : ST} {c : Nat → Nat} : ∀ t, cK σ c t ≤ t
  | 0 => Nat.le_refl _
  | t + 1 => by
    have ih := mK_le (σ := σ) (c := c) t
    show cK σ c t + kC σ c (mO σ - 1 - t) ≤ t + 1
    have : kC σ c (mO σ - 1 - t) ≤ 1 := by unfold kC; split <;> omega
    omega
set_option maxRecDepth 20000 in
set_option maxHeartbeats 1000000 in
theorem c_mend_lp {d b : Nat} {K : KM} {R : RM} {Q : QT} {n n0 : Nat} {σ : ST} {c : Nat → Nat} {I0 : IM} (hd : 3 ≤ d) (hQ : KQ K) (hV : IV n0 σ) (hP : PVd σ c (mO σ)) (h7 : pn σ = 7) (hm3 : mn σ (dn σ) ≤ 3) (hc : ∀ k, c k ≤ 7) (q : ∀ I' u9 u10 u11 u12, FrQ I0 I' → LR n (cS σ c (mO σ)) I' → Mw d b N_L_isMended 159 [some (pR (some RING)), some (pR (some QW)), some (pR (some QV)), some (pR (some QC)), some (pR (some QK)), some (pR (some QM)), some (pI (nI (bs (oP σ) 6))), some (pI (nI (en (dW σ c) 6))), some (pI (nI (cK σ c (mO σ)))), u9, u10, u11, u12] [] K I' R Q) : ∀ (u : Nat), u ≤ mn σ (dn σ) → ∀ (I : IM) (u10 u11 u12 : Option PV), FrQ I0 I → LR n (mS σ c u) I → Mw d b N_L_isMended 46 [some (pR (some RING)), some (pR (some QW)), some (pR (some QV)), some (pR (some QC)), some (pR (some QK)), some (pR (some QM)), some (pI (nI (bs (oP σ) 6))), some (pI (nI (en (dW σ c) 6))), some (pI (nI (mK σ c u))), some (pI (imu u)), u10, u11, u12] [] K I R Q := by
  obtain ⟨d9, rfl⟩ : ∃ d9, d = d9 + 1 := ⟨d - 1, by omega⟩
  have hdd := hV.2.2.1.2
  have hD := fun s => dW_le (σ := σ) hc s
  intro u
  induction u with
  | zero =>
    intro _ I u10 u11 u12 hF hL
    rw [imu_0]
    refine mw_iload i_92_46 (x := (-1)) rfl ?_
    refine mw_ifT i_92_47 (show ((-1) : Int32) < nI 0 by decide) ?_
    exact q _ _ _ _ _ hF hL
  | succ u ih =>
    intro hu I u10 u11 u12 hF hL
    rw [imu_s]
    obtain ⟨hA, hB⟩ := me_step (c := c) hP h7 (j := u) (by omega)
    have e0 : dn (mS σ c (u + 1)) = dn σ := dn_eq (mS_o hV hP (by decide) (by decide))
    have hm0 : I QM 0 = nI (dn σ) := hL.2.2.2.2.1.trans (by rw [mS_o hV hP (by decide) (by decide)]; exact hV.2.2.1.1)
    have hd1 := hD (2 * u)
    have hd2 := hD (2 * u + 1)
    have hmu := mS_mn (c := c) hV hP (j := u) (by omega)
    refine mw_iload i_92_46 (x := nI u) rfl ?_
    refine mw_ifF i_92_47 (show ¬ nI u < nI 0 from fun h => absurd ((nI_ltI (by omega) (by decide)).mp h) (Nat.not_lt_zero _)) ?_
    refine mw_aload i_92_48 (L := QM) rfl ?_
    refine mw_aload i_92_49 (L := QM) rfl ?_
    refine mw_const i_92_50 (v := nI 0) (by decide) ?_
    refine mw_iald i_92_51 (jn := 0) (n := 18) (by omega) (by omega) hQ.2.2.2.2.2 (by decide) (v := nI (dn σ)) hm0 ?_
    refine mw_callS i_92_52 mf_78 (as := [pR (some QM), pI (nI (dn σ))]) (rest := []) (d' := d9) (b' := b) (ls0 := [some (pR (some QM)), some (pI (nI (dn σ)))]) rfl rfl rfl (Nat.le_of_ble_eq_true rfl) rfl rfl rfl ?_
    refine a_slot (by omega) ?_
    refine aft_v ?_
    refine mw_const i_92_53 (v := nI 6) (by decide) ?_
    refine mw_iload i_92_54 (x := nI u) rfl ?_
    refine mw_imul i_92_55 (w := nI (6 * u)) (pk_mul _ _) ?_
    refine mw_iadd i_92_56 (w := nI (18 * (dn σ % 3) + (6 * u))) (nI_add _ _) ?_
    refine mw_istore i_92_57 (ls' := [some (pR (some RING)), some (pR (some QW)), some (pR (some QV)), some (pR (some QC)), some (pR (some QK)), some (pR (some QM)), some (pI (nI (bs (oP σ) 6))), some (pI (nI (en (dW σ c) 6))), some (pI (nI (mK σ c (u + 1)))), some (pI (nI u)), some (pI (nI (18 * (dn σ % 3) + (6 * u)))), u11, u12]) rfl (Nat.le_of_ble_eq_true rfl) ?_
    have J1 : Mw (d9 + 1) b 92 70 [some (pR (some RING)), some (pR (some QW)), some (pR (some QV)), some (pR (some QC)), some (pR (some QK)), some (pR (some QM)), some (pI (nI (bs (oP σ) 6))), some (pI (nI (en (dW σ c) 6))), some (pI (nI (mK σ c (u + 1)))), some (pI (nI u)), some (pI (nI (18 * (dn σ % 3) + (6 * u)))), u11, u12] [pI (bI (oP σ (2 * u)))] K I R Q := by
      refine mw_istore i_92_70 (ls' := [some (pR (some RING)), some (pR (some QW)), some (pR (some QV)), some (pR (some QC)), some (pR (some QK)), some (pR (some QM)), some (pI (nI (bs (oP σ) 6))), some (pI (nI (en (dW σ c) 6))), some (pI (nI (mK σ c (u + 1)))), some (pI (nI u)), some (pI (nI (18 * (dn σ % 3) + (6 * u)))), some (pI (bI (oP σ (2 * u)))), u12]) rfl (Nat.le_of_ble_eq_true rfl) ?_
      have J2 : Mw (d9 + 1) b 92 85 [some (pR (some RING)), some (pR (some QW)), some (pR (some QV)), some (pR (some QC)), some (pR (some QK)), some (pR (some QM)), some (pI (nI (bs (oP σ) 6))), some (pI (nI (en (dW σ c) 6))), some (pI (nI (mK σ c (u + 1)))), some (pI (nI u)), some (pI (nI (18 * (dn σ % 3) + (6 * u)))), some (pI (bI (oP σ (2 * u)))), u12] [pI (bI (oP σ (2 * u + 1)))] K I R Q := by
        refine mw_istore i_92_85 (ls' := [some (pR (some RING)), some (pR (some QW)), some (pR (some QV)), some (pR (some QC)), some (pR (some QK)), some (pR (some QM)), some (pI (nI (bs (oP σ) 6))), some (pI (nI (en (dW σ c) 6))), some (pI (nI (mK σ c (u + 1)))), some (pI (nI u)), some (pI (nI (18 * (dn σ % 3) + (6 * u)))), some (pI (bI (oP σ (2 * u)))), some (pI (bI (oP σ (2 * u + 1))))]) rfl (Nat.le_of_ble_eq_true rfl) ?_
        have J3 : mX σ c u → Mw (d9 + 1) b 92 110 [some (pR (some RING)), some (pR (some QW)), some (pR (some QV)), some (pR (some QC)), some (pR (some QK)), some (pR (some QM)), some (pI (nI (bs (oP σ) 6))), some (pI (nI (en (dW σ c) 6))), some (pI (nI (mK σ c (u + 1)))), some (pI (nI u)), some (pI (nI (18 * (dn σ % 3) + (6 * u)))), some (pI (bI (oP σ (2 * u)))), some (pI (bI (oP σ (2 * u + 1))))] [] K I R Q := by
          intro hx
          obtain ⟨eS, eK⟩ := hA hx
          refine mw_aload i_92_110 (L := QK) rfl ?_
          refine mw_aload i_92_111 (L := QM) rfl ?_
          refine mw_aload i_92_112 (L := QM) rfl ?_
          refine mw_const i_92_113 (v := nI 0) (by decide) ?_
          refine mw_iald i_92_114 (jn := 0) (n := 18) (by omega) (by omega) hQ.2.2.2.2.2 (by decide) (v := nI (dn σ)) hm0 ?_
          refine mw_iload i_92_115 (x := nI u) rfl ?_
          refine mw_callS i_92_116 mf_86 (as := [pR (some QK), pR (some QM), pI (nI (dn σ)), pI (nI u)]) (rest := []) (d' := d9) (b' := b) (ls0 := [some (pR (some QK)), some (pR (some QM)), some (pI (nI (dn σ))), some (pI (nI u)), none, none]) rfl rfl rfl (Nat.le_of_ble_eq_true rfl) rfl rfl rfl ?_
          refine b_strike (by omega) hQ hL (by rw [e0]; exact Nat.le_refl _) (by rw [e0]; omega) (by omega) hmu ?_
          intro I9 hF9 hL9
          refine aft_n ?_
          refine mw_iinc i_92_117 (x := nI (mK σ c (u + 1))) (v := nI (mK σ c (u + 1) + 1)) (ls' := [some (pR (some RING)), some (pR (some QW)), some (pR (some QV)), some (pR (some QC)), some (pR (some QK)), some (pR (some QM)), some (pI (nI (bs (oP σ) 6))), some (pI (nI (en (dW σ c) 6))), some (pI (nI (mK σ c (u + 1) + 1))), some (pI (nI u)), some (pI (nI (18 * (dn σ % 3) + (6 * u)))), some (pI (bI (oP σ (2 * u)))), some (pI (bI (oP σ (2 * u + 1))))]) rfl (nI_add _ _) rfl ?_
          refine mw_goto i_92_118 ?_
          refine mw_iinc i_92_157 (x := nI u) (v := imu u) (ls' := [some (pR (some RING)), some (pR (some QW)), some (pR (some QV)), some (pR (some QC)), some (pR (some QK)), some (pR (some QM)), some (pI (nI (bs (oP σ) 6))), some (pI (nI (en (dW σ c) 6))), some (pI (nI (mK σ c (u + 1) + 1))), some (pI (imu u)), some (pI (nI (18 * (dn σ % 3) + (6 * u)))), some (pI (bI (oP σ (2 * u)))), some (pI (bI (oP σ (2 * u + 1))))]) rfl (imd (by omega)) rfl ?_
          refine mw_goto i_92_158 ?_
          rw [show nI (mK σ c (u + 1) + 1) = nI (mK σ c u) by rw [eK]]
          exact ih (by omega) I9 _ _ _ (FrQ_tr hF hF9) (by rw [eS]; exact hL9)
        have J4 : ¬ mX σ c u → Mw (d9 + 1) b 92 119 [some (pR (some RING)), some (pR (some QW)), some (pR (some QV)), some (pR (some QC)), some (pR (some QK)), some (pR (some QM)), some (pI (nI (bs (oP σ) 6))), some (pI (nI (en (dW σ c) 6))), some (pI (nI (mK σ c (u + 1)))), some (pI (nI u)), some (pI (nI (18 * (dn σ % 3) + (6 * u)))), some (pI (bI (oP σ (2 * u)))), some (pI (bI (oP σ (2 * u + 1))))] [] K I R Q := by
          intro hx
          obtain ⟨eS, eK⟩ := hB hx
          refine mw_aload i_92_119 (L := QK) rfl ?_
          refine mw_iload i_92_120 (x := nI (18 * (dn σ % 3) + (6 * u))) rfl ?_
          refine mw_iload i_92_121 (x := bI (oP σ (2 * u))) rfl ?_
          refine mw_eqB i_92_122 rfl (fun c5 => ?_) (fun c5 => ?_)
          · skip
            refine mw_aload i_92_131 (L := QK) rfl ?_
            refine mw_iload i_92_132 (x := nI (18 * (dn σ % 3) + (6 * u))) rfl ?_
            refine mw_iald i_92_133 (jn := 18 * (dn σ % 3) + (6 * u)) (n := 54) (by omega) (by omega) hQ.2.2.2.2.1 (by decide) (v := I QK (18 * (dn σ % 3) + (6 * u))) rfl ?_
            obtain ⟨I26, e26⟩ : ∃ I26, I26 = up2 I QK (18 * (dn σ % 3) + (6 * u)) (I QK (18 * (dn σ % 3) + (6 * u))) := ⟨_, rfl⟩
            refine mw_iast i_92_134 (jn := 18 * (dn σ % 3) + (6 * u)) (n := 54) (by omega) (by omega) (x := I QK (18 * (dn σ % 3) + (6 * u))) hQ.2.2.2.2.1 (I' := I26) e26.symm ?_
            have hL7 : LR n (sW σ c u 0 (mS σ c (u + 1))) I26 := by rw [e26, up2_self, sW_f (show ¬ oP σ (2 * u + 0) from c5)]; exact hL
            have e0hL7 : dn (sW σ c u 0 (mS σ c (u + 1))) = dn σ := (by rw [sW_f (show ¬ oP σ (2 * u + 0) from c5)]; exact e0)
            refine mw_aload i_92_135 (L := QK) rfl ?_
            refine mw_iload i_92_136 (x := nI (18 * (dn σ % 3) + (6 * u))) rfl ?_
            refine mw_const i_92_137 (v := nI 1) (by decide) ?_
            refine mw_iadd i_92_138 (w := nI (18 * (dn σ % 3) + (6 * u) + 1)) (nI_add _ _) ?_
            refine mw_iload i_92_139 (x := bI (oP σ (2 * u + 1))) rfl ?_
            refine mw_eqB i_92_140 rfl (fun c8 => ?_) (fun c8 => ?_)
            · skip
              refine mw_aload i_92_151 (L := QK) rfl ?_
              refine mw_iload i_92_152 (x := nI (18 * (dn σ % 3) + (6 * u))) rfl ?_
              refine mw_const i_92_153 (v := nI 1) (by decide) ?_
              refine mw_iadd i_92_154 (w := nI (18 * (dn σ % 3) + (6 * u) + 1)) (nI_add _ _) ?_
              refine mw_iald i_92_155 (jn := 18 * (dn σ % 3) + (6 * u) + 1) (n := 54) (by omega) (by omega) hQ.2.2.2.2.1 (by decide) (v := I26 QK (18 * (dn σ % 3) + (6 * u) + 1)) rfl ?_
              obtain ⟨I29, e29⟩ : ∃ I29, I29 = up2 I26 QK (18 * (dn σ % 3) + (6 * u) + 1) (I26 QK (18 * (dn σ % 3) + (6 * u) + 1)) := ⟨_, rfl⟩
              refine mw_iast i_92_156 (jn := 18 * (dn σ % 3) + (6 * u) + 1) (n := 54) (by omega) (by omega) (x := I26 QK (18 * (dn σ % 3) + (6 * u) + 1)) hQ.2.2.2.2.1 (I' := I29) e29.symm ?_
              have hL10 : LR n (sW σ c u 1 (sW σ c u 0 (mS σ c (u + 1)))) I29 := by rw [e29, up2_self, sW_f (show ¬ oP σ (2 * u + 1) from c8)]; exact hL7
              have e0hL10 : dn (sW σ c u 1 (sW σ c u 0 (mS σ c (u + 1)))) = dn σ := (by rw [sW_f (show ¬ oP σ (2 * u + 1) from c8)]; exact e0hL7)
              refine mw_iinc i_92_157 (x := nI u) (v := imu u) (ls' := [some (pR (some RING)), some (pR (some QW)), some (pR (some QV)), some (pR (some QC)), some (pR (some QK)), some (pR (some QM)), some (pI (nI (bs (oP σ) 6))), some (pI (nI (en (dW σ c) 6))), some (pI (nI (mK σ c (u + 1)))), some (pI (imu u)), some (pI (nI (18 * (dn σ % 3) + (6 * u)))), some (pI (bI (oP σ (2 * u)))), some (pI (bI (oP σ (2 * u + 1))))]) rfl (imd (by omega)) rfl ?_
              refine mw_goto i_92_158 ?_
              rw [← eK]
              exact ih (by omega) I29 _ _ _ (FrQ_tr hF (show FrQ I I29 from by rw [e29]; exact FrQ_up (show FrQ I I26 from by rw [e26]; exact FrQ_up FrQ_rfl rfl) rfl)) (by rw [eS]; exact hL10)
            · skip
              refine mw_iload i_92_141 (x := nI (en (dW σ c) 6)) rfl ?_
              refine mw_const i_92_142 (v := nI 6) (by decide) ?_
              refine mw_iload i_92_143 (x := nI u) rfl ?_
              refine mw_imul i_92_144 (w := nI (6 * u)) (pk_mul _ _) ?_
              refine mw_const i_92_145 (v := nI 3) (by decide) ?_
              refine mw_iadd i_92_146 (w := nI (6 * u + 3)) (nI_add _ _) ?_
              refine mw_ishr i_92_147 (w := ((nI (en (dW σ c) 6)) >>> ((nI (6 * u + 3)) &&& 31))) rfl ?_
              refine mw_const i_92_148 (v := nI 7) (by decide) ?_
              refine mw_iand i_92_149 (w := nI (dW σ c (2 * u + 1))) (en_d3 hD (by omega)) ?_
              refine mw_goto i_92_150 ?_
              obtain ⟨I31, e31⟩ : ∃ I31, I31 = up2 I26 QK (18 * (dn σ % 3) + (6 * u) + 1) (nI (dW σ c (2 * u + 1))) := ⟨_, rfl⟩
              refine mw_iast i_92_156 (jn := 18 * (dn σ % 3) + (6 * u) + 1) (n := 54) (by omega) (by omega) (x := nI (dW σ c (2 * u + 1))) hQ.2.2.2.2.1 (I' := I31) e31.symm ?_
              have hL12 : LR n (sW σ c u 1 (sW σ c u 0 (mS σ c (u + 1)))) I31 := by rw [e31, sW_t (show oP σ (2 * u + 1) from c8)]; exact LR_row (f := 1) hL7 (by rw [e0hL7]; exact Nat.le_refl _) (by rw [e0hL7]; omega) (by omega) (by decide) (by decide)
              have e0hL12 : dn (sW σ c u 1 (sW σ c u 0 (mS σ c (u + 1)))) = dn σ := (by rw [sW_t (show oP σ (2 * u + 1) from c8), dn_eq (ups_ne (by decide))]; exact e0hL7)
              refine mw_iinc i_92_157 (x := nI u) (v := imu u) (ls' := [some (pR (some RING)), some (pR (some QW)), some (pR (some QV)), some (pR (some QC)), some (pR (some QK)), some (pR (some QM)), some (pI (nI (bs (oP σ) 6))), some (pI (nI (en (dW σ c) 6))), some (pI (nI (mK σ c (u + 1)))), some (pI (imu u)), some (pI (nI (18 * (dn σ % 3) + (6 * u)))), some (pI (bI (oP σ (2 * u)))), some (pI (bI (oP σ (2 * u + 1))))]) rfl (imd (by omega)) rfl ?_
              refine mw_goto i_92_158 ?_
              rw [← eK]
              exact ih (by omega) I31 _ _ _ (FrQ_tr hF (show FrQ I I31 from by rw [e31]; exact FrQ_up (show FrQ I I26 from by rw [e26]; exact FrQ_up FrQ_rfl rfl) rfl)) (by rw [eS]; exact hL12)
          · skip
            refine mw_iload i_92_123 (x := nI (en (dW σ c) 6)) rfl ?_
            refine mw_const i_92_124 (v := nI 6) (by decide) ?_
            refine mw_iload i_92_125 (x := nI u) rfl ?_
            refine mw_imul i_92_126 (w := nI (6 * u)) (pk_mul _ _) ?_
            refine mw_ishr i_92_127 (w := ((nI (en (dW σ c) 6)) >>> ((nI (6 * u)) &&& 31))) rfl ?_
            refine mw_const i_92_128 (v := nI 7) (by decide) ?_
            refine mw_iand i_92_129 (w := nI (dW σ c (2 * u))) (en_d2 hD (by omega)) ?_
            refine mw_goto i_92_130 ?_
            obtain ⟨I33, e33⟩ : ∃ I33, I33 = up2 I QK (18 * (dn σ % 3) + (6 * u)) (nI (dW σ c (2 * u))) := ⟨_, rfl⟩
            refine mw_iast i_92_134 (jn := 18 * (dn σ % 3) + (6 * u)) (n := 54) (by omega) (by omega) (x := nI (dW σ c (2 * u))) hQ.2.2.2.2.1 (I' := I33) e33.symm ?_
            have hL14 : LR n (sW σ c u 0 (mS σ c (u + 1))) I33 := by rw [e33, sW_t (show oP σ (2 * u + 0) from c5)]; exact LR_row (f := 0) hL (by rw [e0]; exact Nat.le_refl _) (by rw [e0]; omega) (by omega) (by decide) (by decide)
            have e0hL14 : dn (sW σ c u 0 (mS σ c (u + 1))) = dn σ := (by rw [sW_t (show oP σ (2 * u + 0) from c5), dn_eq (ups_ne (by decide))]; exact e0)
            refine mw_aload i_92_135 (L := QK) rfl ?_
            refine mw_iload i_92_136 (x := nI (18 * (dn σ % 3) + (6 * u))) rfl ?_
            refine mw_const i_92_137 (v := nI 1) (by decide) ?_
            refine mw_iadd i_92_138 (w := nI (18 * (dn σ % 3) + (6 * u) + 1)) (nI_add _ _) ?_
            refine mw_iload i_92_139 (x := bI (oP σ (2 * u + 1))) rfl ?_
            refine mw_eqB i_92_140 rfl (fun c15 => ?_) (fun c15 => ?_)
            · skip
              refine mw_aload i_92_151 (L := QK) rfl ?_
              refine mw_iload i_92_152 (x := nI (18 * (dn σ % 3) + (6 * u))) rfl ?_
              refine mw_const i_92_153 (v := nI 1) (by decide) ?_
              refine mw_iadd i_92_154 (w := nI (18 * (dn σ % 3) + (6 * u) + 1)) (nI_add _ _) ?_
              refine mw_iald i_92_155 (jn := 18 * (dn σ % 3) + (6 * u) + 1) (n := 54) (by omega) (by omega) hQ.2.2.2.2.1 (by decide) (v := I33 QK (18 * (dn σ % 3) + (6 * u) + 1)) rfl ?_
              obtain ⟨I36, e36⟩ : ∃ I36, I36 = up2 I33 QK (18 * (dn σ % 3) + (6 * u) + 1) (I33 QK (18 * (dn σ % 3) + (6 * u) + 1)) := ⟨_, rfl⟩
              refine mw_iast i_92_156 (jn := 18 * (dn σ % 3) + (6 * u) + 1) (n := 54) (by omega) (by omega) (x := I33 QK (18 * (dn σ % 3) + (6 * u) + 1)) hQ.2.2.2.2.1 (I' := I36) e36.symm ?_
              have hL17 : LR n (sW σ c u 1 (sW σ c u 0 (mS σ c (u + 1)))) I36 := by rw [e36, up2_self, sW_f (show ¬ oP σ (2 * u + 1) from c15)]; exact hL14
              have e0hL17 : dn (sW σ c u 1 (sW σ c u 0 (mS σ c (u + 1)))) = dn σ := (by rw [sW_f (show ¬ oP σ (2 * u + 1) from c15)]; exact e0hL14)
              refine mw_iinc i_92_157 (x := nI u) (v := imu u) (ls' := [some (pR (some RING)), some (pR (some QW)), some (pR (some QV)), some (pR (some QC)), some (pR (some QK)), some (pR (some QM)), some (pI (nI (bs (oP σ) 6))), some (pI (nI (en (dW σ c) 6))), some (pI (nI (mK σ c (u + 1)))), some (pI (imu u)), some (pI (nI (18 * (dn σ % 3) + (6 * u)))), some (pI (bI (oP σ (2 * u)))), some (pI (bI (oP σ (2 * u + 1))))]) rfl (imd (by omega)) rfl ?_
              refine mw_goto i_92_158 ?_
              rw [← eK]
              exact ih (by omega) I36 _ _ _ (FrQ_tr hF (show FrQ I I36 from by rw [e36]; exact FrQ_up (show FrQ I I33 from by rw [e33]; exact FrQ_up FrQ_rfl rfl) rfl)) (by rw [eS]; exact hL17)
            · skip
              refine mw_iload i_92_141 (x := nI (en (dW σ c) 6)) rfl ?_
              refine mw_const i_92_142 (v := nI 6) (by decide) ?_
              refine mw_iload i_92_143 (x := nI u) rfl ?_
              refine mw_imul i_92_144 (w := nI (6 * u)) (pk_mul _ _) ?_
              refine mw_const i_92_145 (v := nI 3) (by decide) ?_
              refine mw_iadd i_92_146 (w := nI (6 * u + 3)) (nI_add _ _) ?_
              refine mw_ishr i_92_147 (w := ((nI (en (dW σ c) 6)) >>> ((nI (6 * u + 3)) &&& 31))) rfl ?_
              refine mw_const i_92_148 (v := nI 7) (by decide) ?_
              refine mw_iand i_92_149 (w := nI (dW σ c (2 * u + 1))) (en_d3 hD (by omega)) ?_
              refine mw_goto i_92_150 ?_
              obtain ⟨I38, e38⟩ : ∃ I38, I38 = up2 I33 QK (18 * (dn σ % 3) + (6 * u) + 1) (nI (dW σ c (2 * u + 1))) := ⟨_, rfl⟩
              refine mw_iast i_92_156 (jn := 18 * (dn σ % 3) + (6 * u) + 1) (n := 54) (by omega) (by omega) (x := nI (dW σ c (2 * u + 1))) hQ.2.2.2.2.1 (I' := I38) e38.symm ?_
              have hL19 : LR n (sW σ c u 1 (sW σ c u 0 (mS σ c (u + 1)))) I38 := by rw [e38, sW_t (show oP σ (2 * u + 1) from c15)]; exact LR_row (f := 1) hL14 (by rw [e0hL14]; exact Nat.le_refl _) (by rw [e0hL14]; omega) (by omega) (by decide) (by decide)
              have e0hL19 : dn (sW σ c u 1 (sW σ c u 0 (mS σ c (u + 1)))) = dn σ := (by rw [sW_t (show oP σ (2 * u + 1) from c15), dn_eq (ups_ne (by decide))]; exact e0hL14)
              refine mw_iinc i_92_157 (x := nI u) (v := imu u) (ls' := [some (pR (some RING)), some (pR (some QW)), some (pR (some QV)), some (pR (some QC)), some (pR (some QK)), some (pR (some QM)), some (pI (nI (bs (oP σ) 6))), some (pI (nI (en (dW σ c) 6))), some (pI (nI (mK σ c (u + 1)))), some (pI (imu u)), some (pI (nI (18 * (dn σ % 3) + (6 * u)))), some (pI (bI (oP σ (2 * u)))), some (pI (bI (oP σ (2 * u + 1))))]) rfl (imd (by omega)) rfl ?_
              refine mw_goto i_92_158 ?_
              rw [← eK]
              exact ih (by omega) I38 _ _ _ (FrQ_tr hF (show FrQ I I38 from by rw [e38]; exact FrQ_up (show FrQ I I33 from by rw [e33]; exact FrQ_up FrQ_rfl rfl) rfl)) (by rw [eS]; exact hL19)
        refine mw_iload i_92_86 (x := bI (oP σ (2 * u))) rfl ?_
        refine mw_eqB i_92_87 rfl (fun c20 => ?_) (fun c20 => ?_)
        · skip
          refine mw_iload i_92_97 (x := bI (oP σ (2 * u + 1))) rfl ?_
          refine mw_eqB i_92_98 rfl (fun c21 => ?_) (fun c21 => ?_)
          · skip
            exact J4 (fun h => h.elim (fun h => c20 h.1) (fun h => c21 h.1))
          · skip
            refine mw_iload i_92_99 (x := nI (en (dW σ c) 6)) rfl ?_
            refine mw_const i_92_100 (v := nI 6) (by decide) ?_
            refine mw_iload i_92_101 (x := nI u) rfl ?_
            refine mw_imul i_92_102 (w := nI (6 * u)) (pk_mul _ _) ?_
            refine mw_const i_92_103 (v := nI 3) (by decide) ?_
            refine mw_iadd i_92_104 (w := nI (6 * u + 3)) (nI_add _ _) ?_
            refine mw_ishr i_92_105 (w := ((nI (en (dW σ c) 6)) >>> ((nI (6 * u + 3)) &&& 31))) rfl ?_
            refine mw_const i_92_106 (v := nI 7) (by decide) ?_
            refine mw_iand i_92_107 (w := nI (dW σ c (2 * u + 1))) (en_d3 hD (by omega)) ?_
            refine mw_const i_92_108 (v := nI 7) (by decide) ?_
            refine mw_ic i_92_109 (p := ¬ (dW σ c (2 * u + 1)) = 7) (not_congr (nI_eq (by omega) (by omega))) (fun c22 => ?_) (fun c22 => ?_)
            · skip
              exact J4 (fun h => h.elim (fun h => c20 h.1) (fun h => c22 h.2))
            · skip
              exact J3 (Or.inr ⟨c21, Classical.not_not.mp c22⟩)
        · skip
          refine mw_iload i_92_88 (x := nI (en (dW σ c) 6)) rfl ?_
          refine mw_const i_92_89 (v := nI 6) (by decide) ?_
          refine mw_iload i_92_90 (x := nI u) rfl ?_
          refine mw_imul i_92_91 (w := nI (6 * u)) (pk_mul _ _) ?_
          refine mw_ishr i_92_92 (w := ((nI (en (dW σ c) 6)) >>> ((nI (6 * u)) &&& 31))) rfl ?_
          refine mw_const i_92_93 (v := nI 7) (by decide) ?_
          refine mw_iand i_92_94 (w := nI (dW σ c (2 * u))) (en_d2 hD (by omega)) ?_
          refine mw_const i_92_95 (v := nI 7) (by decide) ?_
          refine mw_ic i_92_96 (p := (dW σ c (2 * u)) = 7) (nI_eq (by omega) (by omega)) (fun c23 => ?_) (fun c23 => ?_)
          · skip
            exact J3 (Or.inl ⟨c20, c23⟩)
          · skip
            refine mw_iload i_92_97 (x := bI (oP σ (2 * u + 1))) rfl ?_
            refine mw_eqB i_92_98 rfl (fun c24 => ?_) (fun c24 => ?_)
            · skip
              exact J4 (fun h => h.elim (fun h => c23 h.2) (fun h => c24 h.1))
            · skip
              refine mw_iload i_92_99 (x := nI (en (dW σ c) 6)) rfl ?_
              refine mw_const i_92_100 (v := nI 6) (by decide) ?_
              refine mw_iload i_92_101 (x := nI u) rfl ?_
              refine mw_imul i_92_102 (w := nI (6 * u)) (pk_mul _ _) ?_
              refine mw_const i_92_103 (v := nI 3) (by decide) ?_
              refine mw_iadd i_92_104 (w := nI (6 * u + 3)) (nI_add _ _) ?_
              refine mw_ishr i_92_105 (w := ((nI (en (dW σ c) 6)) >>> ((nI (6 * u + 3)) &&& 31))) rfl ?_
              refine mw_const i_92_106 (v := nI 7) (by decide) ?_
              refine mw_iand i_92_107 (w := nI (dW σ c (2 * u + 1))) (en_d3 hD (by omega)) ?_
              refine mw_const i_92_108 (v := nI 7) (by decide) ?_
              refine mw_ic i_92_109 (p := ¬ (dW σ c (2 * u + 1)) = 7) (not_congr (nI_eq (by omega) (by omega))) (fun c25 => ?_) (fun c25 => ?_)
              · skip
                exact J4 (fun h => h.elim (fun h => c23 h.2) (fun h => c25 h.2))
              · skip
                exact J3 (Or.inr ⟨c24, Classical.not_not.mp c25⟩)
      refine mw_iload i_92_71 (x := nI (bs (oP σ) 6)) rfl ?_
      refine mw_const i_92_72 (v := nI 2) (by decide) ?_
      refine mw_iload i_92_73 (x := nI u) rfl ?_
      refine mw_imul i_92_74 (w := nI (2 * u)) (pk_mul _ _) ?_
      refine mw_const i_92_75 (v := nI 1) (by decide) ?_
      refine mw_iadd i_92_76 (w := nI (2 * u + 1)) (nI_add _ _) ?_
      refine mw_ishr i_92_77 (w := ((nI (bs (oP σ) 6)) >>> ((nI (2 * u + 1)) &&& 31))) rfl ?_
      refine mw_const i_92_78 (v := nI 1) (by decide) ?_
      refine mw_iand i_92_79 (w := bI (oP σ (2 * u + 1))) (bs_bit (by omega) (by decide)) ?_
      refine mw_const i_92_80 (v := nI 1) (by decide) ?_
      refine mw_ic i_92_81 (p := ¬ (bI (oP σ (2 * u + 1))) = (nI 1)) Iff.rfl (fun c26 => ?_) (fun c26 => ?_)
      · skip
        refine mw_const i_92_84 (v := nI 0) (by decide) ?_
        exact mw_top (show nI 0 = bI (oP σ (2 * u + 1)) from (bI_f ((fun h => c26 (bI_t h)))).symm) J2
      · skip
        refine mw_const i_92_82 (v := nI 1) (by decide) ?_
        refine mw_goto i_92_83 ?_
        exact mw_top (show nI 1 = bI (oP σ (2 * u + 1)) from (bI_t ((bI_1.mp (Classical.not_not.mp c26)))).symm) J2
    refine mw_iload i_92_58 (x := nI (bs (oP σ) 6)) rfl ?_
    refine mw_const i_92_59 (v := nI 2) (by decide) ?_
    refine mw_iload i_92_60 (x := nI u) rfl ?_
    refine mw_imul i_92_61 (w := nI (2 * u)) (pk_mul _ _) ?_
    refine mw_ishr i_92_62 (w := ((nI (bs (oP σ) 6)) >>> ((nI (2 * u)) &&& 31))) rfl ?_
    refine mw_const i_92_63 (v := nI 1) (by decide) ?_
    refine mw_iand i_92_64 (w := bI (oP σ (2 * u))) (bs_bit (by omega) (by decide)) ?_
    refine mw_const i_92_65 (v := nI 1) (by decide) ?_
    refine mw_ic i_92_66 (p := ¬ (bI (oP σ (2 * u))) = (nI 1)) Iff.rfl (fun c27 => ?_) (fun c27 => ?_)
    · skip
      refine mw_const i_92_69 (v := nI 0) (by decide) ?_
      exact mw_top (show nI 0 = bI (oP σ (2 * u)) from (bI_f ((fun h => c27 (bI_t h)))).symm) J1
    · skip
      refine mw_const i_92_67 (v := nI 1) (by decide) ?_
      refine mw_goto i_92_68 ?_
      exact mw_top (show nI 1 = bI (oP σ (2 * u)) from (bI_t ((bI_1.mp (Classical.not_not.mp c27)))).symm) J1
set_option maxRecDepth 20000 in
set_option maxHeartbeats 1000000 in
theorem c_isMended {d b : Nat} {K : KM} {I : IM} {R : RM} {Q : QT} {L n : Nat} {σ : ST} (hd : 20 ≤ d) (hW9 : WQ L n σ K I R) (hn : n < 512)  (q : ∀ σ' K' I' R', WQ L (n + 1) σ' K' I' R' → Q (.inl (some (pI (nI 1)))) K' I' R') : Mw d (b + 7) N_L_isMended 0 [some (pR (some RING)), some (pR (some QW)), some (pR (some QV)), some (pR (some QC)), some (pR (some QK)), some (pR (some QM)), none, none, none, none, none, none, none] [] K I R Q := by
  obtain ⟨d9, rfl⟩ : ∃ d9, d = d9 + 1 := ⟨d - 1, by omega⟩
  obtain ⟨hW, hL, hQ, hK0⟩ := hW9
  have hV := hW.2.2
  have hdd9 := hV.2.2.1.2
  have h10 := hL.2.2.2.2.2.2.2.2.2.1
  have hd0 := hV.2.2.1.1
  have hdn := hL.2.2.2.2.2.2.2.2.2.2.2
  have hO6 : mO σ ≤ 2 * mn σ (dn σ) := cnt_le _ _
  obtain ⟨g1, g2, g3, g4, g5⟩ := LR_card hL (x := dn σ) (Nat.le_refl _) (by omega)
  refine mw_aload i_92_0 (L := QW) rfl ?_
  refine mw_aload i_92_1 (L := QK) rfl ?_
  refine mw_aload i_92_2 (L := QM) rfl ?_
  refine mw_callS i_92_3 mf_87 (as := [pR (some QW), pR (some QK), pR (some QM)]) (rest := []) (d' := d9) (b' := b + 7) (ls0 := [some (pR (some QW)), some (pR (some QK)), some (pR (some QM)), none, none, none]) rfl rfl rfl (Nat.le_of_ble_eq_true rfl) rfl rfl rfl ?_
  refine b_opens (by omega) hQ hL hV ?_
  refine aft_v ?_
  refine mw_istore i_92_4 (ls' := [some (pR (some RING)), some (pR (some QW)), some (pR (some QV)), some (pR (some QC)), some (pR (some QK)), some (pR (some QM)), some (pI (nI (bs (oP σ) 6))), none, none, none, none, none, none]) rfl (Nat.le_of_ble_eq_true rfl) ?_
  refine mw_aload i_92_5 (L := QM) rfl ?_
  refine mw_aload i_92_6 (L := QM) rfl ?_
  refine mw_const i_92_7 (v := nI 0) (by decide) ?_
  refine mw_iald i_92_8 (jn := 0) (n := 18) (by omega) (by omega) hQ.2.2.2.2.2 (by decide) (v := nI (dn σ)) (hL.2.2.2.2.1.trans hd0) ?_
  refine mw_callS i_92_9 mf_79 (as := [pR (some QM), pI (nI (dn σ))]) (rest := []) (d' := d9) (b' := b + 7) (ls0 := [some (pR (some QM)), some (pI (nI (dn σ)))]) rfl rfl rfl (Nat.le_of_ble_eq_true rfl) rfl rfl rfl ?_
  refine b_many hQ hL (Nat.le_refl _) (by omega) (by omega) ?_
  refine aft_v ?_
  refine mw_if i_92_10 (p := (nI (mn σ (dn σ))) = nI 0) Iff.rfl (fun c1 => ?_) (fun c1 => ?_)
  · skip
    refine mw_const i_92_26 (v := nI 1) (by decide) ?_
    refine mw_iret i_92_27 (x := nI 1) (fun _ => (by decide)) ?_
    exact q σ K I R ⟨CW_up hW, LR_n hL (Nat.le_succ n), hQ, hK0⟩
  · skip
    refine mw_aload i_92_11 (L := QM) rfl ?_
    refine mw_const i_92_12 (v := nI 7) (by decide) ?_
    refine mw_aload i_92_13 (L := QM) rfl ?_
    refine mw_const i_92_14 (v := nI 0) (by decide) ?_
    refine mw_iald i_92_15 (jn := 0) (n := 18) (by omega) (by omega) hQ.2.2.2.2.2 (by decide) (v := nI (dn σ)) (hL.2.2.2.2.1.trans hd0) ?_
    refine mw_const i_92_16 (v := nI 3) (by decide) ?_
    refine mw_irem i_92_17 (by decide) (w := nI ((dn σ) % 3)) (pk_rem (by omega) (by omega) (by omega)) ?_
    refine mw_iadd i_92_18 (w := nI (7 + ((dn σ) % 3))) (nI_add _ _) ?_
    refine mw_iald i_92_19 (jn := 7 + ((dn σ) % 3)) (n := 18) (by omega) (by omega) hQ.2.2.2.2.2 (by decide) (v := σ 22 (dn σ)) g4 ?_
    refine mw_const i_92_20 (v := nI 1) (by decide) ?_
    refine mw_ic i_92_21 (p := (σ 22 (dn σ)) = (nI 1)) Iff.rfl (fun c2 => ?_) (fun c2 => ?_)
    · skip
      refine mw_const i_92_26 (v := nI 1) (by decide) ?_
      refine mw_iret i_92_27 (x := nI 1) (fun _ => (by decide)) ?_
      exact q σ K I R ⟨CW_up hW, LR_n hL (Nat.le_succ n), hQ, hK0⟩
    · skip
      refine mw_iload i_92_22 (x := nI (bs (oP σ) 6)) rfl ?_
      refine mw_callS i_92_23 mf_88 (as := [pI (nI (bs (oP σ) 6))]) (rest := []) (d' := d9) (b' := b + 7) (ls0 := [some (pI (nI (bs (oP σ) 6))), none, none]) rfl rfl rfl (Nat.le_of_ble_eq_true rfl) rfl rfl rfl ?_
      refine a_count ?_
      rw [cnt6 hL]
      refine aft_v ?_
      refine mw_const i_92_24 (v := nI 4) (by decide) ?_
      refine mw_ic i_92_25 (p := (mO σ) ≤ 4) (nI_leI (by omega) (by omega)) (fun c3 => ?_) (fun c3 => ?_)
      · skip
        have hmn0 : ¬ mn σ (dn σ) = 0 := fun h => c1 (by rw [h])
        have h22 : σ 22 (dn σ) = nI 0 := (hV.2.2.2.2.2.1 (dn σ) (by omega)).2.2.1.resolve_right (fun h => c2 h.1)
        have hO4 : mO σ ≤ 4 := c3
        have hmok : mOK σ := ⟨hmn0, h22, hO4⟩
        refine mw_aload i_92_28 (L := QW) rfl ?_
        refine mw_aload i_92_29 (L := QV) rfl ?_
        refine mw_aload i_92_30 (L := QC) rfl ?_
        refine mw_aload i_92_31 (L := QK) rfl ?_
        refine mw_aload i_92_32 (L := QM) rfl ?_
        refine mw_iload i_92_33 (x := nI (bs (oP σ) 6)) rfl ?_
        refine mw_callS i_92_34 mf_91 (as := [pR (some QW), pR (some QV), pR (some QC), pR (some QK), pR (some QM), pI (nI (bs (oP σ) 6))]) (rest := []) (d' := d9) (b' := b + 7) (ls0 := [some (pR (some QW)), some (pR (some QV)), some (pR (some QC)), some (pR (some QK)), some (pR (some QM)), some (pI (nI (bs (oP σ) 6))), none, none, none, none, none, none, none, none]) rfl rfl rfl (Nat.le_of_ble_eq_true rfl) rfl rfl rfl ?_
        refine b_best (by omega) hQ hL hV hmn0 hO4 ?_
        refine aft_v ?_
        refine mw_istore i_92_35 (ls' := [some (pR (some RING)), some (pR (some QW)), some (pR (some QV)), some (pR (some QC)), some (pR (some QK)), some (pR (some QM)), some (pI (nI (bs (oP σ) 6))), some (pI (nI (en (dW σ (bC σ (twn σ (dn σ)))) 6))), none, none, none, none, none]) rfl (Nat.le_of_ble_eq_true rfl) ?_
        refine mw_const i_92_36 (v := nI 0) (by decide) ?_
        refine mw_istore i_92_37 (ls' := [some (pR (some RING)), some (pR (some QW)), some (pR (some QV)), some (pR (some QC)), some (pR (some QK)), some (pR (some QM)), some (pI (nI (bs (oP σ) 6))), some (pI (nI (en (dW σ (bC σ (twn σ (dn σ)))) 6))), some (pI (nI 0)), none, none, none, none]) rfl (Nat.le_of_ble_eq_true rfl) ?_
        refine mw_aload i_92_38 (L := QM) rfl ?_
        refine mw_aload i_92_39 (L := QM) rfl ?_
        refine mw_const i_92_40 (v := nI 0) (by decide) ?_
        refine mw_iald i_92_41 (jn := 0) (n := 18) (by omega) (by omega) hQ.2.2.2.2.2 (by decide) (v := nI (dn σ)) (hL.2.2.2.2.1.trans hd0) ?_
        refine mw_callS i_92_42 mf_79 (as := [pR (some QM), pI (nI (dn σ))]) (rest := []) (d' := d9) (b' := b + 7) (ls0 := [some (pR (some QM)), some (pI (nI (dn σ)))]) rfl rfl rfl (Nat.le_of_ble_eq_true rfl) rfl rfl rfl ?_
        refine b_many hQ hL (Nat.le_refl _) (by omega) (by omega) ?_
        refine aft_v ?_
        refine mw_const i_92_43 (v := nI 1) (by decide) ?_
        refine mw_isub i_92_44 (w := imu (mn σ (dn σ))) (imu_sub (by omega)) ?_
        refine mw_istore i_92_45 (ls' := [some (pR (some RING)), some (pR (some QW)), some (pR (some QV)), some (pR (some QC)), some (pR (some QK)), some (pR (some QM)), some (pI (nI (bs (oP σ) 6))), some (pI (nI (en (dW σ (bC σ (twn σ (dn σ)))) 6))), some (pI (nI 0)), some (pI (imu (mn σ (dn σ)))), none, none, none]) rfl (Nat.le_of_ble_eq_true rfl) ?_
        have hlp := fun q9 => c_mend_lp (d := d9 + 1) (b := b + 7) (K := K) (R := R) (Q := Q) (n := n) (c := (bC σ (twn σ (dn σ)))) (I0 := I) (by omega) hQ hV bC_ok.1 h10 g2 (fun k => by rw [← h10]; exact dig_le) q9 (mn σ (dn σ)) (Nat.le_refl _) I none none none FrQ_rfl (by rw [mS_M.1]; exact hL)
        rw [mS_M.2] at hlp
        refine hlp (fun I1 u9 u10 u11 u12 hF1 hL1 => ?_)
        refine mw_aload i_92_159 (L := RING) rfl ?_
        have hW1 := CW_Q hW hF1
        refine mw_callV i_92_160 mf_42 (as := []) (rest := []) (d' := d9) (b' := b) (ls0 := [some (pR (some RING)), none]) rfl rfl rfl (Nat.le_of_ble_eq_true rfl) hW.1.1.1.1 rfl (by omega) rfl ?_
        refine k_mend (by omega) hW1 (fun h => absurd hmok h) (fun _ I9 R9 hF9 hR9 hW9 => ?_)
        refine aft_v ?_
        refine mw_iload i_92_161 (x := nI (cK σ (bC σ (twn σ (dn σ))) (mO σ))) rfl ?_
        refine mw_icF i_92_162 (fun h => h rfl) ?_
        refine mw_const i_92_163 (v := nI 1) (by decide) ?_
        refine mw_goto i_92_164 ?_
        refine mw_iret i_92_166 (x := nI 1) (fun _ => (by decide)) ?_
        exact q _ K I9 R9 ⟨CW_up hW9, LR_n (LR_C0 hL1 hF9) (Nat.le_succ n), hQ, hK0⟩
      · skip
        refine mw_const i_92_26 (v := nI 1) (by decide) ?_
        refine mw_iret i_92_27 (x := nI 1) (fun _ => (by decide)) ?_
        exact q σ K I R ⟨CW_up hW, LR_n hL (Nat.le_succ n), hQ, hK0⟩
