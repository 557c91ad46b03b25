/-! the mender carries out the best way: the whole; mend -/
/-- who is at a place when the open places from i on are carried out -/
noncomputable def wa (σ : ST) (c : Nat → Nat) (i s : Nat) : Nat := @ite _ (opn σ s ∧ i ≤ cnt (opn σ) s ∧ ¬ c (cnt (opn σ) s) = pn σ) (Classical.propDecidable _) (c (cnt (opn σ) s)) (sw σ s)
def RWp (σ : ST) (c : Nat → Nat) (i : Nat) (τ : ST) : Prop := (∀ k, k ≠ 19 → k ≠ 20 → τ k = σ k) ∧ ∀ j, j < mn σ (dn σ) → (∀ k, i ≤ k → k < mO σ → kC σ c k = 1 → j < Os σ k / 2) → j < mn τ (dn σ) ∧ (∀ r, r < 2 → τ 19 (36 * dn σ + 6 * j + r) = nI (wa σ c i (2 * j + r))) ∧ ∀ q, 2 ≤ q → q < 6 → τ 19 (36 * dn σ + 6 * j + q) = σ 19 (36 * dn σ + 6 * j + q)
theorem sw_at {n : Nat} {σ : ST} (hV : IV n σ) {j r : Nat} (hj : j < mn σ (dn σ)) (hr : r < 2) : σ 19 (36 * dn σ + 6 * j + r) = nI (sw σ (2 * j + r)) ∧ sw σ (2 * j + r) < pn σ := by
  obtain ⟨a, b, c, d⟩ := sw_ok hV hj
  rcases (show r = 0 ∨ r = 1 by omega) with rfl | rfl
  · exact ⟨c, a⟩
  · exact ⟨d, b⟩
theorem wa_m {σ : ST} {c : Nat → Nat} {s : Nat} (hs : s < 2 * mn σ (dn σ)) : wa σ c (mO σ) s = sw σ s := by
  unfold wa
  rw [if_neg]
  intro h
  have := cnt_lt hs h.1
  have h2 := h.2.1
  unfold mO at h2
  omega
theorem RW_0 {n : Nat} {σ : ST} (hV : IV n σ) {c : Nat → Nat} : RWp σ c (mO σ) σ := ⟨fun _ _ _ => rfl, fun j hj _ => ⟨hj, fun r hr => by rw [wa_m (by omega)]; exact (sw_at hV hj hr).1, fun _ _ _ => rfl⟩⟩
theorem wa_P {σ : ST} {c : Nat → Nat} {i s : Nat} (hi : i < mO σ) (hc : c i = pn σ) : wa σ c i s = wa σ c (i + 1) s := by
  unfold wa
  by_cases h : opn σ s ∧ i + 1 ≤ cnt (opn σ) s ∧ ¬ c (cnt (opn σ) s) = pn σ
  · rw [if_pos h, if_pos ⟨h.1, by omega, h.2.2⟩]
  · rw [if_neg h, if_neg]
    intro q
    by_cases e : cnt (opn σ) s = i
    · rw [e] at q; exact q.2.2 hc
    · exact h ⟨q.1, by omega, q.2.2⟩
theorem wa_at {σ : ST} {c : Nat → Nat} {i : Nat} (hi : i < mO σ) (hc : ¬ c i = pn σ) : wa σ c i (Os σ i) = c i := by
  have h := Os_lt hi
  unfold wa
  rw [if_pos ⟨h.2.1, by omega, by rw [h.2.2]; exact hc⟩, h.2.2]
theorem wa_ne {σ : ST} {c : Nat → Nat} {i s : Nat} (hi : i < mO σ) (hs : s < 2 * mn σ (dn σ)) (h : s ≠ Os σ i) : wa σ c i s = wa σ c (i + 1) s := by
  have h4 : opn σ s → cnt (opn σ) s ≠ i := fun ho q => h (by rw [← q]; exact (pos_cnt hs ho).symm)
  unfold wa
  by_cases h9 : opn σ s ∧ i + 1 ≤ cnt (opn σ) s ∧ ¬ c (cnt (opn σ) s) = pn σ
  · rw [if_pos h9, if_pos ⟨h9.1, by omega, h9.2.2⟩]
  · rw [if_neg h9, if_neg]
    intro q
    have := h4 q.1
    exact h9 ⟨q.1, by omega, q.2.2⟩
theorem kC_1 {σ : ST} {c : Nat → Nat} {i : Nat} (h : kC σ c i = 1) : c i = pn σ ∧ ¬ (Os σ i % 2 = 0 ∧ opn σ (Os σ i + 1)) := by
  unfold kC at h
  by_cases e : c i = pn σ ∧ ¬ (Os σ i % 2 = 0 ∧ opn σ (Os σ i + 1))
  · exact e
  · rw [if_neg e] at h; exact absurd h (by decide)
theorem Os_mono {σ : ST} {j k : Nat} (h : j < k) (hk : k < mO σ) : Os σ j < Os σ k := pos_mono h hk
theorem M_ok {σ : ST} {c : Nat → Nat} {i : Nat} (hP : PVd σ c (mO σ)) (hi : i < mO σ) (hn : ¬ (c i = pn σ ∧ Os σ i % 2 = 0 ∧ opn σ (Os σ i + 1))) : ∀ k, i + 1 ≤ k → k < mO σ → kC σ c k = 1 → Os σ i / 2 < Os σ k / 2 := fun k h1 h2 h3 => by
  have ho := Os_mono (show i < k by omega) h2
  have hk := kC_1 h3
  by_cases e : Os σ i / 2 = Os σ k / 2
  · have e1 : Os σ i % 2 = 0 := by omega
    have e2 : Os σ k = Os σ i + 1 := by omega
    have e3 := (Os_lt h2).2.1
    rw [e2] at e3
    obtain ⟨n1, n2, n3⟩ := nx_open hi e1 e3
    have e4 : k = i + 1 := Os_inj h2 n1 (by rw [n2, e2])
    have h5 := (hP (i + 1) n1).2.1 n3
    rw [e4] at hk
    exact absurd ⟨h5.mp hk.1, e1, e3⟩ hn
  · omega
theorem RW_step {n : Nat} {σ τ : ST} {c : Nat → Nat} {i : Nat} (hV : IV n σ) (hP : PVd σ c (mO σ)) (hi : i < mO σ) (h : RWp σ c (i + 1) τ) : RWp σ c i (stepC σ c i τ) := by
  have hl := (Os_lt hi).1
  unfold stepC
  by_cases e : c i = pn σ
  · rw [if_pos e]
    by_cases ep : Os σ i % 2 = 0 ∧ opn σ (Os σ i + 1)
    · rw [if_pos ep]
      refine ⟨h.1, fun j hj hk => ?_⟩
      obtain ⟨a, b, d⟩ := h.2 j hj (fun k h1 h2 h3 => hk k (by omega) h2 h3)
      exact ⟨a, fun r hr => by rw [wa_P hi e]; exact b r hr, d⟩
    · rw [if_neg ep]
      have hM := (h.2 (Os σ i / 2) (by omega) (M_ok hP hi (fun q => ep q.2))).1
      refine ⟨fun k h1 h2 => by rw [stS_o h1 h2]; exact h.1 k h1 h2, fun j hj hk => ?_⟩
      have hjM : j < Os σ i / 2 := hk i (Nat.le_refl _) hi (if_pos ⟨e, ep⟩)
      obtain ⟨a, b, d⟩ := h.2 j hj (fun k h1 h2 h3 => hk k (by omega) h2 h3)
      refine ⟨?_, fun r hr => ?_, fun q h1 h2 => ?_⟩
      · show j < (stS τ (dn σ) (Os σ i / 2) 20 (dn σ)).toNatClampNeg
        have h20 : mn τ (dn σ) < 2147483648 := by
          have h9 := Int32.toInt_lt (τ 20 (dn σ))
          show (τ 20 (dn σ)).toInt.toNat < 2147483648
          omega
        rw [stS_20, upd_at, nI_clamp (by omega)]
        omega
      · rw [stS_19, if_neg (by omega), wa_P hi e]; exact b r hr
      · rw [stS_19, if_neg (by omega)]; exact d q h1 h2
  · rw [if_neg e]
    have ek : kC σ c i = 0 := if_neg (fun q => e q.1)
    refine ⟨fun k h1 h2 => by rw [ups_ne h1]; exact h.1 k h1 h2, fun j hj hk => ?_⟩
    obtain ⟨a, b, d⟩ := h.2 j hj (fun k h1 h2 h3 => hk k (by omega) h2 h3)
    refine ⟨by unfold mn; rw [ups_ne (by decide)]; exact a, fun r hr => ?_, fun q h1 h2 => ?_⟩
    · rw [ups_at]
      by_cases e2 : 2 * j + r = Os σ i
      · rw [show 36 * dn σ + 6 * j + r = 36 * dn σ + 6 * (Os σ i / 2) + Os σ i % 2 by omega, upd_at, e2, wa_at hi e]
      · rw [upd_ne (by omega), wa_ne hi (by omega) e2]; exact b r hr
    · rw [ups_at, upd_ne (by omega)]; exact d q h1 h2
theorem wa_lt {n : Nat} {σ : ST} (hV : IV n σ) {c : Nat → Nat} {i s : Nat} (hc : ∀ k, k < mO σ → c k ≤ pn σ) (hs : s < 2 * mn σ (dn σ)) : wa σ c i s < pn σ := by
  unfold wa
  split
  · rename_i h
    have h1 := cnt_lt hs h.1
    have h2 := hc _ h1
    have := h.2.2
    omega
  · have := (sw_at hV (j := s / 2) (r := s % 2) (by omega) (by omega)).2
    rw [show 2 * (s / 2) + s % 2 = s by omega] at this
    exact this
theorem sw_on {n : Nat} {σ : ST} (hV : IV n σ) {s : Nat} (hs : s < 2 * mn σ (dn σ)) : onC σ (dn σ) (nI (sw σ s)) := by
  refine ⟨s / 2, by omega, ?_⟩
  have := (sw_at hV (j := s / 2) (r := s % 2) (by omega) (by omega)).1
  rw [show 2 * (s / 2) + s % 2 = s by omega] at this
  rcases Nat.mod_two_eq_zero_or_one s with q | q
  · rw [q, Nat.add_zero] at this; exact Or.inl this
  · rw [q] at this; exact Or.inr this
theorem wa_dis {n : Nat} {σ : ST} (hV : IV n σ) {c : Nat → Nat} (hP : PVd σ c (mO σ)) {i j : Nat} (hj : j < mn σ (dn σ)) : ¬ wa σ c i (2 * j) = wa σ c i (2 * j + 1) := by
  have s0 : 2 * j < 2 * mn σ (dn σ) := by omega
  have s1 : 2 * j + 1 < 2 * mn σ (dn σ) := by omega
  unfold wa
  by_cases h0 : opn σ (2 * j) ∧ i ≤ cnt (opn σ) (2 * j) ∧ ¬ c (cnt (opn σ) (2 * j)) = pn σ <;> by_cases h1 : opn σ (2 * j + 1) ∧ i ≤ cnt (opn σ) (2 * j + 1) ∧ ¬ c (cnt (opn σ) (2 * j + 1)) = pn σ
  · rw [if_pos h0, if_pos h1]
    have l1 : cnt (opn σ) (2 * j + 1) < mO σ := cnt_lt s1 h1.1
    have e := cnt_t h0.1
    intro q
    exact ((hP _ l1).1 h1.2.2).2 (cnt (opn σ) (2 * j)) (by omega) q
  · rw [if_pos h0, if_neg h1]
    have l0 : cnt (opn σ) (2 * j) < mO σ := cnt_lt s0 h0.1
    intro q
    have := ((hP _ l0).1 h0.2.2).1.2
    rw [q] at this
    exact this (sw_on hV s1)
  · rw [if_neg h0, if_pos h1]
    have l1 : cnt (opn σ) (2 * j + 1) < mO σ := cnt_lt s1 h1.1
    intro q
    have := ((hP _ l1).1 h1.2.2).1.2
    rw [← q] at this
    exact this (sw_on hV s0)
  · rw [if_neg h0, if_neg h1]
    intro q
    obtain ⟨a, b, e0, e1⟩ := sw_ok hV hj
    have hd := hV.2.2.1.2
    refine ((hV.2.2.2.2.2.1 (dn σ) (by omega)).2.2.2.2.1 j hj).2.2.1 ?_
    rw [e0, e1, q]
theorem IVm_wa {n : Nat} {σ τ : ST} (hV : IV n σ) {c : Nat → Nat} (hP : PVd σ c (mO σ)) (hc : ∀ k, k < mO σ → c k ≤ pn σ) {i j : Nat} (hj : j < mn σ (dn σ)) (h : RWp σ c i τ) (hk : ∀ k, i ≤ k → k < mO σ → kC σ c k = 1 → j < Os σ k / 2) : IVm τ (dn σ) j := by
  have hd := hV.2.2.1.2
  obtain ⟨-, b, d⟩ := h.2 j hj hk
  have a := (hV.2.2.2.2.2.1 (dn σ) (by omega)).2.2.2.2.1 j hj
  have ep : pn τ = pn σ := by unfold pn; rw [h.1 14 (by omega) (by omega)]
  have et : tn τ = tn σ := by unfold tn; rw [h.1 18 (by omega) (by omega)]
  have b0 : τ 19 (36 * dn σ + 6 * j) = nI (wa σ c i (2 * j)) := b 0 (by omega)
  have l0 := wa_lt hV (i := i) hc (s := 2 * j) (by omega)
  have l1 := wa_lt hV (i := i) hc (s := 2 * j + 1) (by omega)
  have hp := hV.1.2
  unfold IVm
  rw [ep, et, b0, b 1 (by omega), d 2 (by omega) (by omega), d 3 (by omega) (by omega), d 4 (by omega) (by omega), d 5 (by omega) (by omega)]
  exact ⟨⟨_, l0, rfl⟩, ⟨_, l1, rfl⟩, fun q => wa_dis hV hP hj (nI_inj q (by omega) (by omega)), a.2.2.2⟩
/-- the int of the next place, -1 behind them all -/
def imu : Nat → Int32
  | 0 => (-1)
  | u + 1 => nI u
theorem imu_dn {u : Nat} (h : u < 1000) : nI u + Int32.ofInt (-1) = imu u := by
  cases u with
  | zero => decide
  | succ v =>
    show nI (v + 1) + Int32.ofInt (-1) = nI v
    rw [← nI_add v 1, Int32.add_assoc]
    rw [show nI 1 + Int32.ofInt (-1) = 0 by decide, Int32.add_zero]
theorem imu_sub {u : Nat} (h : u < 1000) : nI u - nI 1 = imu u := by
  cases u with
  | zero => decide
  | succ v => exact sub1
theorem cS_next {σ : ST} {c : Nat → Nat} {u : Nat} (h : u < mO σ) : cS σ c (mO σ - u) = stepC σ c u (cS σ c (mO σ - (u + 1))) ∧ cK σ c (mO σ - u) = cK σ c (mO σ - (u + 1)) + kC σ c u := by
  rw [show mO σ - u = mO σ - (u + 1) + 1 by omega]
  show stepC σ c (mO σ - 1 - (mO σ - (u + 1))) _ = _ ∧ _ + kC σ c (mO σ - 1 - (mO σ - (u + 1))) = _
  rw [show mO σ - 1 - (mO σ - (u + 1)) = u by omega]
  exact ⟨rfl, rfl⟩
theorem FrKR_tr {K : KM} {R R' R'' : RM} (h : FrKR K K R R') (h' : FrKR K K R' R'') : FrKR K K R R'' := fun L hL => ⟨rfl, (h' L hL).2.trans (h L hL).2⟩
theorem k_co {d b : Nat} {K : KM} {Q : QT} {n0 : Nat} {σ : ST} {c : Nat → Nat} {I0 : IM} {R0 : RM} (hd : 2 ≤ d) (hV : IV n0 σ) (hP : PVd σ c (mO σ)) (hc : ∀ k, k < mO σ → c k ≤ pn σ) (hO : mO σ ≤ 4) (h22 : σ 22 (dn σ) = nI 0) (q : ∀ I' R', CW n0 (cS σ c (mO σ)) K I' R' → FrC I0 I' → FrKR K K R0 R' → Q (.inl (some (pI (nI (cK σ c (mO σ)))))) K I' R') : ∀ u, u ≤ mO σ → ∀ (I : IM) (R : RM) (u3 u4 : Option PV), CW n0 (cS σ c (mO σ - u)) K I R → MB σ c I R → RWp σ c u (cS σ c (mO σ - u)) → FrC I0 I → FrKR K K R0 R → Mw d b N_X2_carryOut 9 [some (pR (some MEN)), some (pI (nI (cK σ c (mO σ - u)))), some (pI (imu u)), u3, u4] [] K I R Q := by
  have hd9 := hV.2.2.1.2
  have hp10 := hV.1.2
  have hm6 : mn σ (dn σ) ≤ 6 := (hV.2.2.2.2.2.1 (dn σ) (by omega)).2.1
  intro u
  induction u with
  | zero =>
    intro _ I R u3 u4 hW hMB hRW hF hR
    rw [Nat.sub_zero] at hW ⊢
    exact k_co_end (q I R hW hF hR)
  | succ u ih =>
    intro hu I R u3 u4 hW hMB hRW hF hR
    obtain ⟨e1, e2⟩ := cS_next (σ := σ) (c := c) (u := u) (by omega)
    have hl := (Os_lt (σ := σ) (p := u) (by omega)).1
    have hMc := M_ok (c := c) hP (show u < mO σ by omega)
    have hM1 : ¬ (c u = pn σ ∧ Os σ u % 2 = 0 ∧ opn σ (Os σ u + 1)) → Os σ u / 2 < mn (cS σ c (mO σ - (u + 1))) (dn σ) := fun h => (hRW.2 _ (by omega) (hMc h)).1
    have hs := RW_step hV hP (show u < mO σ by omega) hRW
    refine k_co_step hd hW hMB hO hm6 (by omega) (hc u (by omega)) hp10 (by omega) (fun h => hM1 (fun a => h a.2)) (fun h => hM1 (fun a => h a.1)) (by rw [hRW.1 22 (by omega) (by omega)]; exact h22) (fun h => ?_) (fun I' R' v3 v4 hW' hMB' hF' hR' => ?_)
    · have es : stepC σ c u (cS σ c (mO σ - (u + 1))) = ups (cS σ c (mO σ - (u + 1))) 19 (36 * dn σ + 6 * (Os σ u / 2) + Os σ u % 2) (nI (c u)) := by unfold stepC; rw [if_neg h]
      rw [← es]
      exact IVm_wa hV hP hc (by omega) hs (fun k h1 h2 h3 => by
        by_cases e : k = u
        · rw [e] at h3; exact absurd (kC_1 h3).1 h
        · exact hMc (fun a => h a.1) k (by omega) h2 h3)
    · rw [imu_dn (by omega), ← e2]
      exact ih (by omega) I' R' v3 v4 (by rw [e1]; exact hW') hMB' (by rw [e1]; exact hs) (FrC_tr hF hF') (FrKR_tr hR hR')
set_option maxRecDepth 20000 in
set_option maxHeartbeats 400000 in
theorem k_carry {d b : Nat} {K : KM} {I : IM} {R : RM} {Q : QT} {n0 : Nat} {σ : ST} {c : Nat → Nat} (hd : 2 ≤ d) (hW : CW n0 σ K I R) (hMB : MB σ c I R) (hP : PVd σ c (mO σ)) (hc : ∀ k, k < mO σ → c k ≤ pn σ) (hO : mO σ ≤ 4) (h22 : σ 22 (dn σ) = nI 0) (q : ∀ I' R', CW n0 (cS σ c (mO σ)) K I' R' → FrC I I' → FrKR K K R R' → Q (.inl (some (pI (nI (cK σ c (mO σ)))))) K I' R') : Mw d b N_X2_carryOut 0 [some (pR (some MEN)), none, none, none, none] [] K I R Q := by
  obtain ⟨d9, rfl⟩ : ∃ d9, d = d9 + 1 := ⟨d - 1, by omega⟩
  have hS := hW.1.1
  refine mw_const i_19_0 (v := nI 0) (by decide) ?_
  refine mw_istore i_19_1 (ls' := [some (pR (some MEN)), some (pI (nI 0)), none, none, none]) rfl (Nat.le_of_ble_eq_true rfl) ?_
  refine mw_aload i_19_2 (L := MEN) rfl ?_
  refine mw_get i_19_3 hS.2.1.2.2.2.2 (v := nI (mO σ)) hMB.1 ?_
  refine mw_const i_19_4 (v := nI 4) (by decide) ?_
  refine mw_min i_19_5 (Nat.le_of_ble_eq_true rfl) (by omega) (w := nI (mO σ)) (if_neg (by rw [nI_ltI (by omega) (by omega)]; omega)) ?_
  refine mw_const i_19_6 (v := nI 1) (by decide) ?_
  refine mw_isub i_19_7 (w := imu (mO σ)) (imu_sub (by omega)) ?_
  refine mw_istore i_19_8 (ls' := [some (pR (some MEN)), some (pI (nI 0)), some (pI (imu (mO σ))), none, none]) rfl (Nat.le_of_ble_eq_true rfl) ?_
  have h0 : cS σ c (mO σ - mO σ) = σ := by rw [Nat.sub_self]; rfl
  have hk0 : cK σ c (mO σ - mO σ) = 0 := by rw [Nat.sub_self]; rfl
  have z := k_co (d := d9 + 1) (b := b) (by omega) hW.2.2 hP hc hO h22 q (mO σ) (Nat.le_refl _) I R none none (by rw [h0]; exact hW) hMB (by rw [h0]; exact RW_0 hW.2.2) FrC_rfl FrKR_rfl
  rw [hk0] at z
  exact z
/-- today's card is mended -/
noncomputable def meS (σ : ST) : ST := cS σ (bC σ (twn σ (dn σ))) (mO σ)
noncomputable def meK (σ : ST) : Nat := cK σ (bC σ (twn σ (dn σ))) (mO σ)
theorem FrKR_R {K : KM} {R R' : RM} (h : FrR R R') : FrKR K K R R' := fun L hL => ⟨rfl, h.1 L (fun e => by subst e; exact absurd hL (by show ¬ 9 < 4; decide))⟩
set_option maxRecDepth 20000 in
set_option maxHeartbeats 400000 in
theorem k_mend {d b : Nat} {K : KM} {I : IM} {R : RM} {Q : QT} {n : Nat} {σ : ST} (hd : 12 ≤ d) (hW : CW n σ K I R) (q1 : ¬ mOK σ → ∀ I' R', FrN I I' → FrR R R' → CW n σ K I' R' → Q (.inr 2) K I' R') (q0 : mOK σ → ∀ I' R', FrC I I' → FrKR K K R R' → CW n (meS σ) K I' R' → Q (.inl (some (pI (nI (meK σ))))) K I' R') : Mw d (b + 7) N_X5_mend 0 [some (pR (some RING)), none] [] K I R Q := by
  obtain ⟨d9, rfl⟩ : ∃ d9, d = d9 + 1 := ⟨d - 1, by omega⟩
  have hS := hW.1.1
  have hdd := hW.2.2.2.2.1.2
  refine mw_aload i_42_0 (L := RING) rfl ?_
  refine mw_callV i_42_1 mf_72 (as := []) (rest := []) (d' := d9) (b' := b) (ls0 := [some (pR (some RING)), none]) rfl rfl rfl (Nat.le_of_ble_eq_true rfl) hS.1.1 rfl (by omega) rfl ?_
  refine k_mView (by omega) hW (by omega) (fun hno I9 R9 hF9 hR9 hW9 => ?_) (fun hok I9 R9 tw hF9 hR9 hW9 htw htw4 hM9 => ?_)
  · skip
    refine aft_x hx_42 ?_
    exact q1 hno I9 R9 hF9 hR9 hW9
  · skip
    refine aft_v ?_
    refine mw_astore i_42_2 (ls' := [some (pR (some RING)), some (pR (some MEN))]) rfl (Nat.le_of_ble_eq_true rfl) ?_
    refine mw_aload i_42_3 (L := MEN) rfl ?_
    refine mw_callV i_42_4 mf_15 (as := []) (rest := []) (d' := d9) (b' := b) (ls0 := [some (pR (some MEN))]) rfl rfl rfl (Nat.le_of_ble_eq_true rfl) hS.2.1.2.2.2.2 rfl rfl rfl ?_
    refine k_find (by omega) (by omega) hW9 hM9 hok.2.2 (fun I8 hX8 hb8 => ?_)
    refine aft_v ?_
    refine mw_pop i_42_5 trivial ?_
    refine mw_aload i_42_6 (L := MEN) rfl ?_
    obtain ⟨hy9, hcx9⟩ := cix_y hW9 (by omega) hok.1
    have hFX8 := FX_X (FX_of hok.2.2 hM9) hX8
    have hMB8 : MB σ (bC σ tw) I8 R9 := ⟨hFX8.2.2.2.1, hFX8.2.2.2.2.2.2.1, hFX8.2.2.2.2.2.1, hb8.2 bS_ne, by rw [hFX8.2.1, hcx9], hy9⟩
    refine mw_callV i_42_7 mf_19 (as := []) (rest := []) (d' := d9) (b' := b) (ls0 := [some (pR (some MEN)), none, none, none, none]) rfl rfl rfl (Nat.le_of_ble_eq_true rfl) hS.2.1.2.2.2.2 rfl rfl rfl ?_
    refine k_carry (by omega) (CW_N hW9 (FrN_X hX8) FrR_rfl) hMB8 bC_ok.1 (fun k _ => dig_le) hok.2.2 hok.2.1 (fun I7 R7 hW7 hF7 hR7 => ?_)
    refine aft_v ?_
    refine mw_iretI i_42_8 (x := nI (cK σ (bC σ tw) (mO σ))) rt_42 ?_
    unfold meS meK at q0
    rw [show twn σ (dn σ) = tw from by unfold twn; rw [htw]; exact nI_clamp (by omega)] at q0
    exact q0 hok I7 R7 (FrC_tr (FrC_N hF9) (FrC_tr (FrC_N (FrN_X hX8)) hF7)) (FrKR_tr (FrKR_R hR9) hR7) hW7
