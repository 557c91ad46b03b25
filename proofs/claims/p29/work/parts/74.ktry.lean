/-! the mender tries all ways -/
/-- the i-th choice of the t-th way tried; the first place counts least -/
def cg (C t i : Nat) : Nat := t / (C + 1) ^ i % (C + 1)
theorem cg_le {C t i : Nat} : cg C t i ≤ C := Nat.lt_succ_iff.mp (Nat.mod_lt _ (Nat.succ_pos _))
theorem cg_0 {C i : Nat} : cg C 0 i = 0 := by unfold cg; rw [Nat.zero_div, Nat.zero_mod]
theorem cg_full {C t : Nat} : ∀ {i : Nat}, (∀ j, j < i → cg C t j = C) → t % (C + 1) ^ i + 1 = (C + 1) ^ i
  | 0, _ => by rw [Nat.pow_zero, Nat.mod_one]
  | i + 1, h => by
    have h1 := cg_full (i := i) (fun j hj => h j (by omega))
    have h2 := h i (by omega)
    unfold cg at h2
    rw [Nat.mod_pow_succ, h2, Nat.pow_succ, Nat.mul_add, Nat.mul_one]
    omega
theorem cg_end {C t m : Nat} (ht : t < (C + 1) ^ m) (h : ∀ j, j < m → cg C t j = C) : t + 1 = (C + 1) ^ m := by
  have := cg_full h
  rw [Nat.mod_eq_of_lt ht] at this
  exact this
theorem cg_inc {C t i : Nat} (h : ∀ j, j < i → cg C t j = C) (hi : cg C t i < C) : (∀ j, j < i → cg C (t + 1) j = 0) ∧ cg C (t + 1) i = cg C t i + 1 ∧ (∀ j, i < j → cg C (t + 1) j = cg C t j) ∧ ∀ m, i < m → t + 1 ≠ (C + 1) ^ m := by
  have hB : 0 < (C + 1) ^ i := Nat.pow_pos (Nat.succ_pos _)
  have h1 := cg_full h
  have ht : t + 1 = (t / (C + 1) ^ i + 1) * (C + 1) ^ i := by
    have := Nat.div_add_mod t ((C + 1) ^ i)
    rw [Nat.add_mul, Nat.one_mul, Nat.mul_comm (t / (C + 1) ^ i)]
    omega
  have hq : (t + 1) / (C + 1) ^ i = t / (C + 1) ^ i + 1 := by
    rw [ht, Nat.mul_div_cancel _ hB]
  have hi2 : t / (C + 1) ^ i % (C + 1) < C := hi
  have hm1 : (t / (C + 1) ^ i + 1) % (C + 1) = t / (C + 1) ^ i % (C + 1) + 1 := by
    have h1' : 1 % (C + 1) = 1 := Nat.mod_eq_of_lt (by omega)
    rw [Nat.add_mod, h1', Nat.mod_eq_of_lt (by omega)]
  refine ⟨fun j hj => ?_, ?_, fun j hj => ?_, fun m hm e => ?_⟩
  · unfold cg
    rw [ht, show i = (i - j - 1) + 1 + j by omega, Nat.pow_add, ← Nat.mul_assoc, Nat.mul_div_cancel _ (Nat.pow_pos (Nat.succ_pos _)), Nat.pow_succ, ← Nat.mul_assoc, Nat.mul_mod_left]
  · unfold cg
    rw [hq]; exact hm1
  · unfold cg
    rw [show j = i + (1 + (j - i - 1)) by omega, Nat.pow_add, ← Nat.div_div_eq_div_mul, ← Nat.div_div_eq_div_mul, hq, Nat.pow_add, Nat.pow_one, ← Nat.div_div_eq_div_mul, ← Nat.div_div_eq_div_mul]
    have : (t / (C + 1) ^ i + 1) / (C + 1) = t / (C + 1) ^ i / (C + 1) := by
      have a := Nat.div_add_mod (t / (C + 1) ^ i + 1) (C + 1)
      have b := Nat.div_add_mod (t / (C + 1) ^ i) (C + 1)
      rw [hm1] at a
      have e : (C + 1) * ((t / (C + 1) ^ i + 1) / (C + 1)) = (C + 1) * (t / (C + 1) ^ i / (C + 1)) := by omega
      exact Nat.eq_of_mul_eq_mul_left (Nat.succ_pos _) e
    rw [this]
  · have a : (t + 1) / (C + 1) ^ i = (C + 1) ^ (m - i - 1) * (C + 1) := by
      rw [e, show m = (m - i - 1) + 1 + i by omega, Nat.pow_add, Nat.mul_div_cancel _ hB, Nat.pow_succ]
      rw [show m - i - 1 + 1 + i - i - 1 = m - i - 1 by omega]
    rw [hq] at a
    rw [a, Nat.mul_mod_left] at hm1
    omega
/-- who comes by the t-th way tried -/
noncomputable def cW (σ : ST) (t k : Nat) : Nat := if cg (nC σ) t k < nC σ then Cd σ (cg (nC σ) t k) else pn σ
noncomputable def Vv (σ : ST) (tw : Nat) (c : Nat → Nat) : Int32 := @ite _ (PVd σ c (mO σ)) (Classical.propDecidable _) (smW σ tw c (mO σ)) (-1)
theorem Vw_v {σ : ST} {tw w : Nat} : Vw σ tw w = Vv σ tw (dig (pn σ) (mO σ) w) := rfl
theorem smW_congr {σ : ST} {tw : Nat} {c c' : Nat → Nat} {p : Nat} (h : ∀ j, j < p → c j = c' j) : smW σ tw c p = smW σ tw c' p := smI_congr (fun k hk => by rw [h k hk])
theorem Vv_congr {σ : ST} {tw : Nat} {c c' : Nat → Nat} (h : ∀ j, j < mO σ → c j = c' j) : Vv σ tw c = Vv σ tw c' := by
  unfold Vv
  by_cases e : PVd σ c (mO σ)
  · rw [if_pos e, if_pos ((PVd_congr (Nat.le_refl _) h).mp e), smW_congr h]
  · rw [if_neg e, if_neg (fun q => e ((PVd_congr (Nat.le_refl _) h).mpr q))]
/-- the greatest of the first ways tried -/
noncomputable def Gm (σ : ST) (tw : Nat) : Nat → Int32
  | 0 => nI 0
  | t + 1 => if Gm σ tw t < Vv σ tw (cW σ t) then Vv σ tw (cW σ t) else Gm σ tw t
theorem Gm_ge {σ : ST} {tw : Nat} : ∀ {n t : Nat}, t < n → Vv σ tw (cW σ t) ≤ Gm σ tw n
  | 0, _, h => absurd h (Nat.not_lt_zero _)
  | n + 1, t, h => by
    show _ ≤ (if Gm σ tw n < Vv σ tw (cW σ n) then Vv σ tw (cW σ n) else Gm σ tw n)
    by_cases e : t = n
    · split
      · rw [e]; exact Int32.le_refl _
      · rename_i hh; rw [e]; exact Int32.not_lt.mp hh
    · have := Gm_ge (σ := σ) (tw := tw) (n := n) (t := t) (by omega)
      split
      · exact i32_le_lt this (by assumption)
      · exact this
theorem Gm_le {σ : ST} {tw : Nat} {B : Int32} (h0 : nI 0 ≤ B) : ∀ {n : Nat}, (∀ t, t < n → Vv σ tw (cW σ t) ≤ B) → Gm σ tw n ≤ B
  | 0, _ => h0
  | n + 1, h => by
    show (if Gm σ tw n < Vv σ tw (cW σ n) then Vv σ tw (cW σ n) else Gm σ tw n) ≤ B
    split
    · exact h n (by omega)
    · exact Gm_le h0 (fun t ht => h t (by omega))
theorem cW_le {σ : ST} {t k : Nat} : cW σ t k ≤ pn σ := by
  unfold cW
  split
  · have := (Cd_ok (σ := σ) (i := cg (nC σ) t k) (by assumption)).1
    omega
  · exact Nat.le_refl _
/-- each way is tried that can be one -/
theorem cW_sur {σ : ST} {c : Nat → Nat} (h : ∀ k, k < mO σ → c k = pn σ ∨ (c k < pn σ ∧ cand σ (c k))) : ∃ t, t < (nC σ + 1) ^ mO σ ∧ ∀ k, k < mO σ → cW σ t k = c k := by
  let j : Nat → Nat := fun k => if c k = pn σ then nC σ else cnt (cand σ) (c k)
  have hj : ∀ k, k < mO σ → j k ≤ nC σ := fun k hk => by
    show (if c k = pn σ then nC σ else cnt (cand σ) (c k)) ≤ nC σ
    split
    · exact Nat.le_refl _
    · rcases h k hk with e | ⟨a, b⟩
      · contradiction
      · exact Nat.le_of_lt (cnt_lt a b)
  let r : Nat → Nat := fun k => j (mO σ - 1 - k)
  have hr : ∀ k, k < mO σ → r k ≤ nC σ := fun k hk => hj _ (by omega)
  refine ⟨pre (nC σ) r (mO σ), pre_lt hr, fun k hk => ?_⟩
  have e := dig_pre (P := nC σ) (w := pre (nC σ) r (mO σ)) (Nat.le_refl (mO σ)) hr (by rw [Nat.sub_self, Nat.pow_zero, Nat.div_one]) (mO σ - 1 - k) (by omega)
  have e2 : cg (nC σ) (pre (nC σ) r (mO σ)) k = j k := by
    have a : dig (nC σ) (mO σ) (pre (nC σ) r (mO σ)) (mO σ - 1 - k) = cg (nC σ) (pre (nC σ) r (mO σ)) k := by
      unfold dig cg
      rw [show mO σ - 1 - (mO σ - 1 - k) = k by omega]
    rw [← a, e]
    show j (mO σ - 1 - (mO σ - 1 - k)) = j k
    rw [show mO σ - 1 - (mO σ - 1 - k) = k by omega]
  unfold cW
  rw [e2]
  show (if (if c k = pn σ then nC σ else cnt (cand σ) (c k)) < nC σ then Cd σ (if c k = pn σ then nC σ else cnt (cand σ) (c k)) else pn σ) = c k
  by_cases q : c k = pn σ
  · rw [if_pos q, if_neg (Nat.lt_irrefl _), q]
  · rw [if_neg q]
    rcases h k hk with e | ⟨a, b⟩
    · contradiction
    · rw [if_pos (show cnt (cand σ) (c k) < nC σ from cnt_lt a b)]
      exact pos_cnt a b
theorem i32_anti {a b : Int32} (h : a ≤ b) (h2 : b ≤ a) : a = b := Int32.le_antisymm h h2
theorem PVd_P {σ : ST} : PVd σ (fun _ => pn σ) (mO σ) := fun k hk => by
  refine ⟨fun h => absurd rfl h, fun _ => ⟨fun _ => rfl, fun _ => rfl⟩, ?_⟩
  have := bad_P (σ := σ) (c := fun _ => pn σ) (p := k) hk
  intro h
  exact this ((bad_congr (fun j hj => by by_cases e : j = k; rw [e, upn_at]; rw [upn_ne e])).mpr h)
theorem smW_P {σ : ST} {tw : Nat} : ∀ p, smW σ tw (fun _ => pn σ) p = nI 0
  | 0 => rfl
  | p + 1 => by
    show smW σ tw (fun _ => pn σ) p + wo σ tw (pn σ) = nI 0
    rw [smW_P p, wo_P]; rfl
theorem Wb_ex {σ : ST} {tw : Nat} {c : Nat → Nat} (hc : ∀ k, k < mO σ → c k ≤ pn σ) : Vv σ tw c ≤ bS σ tw := by
  have h1 := pre_lt hc
  have e := dig_pre (P := pn σ) (w := pre (pn σ) c (mO σ)) (Nat.le_refl (mO σ)) hc (by rw [Nat.sub_self, Nat.pow_zero, Nat.div_one])
  have h2 := Wb_max (V := Vw σ tw) (nW σ) (pre (pn σ) c (mO σ)) h1
  rw [Vw_v, Vv_congr e] at h2
  exact h2
theorem bS_0 {σ : ST} {tw : Nat} : nI 0 ≤ bS σ tw := by
  have h := Wb_ex (σ := σ) (tw := tw) (c := fun _ => pn σ) (fun _ _ => Nat.le_refl _)
  unfold Vv at h
  rw [if_pos PVd_P, smW_P] at h
  exact h
theorem bS_ne {σ : ST} {tw : Nat} : bS σ tw ≠ (-1) := fun e => by
  have := bS_0 (σ := σ) (tw := tw)
  rw [e] at this
  exact absurd this (by decide)
theorem bC_ok {σ : ST} {tw : Nat} : PVd σ (bC σ tw) (mO σ) ∧ bS σ tw = smW σ tw (bC σ tw) (mO σ) := by
  have h := (Wb_in (V := Vw σ tw) (nW σ) bS_ne).2
  have hn : Vw σ tw (Wb (Vw σ tw) (nW σ)).2 ≠ (-1) := by rw [h]; exact bS_ne
  rw [Vw_v] at h hn
  unfold Vv at h hn
  by_cases e : PVd σ (dig (pn σ) (mO σ) (Wb (Vw σ tw) (nW σ)).2) (mO σ)
  · rw [if_pos e] at h
    exact ⟨e, h.symm⟩
  · rw [if_neg e] at hn
    exact absurd rfl hn
theorem Gm_all {σ : ST} {tw : Nat} : Gm σ tw ((nC σ + 1) ^ mO σ) = bS σ tw := by
  refine i32_anti (Gm_le bS_0 (fun t ht => Wb_ex (fun k hk => cW_le))) ?_
  obtain ⟨h1, h2⟩ := bC_ok (σ := σ) (tw := tw)
  obtain ⟨t, ht, e⟩ := cW_sur (σ := σ) (c := bC σ tw) (fun k hk => by
    by_cases q : bC σ tw k = pn σ
    · exact Or.inl q
    · have a : bC σ tw k ≤ pn σ := dig_le
      exact Or.inr ⟨by omega, ((h1 k hk).1 q).1⟩)
  have h3 := Gm_ge (σ := σ) (tw := tw) ht
  rw [Vv_congr e] at h3
  unfold Vv at h3
  rw [if_pos h1, ← h2] at h3
  exact h3
set_option maxRecDepth 20000 in
set_option maxHeartbeats 400000 in
theorem k_afill_lp {d : Nat} {b : Nat} {K : KM} {R : RM} {Q : QT} {L : Lb} {sz : Nat} {v : Int32} {I0 : IM} (hK : K L = some (7, sz)) (hsz : sz < 2147483648) (q : ∀ I', (∀ L', L' ≠ L → I' L' = I0 L') → (∀ j, j < sz → I' L j = v) → Q (.inl none) K I' R) : ∀ (n i : Nat) (I : IM), sz - i < n → i ≤ sz → (∀ L', L' ≠ L → I L' = I0 L') → (∀ j, j < i → I L j = v) → Mw d b N_J7_fill_53178 5 [some (pR (some L)), some (pI v), some (pI (nI i)), some (pI (nI sz))] [] K I R Q := by
  intro n
  induction n with
  | zero => intro i I  hn; exact absurd hn (Nat.not_lt_zero _)
  | succ n ih =>
    intro i I  hn hi hF hv
    refine mw_iload i_76_5 (x := nI i) rfl ?_
    refine mw_iload i_76_6 (x := nI sz) rfl ?_
    refine mw_ic i_76_7 (p := sz ≤ i) (nI_leI (by omega) (by omega)) (fun c1 => ?_) (fun c1 => ?_)
    · skip
      refine mw_ret i_76_14 ?_
      exact q I hF (fun j hj => hv j (by omega))
    · skip
      refine mw_aload i_76_8 (L := L) rfl ?_
      refine mw_iload i_76_9 (x := nI i) rfl ?_
      refine mw_iload i_76_10 (x := v) rfl ?_
      obtain ⟨I22, e22⟩ : ∃ I22, I22 = up2 I L i v := ⟨_, rfl⟩
      refine mw_iast i_76_11 (jn := i) (n := sz) (by omega) (by omega) (x := v) hK (I' := I22) e22.symm ?_
      refine mw_iinc i_76_12 (x := nI i) (v := nI (i + 1)) (ls' := [some (pR (some L)), some (pI v), some (pI (nI (i + 1))), some (pI (nI sz))]) rfl (nI_add _ _) rfl ?_
      refine mw_goto i_76_13 ?_
      exact ih (i + 1) I22 (by omega) (by omega) (fun L9 h9 => by rw [e22, up2_ne h9]; exact hF L9 h9) (fun j hj => by
        rw [e22, up2_at]
        by_cases e9 : j = i
        · rw [e9, upd_at]
        · rw [upd_ne e9]; exact hv j (by omega))
set_option maxRecDepth 20000 in
set_option maxHeartbeats 400000 in
theorem k_afill {d b : Nat} {K : KM} {I : IM} {R : RM} {Q : QT} {L : Lb} {sz : Nat} {v : Int32} (hK : K L = some (7, sz)) (hsz : sz < 2147483648) (q : ∀ I', (∀ L', L' ≠ L → I' L' = I L') → (∀ j, j < sz → I' L j = v) → Q (.inl none) K I' R) : Mw d b N_J7_fill_53178 0 [some (pR (some L)), some (pI v), none, none] [] K I R Q := by
  refine mw_const i_76_0 (v := nI 0) (by decide) ?_
  refine mw_istore i_76_1 (ls' := [some (pR (some L)), some (pI v), some (pI (nI 0)), none]) rfl (Nat.le_of_ble_eq_true rfl) ?_
  refine mw_aload i_76_2 (L := L) rfl ?_
  refine mw_alen i_76_3 (n := sz) hK (by decide) ?_
  refine mw_istore i_76_4 (ls' := [some (pR (some L)), some (pI v), some (pI (nI 0)), some (pI (nI sz))]) rfl (Nat.le_of_ble_eq_true rfl) ?_
  exact k_afill_lp (I0 := I) hK hsz q (sz + 1) 0 I (by omega) (by omega) (fun _ _ => rfl) (fun j hj => absurd hj (Nat.not_lt_zero _))
set_option maxRecDepth 20000 in
set_option maxHeartbeats 400000 in
theorem k_next_lp {d : Nat} {b : Nat} {K : KM} {R : RM} {Q : QT} {tw t : Nat} {σ : ST} {I0 : IM} (hS : CS0 K R) (hO : mO σ ≤ 4) (hp10 : nC σ ≤ 10) (ht : t < (nC σ + 1) ^ mO σ) (q1 : t + 1 < (nC σ + 1) ^ mO σ → ∀ I', FrX I0 I' → I' (MN 0) = I0 (MN 0) → (∀ j, j < mO σ → I' (MN 4) j = nI (cg (nC σ) (t + 1) j)) → Q (.inl (some (pI (nI 1)))) K I' R) (q0 : t + 1 = (nC σ + 1) ^ mO σ → ∀ I', FrX I0 I' → I' (MN 0) = I0 (MN 0) → Q (.inl (some (pI (nI 0)))) K I' R) : ∀ (n i : Nat) (I : IM), mO σ - i < n → i ≤ mO σ → (FX σ tw I R) → (FrX I0 I) → (I (MN 0) = I0 (MN 0)) → (∀ j, j < i → cg (nC σ) t j = nC σ) → (∀ j, j < i → I (MN 4) j = nI 0) → (∀ j, i ≤ j → j < mO σ → I (MN 4) j = nI (cg (nC σ) t j)) → Mw d b N_X2_goToNextWay 2 [some (pR (some MEN)), some (pI (nI i))] [] K I R Q := by
  intro n
  induction n with
  | zero => intro i I  hn; exact absurd hn (Nat.not_lt_zero _)
  | succ n ih =>
    intro i I  hn hi hX hF h0 hC9 hz h4
    have hcg : cg (nC σ) t i ≤ nC σ := cg_le
    refine mw_iload i_21_2 (x := nI i) rfl ?_
    refine mw_aload i_21_3 (L := MEN) rfl ?_
    refine mw_get i_21_4 hS.2.1.2.2.2.2 (v := nI (mO σ)) hX.2.2.2.1 ?_
    refine mw_ic i_21_5 (p := (mO σ) ≤ i) (nI_leI (by omega) (by omega)) (fun c1 => ?_) (fun c1 => ?_)
    · skip
      refine mw_const i_21_33 (v := nI 0) (by decide) ?_
      refine mw_iret i_21_34 (x := nI 0) (fun _ => (by decide)) ?_
      exact q0 (cg_end ht (fun j hj => hC9 j (by omega))) I hF h0
    · skip
      refine mw_iload i_21_6 (x := nI i) rfl ?_
      refine mw_const i_21_7 (v := nI 4) (by decide) ?_
      refine mw_ic i_21_8 (p := 4 ≤ i) (nI_leI (by omega) (by omega)) (fun c2 => ?_) (fun c2 => ?_)
      · skip
        refine mw_const i_21_33 (v := nI 0) (by decide) ?_
        refine mw_iret i_21_34 (x := nI 0) (fun _ => (by decide)) ?_
        exact q0 (cg_end ht (fun j hj => hC9 j (by omega))) I hF h0
      · skip
        refine mw_aload i_21_9 (L := MEN) rfl ?_
        refine mw_getR i_21_10 hS.2.1.2.2.2.2 (q := some (MN 4)) (hS.2.2.2.2 4 (by omega)).1 ?_
        refine mw_iload i_21_11 (x := nI i) rfl ?_
        refine mw_iald i_21_12 (jn := i) (n := 4) (by omega) (by omega) (show K (MN 4) = some (7, 4) from (hS.2.2.2.2 4 (by omega)).2) (by decide) (v := nI (cg (nC σ) t i)) (h4 i (by omega) (by omega)) ?_
        refine mw_aload i_21_13 (L := MEN) rfl ?_
        refine mw_get i_21_14 hS.2.1.2.2.2.2 (v := nI (nC σ)) hX.2.2.2.2.1 ?_
        refine mw_ic i_21_15 (p := (nC σ) ≤ (cg (nC σ) t i)) (nI_leI (by omega) (by omega)) (fun c3 => ?_) (fun c3 => ?_)
        · skip
          refine mw_aload i_21_26 (L := MEN) rfl ?_
          refine mw_getR i_21_27 hS.2.1.2.2.2.2 (q := some (MN 4)) (hS.2.2.2.2 4 (by omega)).1 ?_
          refine mw_iload i_21_28 (x := nI i) rfl ?_
          refine mw_const i_21_29 (v := nI 0) (by decide) ?_
          obtain ⟨I24, e24⟩ : ∃ I24, I24 = up2 I (MN 4) i (nI 0) := ⟨_, rfl⟩
          refine mw_iast i_21_30 (jn := i) (n := 4) (by omega) (by omega) (x := nI 0) (show K (MN 4) = some (7, 4) from (hS.2.2.2.2 4 (by omega)).2) (I' := I24) e24.symm ?_
          refine mw_iinc i_21_31 (x := nI i) (v := nI (i + 1)) (ls' := [some (pR (some MEN)), some (pI (nI (i + 1)))]) rfl (nI_add _ _) rfl ?_
          refine mw_goto i_21_32 ?_
          exact ih (i + 1) I24 (by omega) (by omega) (FX_X hX (e24.symm ▸ FrX_up FrX_rfl (by decide))) (e24.symm ▸ FrX_up hF (by decide)) (by rw [e24, up2_ne (by simp)]; exact h0) (fun j hj => by
            by_cases e9 : j = i
            · have := cg_le (C := nC σ) (t := t) (i := i); rw [e9]; omega
            · exact hC9 j (by omega)) (fun j hj => by
            rw [e24, up2_at]
            by_cases e9 : j = i
            · rw [e9, upd_at]
            · rw [upd_ne e9]; exact hz j (by omega)) (fun j h1 h2 => by
            rw [e24, up2_at, upd_ne (by omega)]; exact h4 j (by omega) h2)
        · skip
          refine mw_aload i_21_16 (L := MEN) rfl ?_
          refine mw_getR i_21_17 hS.2.1.2.2.2.2 (q := some (MN 4)) (hS.2.2.2.2 4 (by omega)).1 ?_
          refine mw_iload i_21_18 (x := nI i) rfl ?_
          refine mw_dup2 i_21_19 trivial trivial ?_
          refine mw_iald i_21_20 (jn := i) (n := 4) (by omega) (by omega) (show K (MN 4) = some (7, 4) from (hS.2.2.2.2 4 (by omega)).2) (by decide) (v := nI (cg (nC σ) t i)) (h4 i (by omega) (by omega)) ?_
          refine mw_const i_21_21 (v := nI 1) (by decide) ?_
          refine mw_iadd i_21_22 (w := nI (cg (nC σ) t i + 1)) (nI_add _ _) ?_
          obtain ⟨I25, e25⟩ : ∃ I25, I25 = up2 I (MN 4) i (nI (cg (nC σ) t i + 1)) := ⟨_, rfl⟩
          refine mw_iast i_21_23 (jn := i) (n := 4) (by omega) (by omega) (x := nI (cg (nC σ) t i + 1)) (show K (MN 4) = some (7, 4) from (hS.2.2.2.2 4 (by omega)).2) (I' := I25) e25.symm ?_
          refine mw_const i_21_24 (v := nI 1) (by decide) ?_
          refine mw_iret i_21_25 (x := nI 1) (fun _ => (by decide)) ?_
          obtain ⟨g1, g2, g3, g4⟩ := cg_inc hC9 (show cg (nC σ) t i < nC σ by omega)
          refine q1 (by have := g4 (mO σ) (by omega); omega) I25 (e25.symm ▸ FrX_up hF (by decide)) (by rw [e25, up2_ne (by simp)]; exact h0) (fun j hj => ?_)
          rw [e25, up2_at]
          by_cases e9 : j = i
          · rw [e9, upd_at, g2]
          · rw [upd_ne e9]
            rcases Nat.lt_or_ge j i with q9 | q9
            · rw [g1 j q9]; exact hz j q9
            · rw [g3 j (by omega)]; exact h4 j q9 hj
set_option maxRecDepth 20000 in
set_option maxHeartbeats 400000 in
theorem k_next {d b : Nat} {K : KM} {I : IM} {R : RM} {Q : QT} {tw t : Nat} {σ : ST} (hS : CS0 K R) (hX : FX σ tw I R) (hO : mO σ ≤ 4) (hp10 : nC σ ≤ 10) (ht : t < (nC σ + 1) ^ mO σ) (h4 : ∀ j, j < mO σ → I (MN 4) j = nI (cg (nC σ) t j)) (q1 : t + 1 < (nC σ + 1) ^ mO σ → ∀ I', FrX I I' → I' (MN 0) = I (MN 0) → (∀ j, j < mO σ → I' (MN 4) j = nI (cg (nC σ) (t + 1) j)) → Q (.inl (some (pI (nI 1)))) K I' R) (q0 : t + 1 = (nC σ + 1) ^ mO σ → ∀ I', FrX I I' → I' (MN 0) = I (MN 0) → Q (.inl (some (pI (nI 0)))) K I' R) : Mw d b N_X2_goToNextWay 0 [some (pR (some MEN)), none] [] K I R Q := by
  refine mw_const i_21_0 (v := nI 0) (by decide) ?_
  refine mw_istore i_21_1 (ls' := [some (pR (some MEN)), some (pI (nI 0))]) rfl (Nat.le_of_ble_eq_true rfl) ?_
  exact k_next_lp (I0 := I) hS hO hp10 ht q1 q0 (mO σ + 1) 0 I (by omega) (by omega) hX FrX_rfl rfl (fun j hj => absurd hj (Nat.not_lt_zero _)) (fun j hj => absurd hj (Nat.not_lt_zero _)) (fun j _ h2 => h4 j h2)
