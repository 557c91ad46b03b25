/-! the reference plays, finds, passes -/
theorem sw_k {n : Nat} {σ : ST} (hV : IV n σ) {k : Nat} (hk : k < 2 * mn σ (dn σ)) : σ 19 (36 * dn σ + 6 * (k / 2) + k % 2) = nI (sw σ k) ∧ sw σ k < pn σ := by
  have h := sw_at hV (j := k / 2) (r := k % 2) (by omega) (by omega)
  rw [show 2 * (k / 2) + k % 2 = k by omega] at h
  exact h
set_option maxRecDepth 20000 in
set_option maxHeartbeats 400000 in
theorem m_finds_lp {d : Nat} {b : Nat} {K : KM} {R : RM} {Q : QT} {n0 : Nat} {σ : ST} {I0 : IM} (hd : 1 ≤ d) (hM : MK K R) (hV : IV n0 σ) (q : ∀ I', FrM I0 I' → mv I' = σ → I' MO 28 = I0 MO 28 → I' MO 27 = nI (mO σ) → (∀ i, i < mO σ → i < 4 → I' (MA 24) i = nI (Os σ i)) → Q (.inl (some (pI (nI (mO σ))))) K I' R) : ∀ (n k : Nat) (I : IM), 2 * mn σ (dn σ) - k < n → k ≤ 2 * mn σ (dn σ) → (FrM I0 I) → (mv I = σ) → (I MO 28 = I0 MO 28) → (I MO 27 = nI (cnt (opn σ) k)) → (∀ i, i < cnt (opn σ) k → i < 4 → I (MA 24) i = nI (pos (opn σ) k i)) → Mw d b N_X6_finds 5 [some (pR (some MO)), some (pI (nI k))] [] K I R Q := by
  obtain ⟨d9, rfl⟩ : ∃ d9, d = d9 + 1 := ⟨d - 1, by omega⟩
  intro n
  induction n with
  | zero => intro k I  hn; exact absurd hn (Nat.not_lt_zero _)
  | succ n ih =>
    intro k I  hn hi hF hm h28 ho hop
    have hpp := hV.1.2
    have htt := hV.2.1.2
    have hdd := hV.2.2.1.2
    have h6 := (hV.2.2.2.2.2.1 (dn σ) (by omega)).2.1
    have hck : cnt (opn σ) k ≤ k := cnt_le _ _
    refine mw_iload i_100_5 (x := nI k) rfl ?_
    refine mw_const i_100_6 (v := nI 2) (by decide) ?_
    refine mw_aload i_100_7 (L := MO) rfl ?_
    refine mw_getR i_100_8 (MK_o hM) (q := some (MA 20)) (MK_r hM 20 (by decide)) ?_
    refine mw_aload i_100_9 (L := MO) rfl ?_
    refine mw_get i_100_10 (MK_o hM) (v := nI (dn σ)) ((rs hm (by decide)).trans hV.2.2.1.1) ?_
    refine mw_iald i_100_11 (jn := dn σ) (n := 1000) (by omega) (by omega) (show K (MA 20) = some (7, 1000) from MK_k hM 20 (by decide)) (by decide) (v := nI (mn σ (dn σ))) ((rm hm (by decide) (dn σ)).trans (hV.2.2.2.2.2.1 (dn σ) (by omega)).1) ?_
    refine mw_imul i_100_12 (w := nI (2 * (mn σ (dn σ)))) (pk_mul _ _) ?_
    refine mw_ic i_100_13 (p := (2 * (mn σ (dn σ))) ≤ k) (nI_leI (by omega) (by omega)) (fun c1 => ?_) (fun c1 => ?_)
    · skip
      refine mw_aload i_100_47 (L := MO) rfl ?_
      refine mw_get i_100_48 (MK_o hM) (v := nI (cnt (opn σ) k)) ho ?_
      refine mw_iretI i_100_49 (x := nI (cnt (opn σ) k)) rt_100 ?_
      obtain rfl : k = 2 * mn σ (dn σ) := by omega
      exact q I hF hm h28 ho hop
    · skip
      have hswk := sw_k hV (k := k) (by omega)
      have hswk2 := hswk.2
      refine mw_aload i_100_14 (L := MO) rfl ?_
      refine mw_aload i_100_15 (L := MO) rfl ?_
      refine mw_aload i_100_16 (L := MO) rfl ?_
      refine mw_get i_100_17 (MK_o hM) (v := nI (dn σ)) ((rs hm (by decide)).trans hV.2.2.1.1) ?_
      refine mw_iload i_100_18 (x := nI k) rfl ?_
      refine mw_const i_100_19 (v := nI 2) (by decide) ?_
      refine mw_idiv i_100_20 (by decide) (w := nI (k / 2)) (pk_div (by omega) (by omega) (by omega)) ?_
      refine mw_iload i_100_21 (x := nI k) rfl ?_
      refine mw_const i_100_22 (v := nI 2) (by decide) ?_
      refine mw_irem i_100_23 (by decide) (w := nI (k % 2)) (pk_rem (by omega) (by omega) (by omega)) ?_
      refine mw_callV i_100_24 mf_81 (as := [pI (nI (dn σ)), pI (nI (k / 2)), pI (nI (k % 2))]) (rest := [pR (some MO)]) (d' := d9) (b' := b) (ls0 := [some (pR (some MO)), some (pI (nI (dn σ))), some (pI (nI (k / 2))), some (pI (nI (k % 2)))]) rfl rfl rfl (Nat.le_of_ble_eq_true rfl) (MK_o hM) rfl rfl rfl ?_
      refine m_of hM (by omega) (by omega) (by omega) ?_
      rw [show I (MA 19) (36 * dn σ + 6 * (k / 2) + k % 2) = nI (sw σ k) from (rm hm (by decide) _).trans hswk.1]
      refine aft_v ?_
      refine mw_aload i_100_25 (L := MO) rfl ?_
      refine mw_get i_100_26 (MK_o hM) (v := nI (dn σ)) ((rs hm (by decide)).trans hV.2.2.1.1) ?_
      refine mw_callV i_100_27 mf_82 (as := [pI (nI (sw σ k)), pI (nI (dn σ))]) (rest := []) (d' := d9) (b' := b) (ls0 := [some (pR (some MO)), some (pI (nI (sw σ k))), some (pI (nI (dn σ)))]) rfl rfl rfl (Nat.le_of_ble_eq_true rfl) (MK_o hM) rfl rfl rfl ?_
      refine m_isHurt hM (by omega) ?_
      rw [show bI (nI (dn σ) < I (MA 6) (sw σ k)) = bI (opn σ k) from by rw [rm hm (by decide) (sw σ k)]; rfl]
      refine aft_v ?_
      refine mw_eqB i_100_28 rfl (fun c2 => ?_) (fun c2 => ?_)
      · skip
        refine mw_iinc i_100_45 (x := nI k) (v := nI (k + 1)) (ls' := [some (pR (some MO)), some (pI (nI (k + 1)))]) rfl (nI_add _ _) rfl ?_
        refine mw_goto i_100_46 ?_
        exact ih (k + 1) I (by omega) (by omega) hF hm h28 (by rw [ho, cnt_f c2]) (fun i h1 h2 => by
          rw [cnt_f c2] at h1
          rw [pos_f (fun q => c2 q.1)]; exact hop i h1 h2)
      · skip
        refine mw_aload i_100_29 (L := MO) rfl ?_
        refine mw_get i_100_30 (MK_o hM) (v := nI (cnt (opn σ) k)) ho ?_
        refine mw_const i_100_31 (v := nI 4) (by decide) ?_
        refine mw_ic i_100_32 (p := 4 ≤ (cnt (opn σ) k)) (nI_leI (by omega) (by omega)) (fun c3 => ?_) (fun c3 => ?_)
        · skip
          refine mw_aload i_100_39 (L := MO) rfl ?_
          refine mw_dup i_100_40 trivial ?_
          refine mw_get i_100_41 (MK_o hM) (v := nI (cnt (opn σ) k)) ho ?_
          refine mw_const i_100_42 (v := nI 1) (by decide) ?_
          refine mw_iadd i_100_43 (w := nI (cnt (opn σ) k + 1)) (nI_add _ _) ?_
          obtain ⟨I24, e24⟩ : ∃ I24, I24 = up2 I MO 27 (nI (cnt (opn σ) k + 1)) := ⟨_, rfl⟩
          refine mw_put i_100_44 (x := nI (cnt (opn σ) k + 1)) (MK_o hM) (I' := I24) e24.symm ?_
          refine mw_iinc i_100_45 (x := nI k) (v := nI (k + 1)) (ls' := [some (pR (some MO)), some (pI (nI (k + 1)))]) rfl (nI_add _ _) rfl ?_
          refine mw_goto i_100_46 ?_
          have hp : opn σ k := c2
          exact ih (k + 1) I24 (by omega) (by omega) (FrM_tr hF ((e24.symm ▸ FrM_up (FrM_rfl) (by decide)))) (by rw [e24, mv_o (by decide), hm]) (by rw [e24, up2_at, upd_ne (by decide)]; exact h28) (by rw [e24, up2_at, upd_at, cnt_t hp]) (fun i h1 h2 => by
            rw [cnt_t hp] at h1
            rw [e24, up2_ne (by simp)]
            by_cases e9 : i = cnt (opn σ) k
            · omega
            · rw [pos_f (fun q => e9 q.2)]; exact hop i (by omega) h2)
        · skip
          refine mw_aload i_100_33 (L := MO) rfl ?_
          refine mw_getR i_100_34 (MK_o hM) (q := some (MA 24)) (MK_r hM 24 (by decide)) ?_
          refine mw_aload i_100_35 (L := MO) rfl ?_
          refine mw_get i_100_36 (MK_o hM) (v := nI (cnt (opn σ) k)) ho ?_
          refine mw_iload i_100_37 (x := nI k) rfl ?_
          obtain ⟨I25, e25⟩ : ∃ I25, I25 = up2 I (MA 24) (cnt (opn σ) k) (nI k) := ⟨_, rfl⟩
          refine mw_iast i_100_38 (jn := cnt (opn σ) k) (n := 4) (by omega) (by omega) (x := nI k) (show K (MA 24) = some (7, 4) from MK_k hM 24 (by decide)) (I' := I25) e25.symm ?_
          refine mw_aload i_100_39 (L := MO) rfl ?_
          refine mw_dup i_100_40 trivial ?_
          refine mw_get i_100_41 (MK_o hM) (v := nI (cnt (opn σ) k)) (by rw [e25, up2_ne (by simp)]; exact ho) ?_
          refine mw_const i_100_42 (v := nI 1) (by decide) ?_
          refine mw_iadd i_100_43 (w := nI (cnt (opn σ) k + 1)) (nI_add _ _) ?_
          obtain ⟨I26, e26⟩ : ∃ I26, I26 = up2 I25 MO 27 (nI (cnt (opn σ) k + 1)) := ⟨_, rfl⟩
          refine mw_put i_100_44 (x := nI (cnt (opn σ) k + 1)) (MK_o hM) (I' := I26) e26.symm ?_
          refine mw_iinc i_100_45 (x := nI k) (v := nI (k + 1)) (ls' := [some (pR (some MO)), some (pI (nI (k + 1)))]) rfl (nI_add _ _) rfl ?_
          refine mw_goto i_100_46 ?_
          have hp : opn σ k := c2
          exact ih (k + 1) I26 (by omega) (by omega) (FrM_tr hF ((e26.symm ▸ FrM_up ((e25.symm ▸ FrM_up (FrM_rfl) (by decide))) (by decide)))) (by rw [e26, mv_o (by decide), e25, mv_x (by decide), hm]) (by rw [e26, up2_at, upd_ne (by decide), e25, up2_ne (by simp)]; exact h28) (by rw [e26, up2_at, upd_at, cnt_t hp]) (fun i h1 h2 => by
            rw [cnt_t hp] at h1
            rw [e26, up2_ne (by simp), e25, up2_at]
            by_cases e9 : i = cnt (opn σ) k
            · rw [e9, upd_at, pos_t hp]
            · rw [upd_ne e9, pos_f (fun q => e9 q.2)]; exact hop i (by omega) h2)
set_option maxRecDepth 20000 in
set_option maxHeartbeats 400000 in
theorem m_finds {d b : Nat} {K : KM} {I : IM} {R : RM} {Q : QT} {n0 : Nat} {σ : ST} (hd : 1 ≤ d) (hM : MK K R) (hm : mv I = σ) (hV : IV n0 σ)  (q : ∀ I', FrM I I' → mv I' = σ → I' MO 28 = I MO 28 → I' MO 27 = nI (mO σ) → (∀ i, i < mO σ → i < 4 → I' (MA 24) i = nI (Os σ i)) → Q (.inl (some (pI (nI (mO σ))))) K I' R) : Mw d b N_X6_finds 0 [some (pR (some MO)), none] [] K I R Q := by
  obtain ⟨d9, rfl⟩ : ∃ d9, d = d9 + 1 := ⟨d - 1, by omega⟩
  refine mw_aload i_100_0 (L := MO) rfl ?_
  refine mw_const i_100_1 (v := nI 0) (by decide) ?_
  obtain ⟨I21, e21⟩ : ∃ I21, I21 = up2 I MO 27 (nI 0) := ⟨_, rfl⟩
  refine mw_put i_100_2 (x := nI 0) (MK_o hM) (I' := I21) e21.symm ?_
  refine mw_const i_100_3 (v := nI 0) (by decide) ?_
  refine mw_istore i_100_4 (ls' := [some (pR (some MO)), some (pI (nI 0))]) rfl (Nat.le_of_ble_eq_true rfl) ?_
  exact m_finds_lp (I0 := I) (by omega) hM hV q (2 * mn σ (dn σ) + 1) 0 I21 (by omega) (by omega) ((e21.symm ▸ FrM_up (FrM_rfl) (by decide))) (by rw [e21, mv_o (by decide), hm]) (by rw [e21, up2_at, upd_ne (by decide)]) (by rw [e21, up2_at, upd_at]; rfl) (fun i h1 _ => absurd h1 (Nat.not_lt_zero _))
theorem hO_iff {n : Nat} {σ : ST} (hV : IV n σ) : hO σ (dn σ) ↔ ¬ mO σ = 0 := by
  have hd := hV.2.2.1.2
  have e : ∀ j r, j < mn σ (dn σ) → r < 2 → ((nI (dn σ) < σ 6 (σ 19 (36 * dn σ + 6 * j + r)).toNatClampNeg) ↔ opn σ (2 * j + r)) := fun j r hj hr => by
    have h := (sw_at hV hj hr).1
    have h2 := (sw_at hV hj hr).2
    have hp := hV.1.2
    rw [h, nI_clamp (by omega)]
    rfl
  constructor
  · rintro ⟨j, hj, h⟩ h0
    rcases h with h | h
    · have := (e j 0 hj (by omega)).mp h
      have := cnt_lt (show 2 * j + 0 < 2 * mn σ (dn σ) by omega) this
      unfold mO at h0
      omega
    · have := (e j 1 hj (by omega)).mp h
      have := cnt_lt (show 2 * j + 1 < 2 * mn σ (dn σ) by omega) this
      unfold mO at h0
      omega
  · intro h
    have h1 := Os_lt (σ := σ) (p := 0) (by omega)
    refine ⟨Os σ 0 / 2, by omega, ?_⟩
    have h2 := (e (Os σ 0 / 2) (Os σ 0 % 2) (by omega) (by omega)).mpr (by rw [show 2 * (Os σ 0 / 2) + Os σ 0 % 2 = Os σ 0 by omega]; exact h1.2.1)
    rcases Nat.mod_two_eq_zero_or_one (Os σ 0) with q | q
    · rw [q] at h2; exact Or.inl h2
    · rw [q] at h2; exact Or.inr h2
/-- matches played, but for the gate -/
noncomputable def plR (σ : ST) (x t : Nat) : Nat → ST
  | 0 => σ
  | i + 1 => pmS (plR σ x t i) t (rF σ x i) (rS σ x i) (rW σ x i) (rL σ x i) (σ 19 (36 * x + 6 * i + 3)) (σ 19 (36 * x + 6 * i + 4)) (σ 19 (36 * x + 6 * i + 5))
noncomputable def tkR (σ : ST) (x t : Nat) : Nat → Int32 := smI (fun i => wrt (plR σ x t i) t (rF σ x i) + wrt (plR σ x t i) t (rS σ x i))
/-- two states that differ in the gates alone -/
def EG (σ τ : ST) : Prop := ∀ k, k ≠ 23 → σ k = τ k
theorem EG_ups {σ τ : ST} (h : EG σ τ) {k j : Nat} {v v' : Int32} (hv : v = v') (hk : k ≠ 23) : EG (ups σ k j v) (ups τ k j v') := fun q hq => by
  by_cases e : q = k
  · rw [e, ups_at, ups_at, hv, h k hk]
  · rw [ups_ne e, ups_ne e]; exact h q hq
theorem EG_lov {σ τ : ST} (h : EG σ τ) {t w : Nat} {x : Int32} : EG (lov σ t w x) (lov τ t w x) := EG_ups h (by rw [h 4 (by decide)]) (by decide)
theorem EG_win {σ τ : ST} (h : EG σ τ) {t wi lo : Nat} : EG (win σ t wi lo) (win τ t wi lo) := by
  have h0 : EG (win0 σ wi lo) (win0 τ wi lo) := EG_ups (EG_ups h (by rw [h 13 (by decide)]) (by decide)) (by rw [h 8 (by decide)]) (by decide)
  unfold win
  rw [h 3 (by decide)]
  split
  · exact EG_lov (EG_lov h0)
  · exact EG_lov (EG_lov h0)
theorem EG_adS {σ τ : ST} (h : EG σ τ) {k w : Nat} {v : Int32} (hk : k ≠ 23) : EG (adS σ k w v) (adS τ k w v) := EG_ups h (by rw [h k hk]) hk
theorem EG_trS {σ τ : ST} (h : EG σ τ) {w : Nat} : EG (trS σ w) (trS τ w) := EG_ups h (by rw [h 3 (by decide), h 4 (by decide)]) (by decide)
theorem EG_crn {σ τ : ST} (h : EG σ τ) {t l : Nat} {x y : Int32} : EG (crn σ t l x y) (crn τ t l x y) := EG_ups (EG_ups (EG_ups h rfl (by decide)) rfl (by decide)) rfl (by decide)
theorem EG_hndI {σ τ : ST} (h : EG σ τ) {ti x0 x1 wn : Int32} : EG (hndI σ ti x0 x1 wn) (hndI τ ti x0 x1 wn) := by
  have ec : ∀ t, chO σ t = chO τ t := fun t => by unfold chO; rw [h 17 (by decide), h 15 (by decide)]
  have el : ∀ t, lnO σ t = lnO τ t := fun t => by unfold lnO; rw [h 17 (by decide)]
  unfold hndI hnd
  by_cases e : ti = (-1)
  · rw [if_pos e, if_pos e]; exact h
  · rw [if_neg e, if_neg e, ec, el, h 0 (by decide)]
    split
    · exact EG_crn h
    · exact h
theorem EG_pmS {σ τ : ST} (h : EG σ τ) {t f s wi lo : Nat} {m ti re : Int32} : EG (pmS σ t f s wi lo m ti re) (pmS τ t f s wi lo m ti re) := by
  unfold pmS
  by_cases e : re = nI 0
  · simp only [if_pos e]
    exact EG_trS (EG_trS (EG_hndI (EG_adS (EG_adS (EG_win h) (by decide)) (by decide))))
  · simp only [if_neg e]
    exact EG_trS (EG_trS (EG_adS (EG_adS (EG_adS (EG_adS h (by decide)) (by decide)) (by decide)) (by decide)))
theorem plR_o {σ : ST} {x t k : Nat} (h : k ≠ 3 ∧ k ≠ 4 ∧ k ≠ 5 ∧ k ≠ 8 ∧ k ≠ 9 ∧ k ≠ 13 ∧ k ≠ 15 ∧ k ≠ 16 ∧ k ≠ 17) : ∀ i, plR σ x t i k = σ k
  | 0 => rfl
  | i + 1 => by
    unfold plR
    rw [pm_o (by omega)]
    exact plR_o h i
theorem tkR_s {σ : ST} {x t i : Nat} : tkR σ x t (i + 1) = tkR σ x t i + (wrt (plR σ x t i) t (rF σ x i) + wrt (plR σ x t i) t (rS σ x i)) := rfl
theorem tkK_s {σ : ST} {x t i : Nat} : tkK σ x t (i + 1) = tkK σ x t i + (wrt (plK σ x t i) t (rF σ x i) + wrt (plK σ x t i) t (rS σ x i)) := rfl
theorem plK_s {σ : ST} {x t i : Nat} : plK σ x t (i + 1) = pmS (adS (plK σ x t i) 23 t (wrt (plK σ x t i) t (rF σ x i) + wrt (plK σ x t i) t (rS σ x i))) t (rF σ x i) (rS σ x i) (rW σ x i) (rL σ x i) (σ 19 (36 * x + 6 * i + 3)) (σ 19 (36 * x + 6 * i + 4)) (σ 19 (36 * x + 6 * i + 5)) := rfl
theorem plR_s {σ : ST} {x t i : Nat} : plR σ x t (i + 1) = pmS (plR σ x t i) t (rF σ x i) (rS σ x i) (rW σ x i) (rL σ x i) (σ 19 (36 * x + 6 * i + 3)) (σ 19 (36 * x + 6 * i + 4)) (σ 19 (36 * x + 6 * i + 5)) := rfl
theorem upd_id {f : Nat → Int32} {t : Nat} : upd f t (f t) = f := by
  funext j
  by_cases e : j = t
  · rw [e, upd_at]
  · rw [upd_ne e]
theorem upd_upd {f : Nat → Int32} {t : Nat} {a b : Int32} : upd (upd f t a) t b = upd f t b := by
  funext j
  by_cases e : j = t
  · rw [e, upd_at, upd_at]
  · rw [upd_ne e, upd_ne e, upd_ne e]
theorem tkR_0 {σ : ST} {x t : Nat} : tkR σ x t 0 = nI 0 := rfl
theorem tkK_0 {σ : ST} {x t : Nat} : tkK σ x t 0 = nI 0 := rfl
theorem plK_0 {σ : ST} {x t : Nat} : plK σ x t 0 = σ := rfl
theorem plR_0 {σ : ST} {x t : Nat} : plR σ x t 0 = σ := rfl
theorem pl_E0 {σ : ST} {x t : Nat} : EG (plK σ x t 0) (plR σ x t 0) ∧ tkK σ x t 0 = tkR σ x t 0 ∧ plK σ x t 0 23 = upd (σ 23) t (σ 23 t + tkR σ x t 0) := by
  rw [plK_0, plR_0, tkK_0, tkR_0, add0, upd_id]
  exact ⟨fun _ _ => rfl, rfl, rfl⟩
theorem EG_g {κ ρ : ST} {t : Nat} {v : Int32} (h1 : EG κ ρ) : EG (adS κ 23 t v) ρ := fun k hk => by
  unfold adS
  rw [ups_ne hk]
  exact h1 k hk
theorem EG_w {κ ρ : ST} {t w : Nat} (h1 : EG κ ρ) : wrt κ t w = wrt ρ t w := by
  unfold wrt
  rw [h1 1 (by decide), h1 4 (by decide), h1 5 (by decide)]
theorem pl_E1 {σ : ST} {x t i : Nat} (h1 : EG (plK σ x t i) (plR σ x t i)) : EG (plK σ x t (i + 1)) (plR σ x t (i + 1)) := by
  rw [plK_s, plR_s]
  exact EG_pmS (EG_g h1)
theorem pm_23 {κ : ST} {t f s wi lo : Nat} {m ti re v : Int32} : pmS (adS κ 23 t v) t f s wi lo m ti re 23 = upd (κ 23) t (κ 23 t + v) := by
  rw [pm_o (by decide)]
  unfold adS
  rw [ups_at]
theorem pl_E3 {σ : ST} {x t i : Nat} (h1 : EG (plK σ x t i) (plR σ x t i)) (h3 : plK σ x t i 23 = upd (σ 23) t (σ 23 t + tkR σ x t i)) : plK σ x t (i + 1) 23 = upd (σ 23) t (σ 23 t + tkR σ x t (i + 1)) := by
  rw [plK_s, pm_23, tkR_s, h3, upd_at, EG_w h1, EG_w h1, upd_upd, Int32.add_assoc]
theorem pl_EG {σ : ST} {x t : Nat} : ∀ i, EG (plK σ x t i) (plR σ x t i) ∧ tkK σ x t i = tkR σ x t i ∧ plK σ x t i 23 = upd (σ 23) t (σ 23 t + tkR σ x t i)
  | 0 => pl_E0
  | i + 1 => ⟨pl_E1 (pl_EG i).1, by rw [tkR_s, tkK_s, (pl_EG i).2.1, EG_w (pl_EG i).1, EG_w (pl_EG i).1], pl_E3 (pl_EG i).1 (pl_EG i).2.2⟩
theorem pl_all {σ : ST} {x t i : Nat} : plK σ x t i = ups (plR σ x t i) 23 t (plR σ x t i 23 t + tkR σ x t i) := by
  obtain ⟨h1, -, h3⟩ := pl_EG (σ := σ) (x := x) (t := t) i
  funext k
  by_cases e : k = 23
  · subst e
    rw [ups_at, h3, plR_o (by omega)]
  · rw [ups_ne e]; exact h1 k e
theorem LN_R {n : Nat} {σ : ST} (hV : IV n σ) (hn : n < 512) {x t i : Nat} (hx : x < 1000) (hi : i ≤ mn σ x) : LN (plR σ x t i) := fun q hq => by
  have := pl_ln (tw := t) hn hV hx hi q hq
  have e := (pl_EG (σ := σ) (x := x) (t := t) i).1 17 (by decide)
  unfold lnO at *
  rw [← e]
  exact ⟨this.1, by omega⟩
theorem role_R {n : Nat} {σ : ST} (hV : IV n σ) {x t i : Nat} (hx : x < 1000) (hi : i ≤ mn σ x) : ∀ w, w < 10 → plR σ x t i 3 w = nI 0 ∨ plR σ x t i 3 w = nI 1 := fun w hw => by
  have := (PI_all (tw := t) hV hx i hi).1 w hw
  rw [(pl_EG (σ := σ) (x := x) (t := t) i).1 3 (by decide)] at this
  exact this
/-- the reference's match, by its number -/
theorem m_pm {d b : Nat} {K : KM} {I : IM} {R : RM} {Q : QT} {n0 : Nat} {σ : ST} {i tw : Nat} (hd : 3 ≤ d) (hM : MK K R) (hV : IV n0 σ) (hn : n0 < 512) (ht : σ 21 (dn σ) = nI tw) (htw : tw < 4) (hi : i < mn σ (dn σ)) (hm : mv I = plR σ (dn σ) tw i) (q : ∀ I', FrA I I' → mv I' = plR σ (dn σ) tw (i + 1) → ∀ v, v = wrt (plR σ (dn σ) tw i) tw (rF σ (dn σ) i) + wrt (plR σ (dn σ) tw i) tw (rS σ (dn σ) i) → Q (.inl (some (pI v))) K I' R) : Mw d b N_X6_playsMatch 0 [some (pR (some MO)), some (pI (nI i)), none, none, none, none, none, none, none, none, none] [] K I R Q := by
  have hdd := hV.2.2.1.2
  have hx : dn σ < 1000 := by omega
  have hc := hV.2.2.2.2.2.1 (dn σ) hx
  have o : ∀ k, (k = 0 ∨ k = 19 ∨ k = 21) → plR σ (dn σ) tw i k = σ k := fun k hk => plR_o (by omega) i
  obtain ⟨lf, ls, lw, ll, ew, el⟩ := row_wl hV hx hi
  have hp := hV.1.2
  obtain ⟨⟨f, hf, ef⟩, ⟨s, hs, es⟩, hne, h2, ⟨k3, hk3, ek3⟩, h4, h5⟩ := hc.2.2.2.2.1 i hi
  have rf : rF σ (dn σ) i = f := by unfold rF; rw [ef]; exact nI_clamp (by omega)
  have rs : rS σ (dn σ) i = s := by unfold rS; rw [es]; exact nI_clamp (by omega)
  have hfs : ¬ f = s := fun e => hne (by rw [ef, es, e])
  have key : ∃ w2, w2 < 2 ∧ σ 19 (36 * dn σ + 6 * i + 2) = nI w2 ∧ σ 19 (36 * dn σ + 6 * i + w2) = nI (rW σ (dn σ) i) ∧ rL σ (dn σ) i = if rW σ (dn σ) i = f then s else f := by
    rcases h2 with h2 | h2
    · have e1 : rW σ (dn σ) i = f := by unfold rW wnr; rw [if_pos h2, ef]; exact nI_clamp (by omega)
      have e2 : rL σ (dn σ) i = s := by unfold rL lsr; rw [if_pos h2, es]; exact nI_clamp (by omega)
      exact ⟨0, by omega, h2, by rw [e1]; exact ef, by rw [e1, e2, if_pos rfl]⟩
    · have hne2 : ¬ σ 19 (36 * dn σ + 6 * i + 2) = nI 0 := by rw [h2]; decide
      have e1 : rW σ (dn σ) i = s := by unfold rW wnr; rw [if_neg hne2, es]; exact nI_clamp (by omega)
      have e2 : rL σ (dn σ) i = f := by unfold rL lsr; rw [if_neg hne2, ef]; exact nI_clamp (by omega)
      exact ⟨1, by omega, h2, by rw [e1]; exact es, by rw [e1, e2, if_neg (fun e => hfs e.symm)]⟩
  obtain ⟨w2, hw2, e2, e2w, elo⟩ := key
  have q2 : ∀ I', FrA I I' → mv I' = pmS (plR σ (dn σ) tw i) tw f s (rW σ (dn σ) i) (rL σ (dn σ) i) (σ 19 (36 * dn σ + 6 * i + 3)) (σ 19 (36 * dn σ + 6 * i + 4)) (σ 19 (36 * dn σ + 6 * i + 5)) → ∀ v, v = wrt (plR σ (dn σ) tw i) tw f + wrt (plR σ (dn σ) tw i) tw s → Q (.inl (some (pI v))) K I' R := by
    rw [← rf, ← rs]
    exact q
  have hr := role_R (t := tw) hV hx (show i ≤ mn σ (dn σ) by omega)
  have hL := LN_R (t := tw) hV hn hx (show i ≤ mn σ (dn σ) by omega)
  have h6 := hc.2.1
  have o19 := o 19 (by omega)
  rcases h4 with h4 | ⟨u, hu, h4⟩
  · rw [h4] at q2
    rcases h5 with h5 | h5
    · rw [h5] at q2
      exact m_pmN_m hd hM hm hx (by omega) (by rw [o 0 (by omega)]; exact hV.2.2.1.1) (by rw [o 21 (by omega)]; exact ht) htw (by rw [o19]; exact ef) (by rw [o19]; exact es) (by rw [o19]; exact e2) hw2 (by rw [o19]; exact e2w) (by rw [o19]) (by omega) (by omega) lw elo hr hL (by rw [o19]; exact h4) (by rw [o19]; exact h5) q2
    · rw [h5] at q2
      exact m_pmR_m hd hM hm hx (by omega) (by rw [o 0 (by omega)]; exact hV.2.2.1.1) (by rw [o 21 (by omega)]; exact ht) htw (by rw [o19]; exact ef) (by rw [o19]; exact es) (by rw [o19]; exact e2) hw2 (by rw [o19]; exact e2w) (by rw [o19]) (by omega) (by omega) lw elo hr hL (by rw [o19]; exact h4) (by rw [o19]; exact h5) q2
  · rw [h4] at q2
    have ht4 := hV.2.1.2
    rcases h5 with h5 | h5
    · rw [h5] at q2
      exact m_pmN_u hd hM hm hx (by omega) (by rw [o 0 (by omega)]; exact hV.2.2.1.1) (by rw [o 21 (by omega)]; exact ht) htw (by rw [o19]; exact ef) (by rw [o19]; exact es) (by rw [o19]; exact e2) hw2 (by rw [o19]; exact e2w) (by rw [o19]) (by omega) (by omega) lw elo hr hL (by omega) (by rw [o19]; exact h4) (by rw [o19]; exact h5) q2
    · rw [h5] at q2
      exact m_pmR_u hd hM hm hx (by omega) (by rw [o 0 (by omega)]; exact hV.2.2.1.1) (by rw [o 21 (by omega)]; exact ht) htw (by rw [o19]; exact ef) (by rw [o19]; exact es) (by rw [o19]; exact e2) hw2 (by rw [o19]; exact e2w) (by rw [o19]) (by omega) (by omega) lw elo hr hL (by omega) (by rw [o19]; exact h4) (by rw [o19]; exact h5) q2
set_option maxRecDepth 20000 in
set_option maxHeartbeats 400000 in
theorem m_play_lp {d : Nat} {b : Nat} {K : KM} {R : RM} {Q : QT} {n0 tw : Nat} {σ : ST} {I0 : IM} {P : Prop} (hd : 4 ≤ d) (hM : MK K R) (hV : IV n0 σ) (hn9 : n0 < 512) (htw0 : σ 21 (dn σ) = nI tw) (htw4 : tw < 4) (q : ∀ I', FrA I0 I' → mv I' = plR σ (dn σ) tw (mn σ (dn σ)) → Mw d b N_X6_play 46 [some (pR (some MO)), some (pI (bI P)), some (pI (tkR σ (dn σ) tw (mn σ (dn σ)))), some (pI (nI (mn σ (dn σ))))] [] K I' R Q) : ∀ (n i : Nat) (I : IM), mn σ (dn σ) - i < n → i ≤ mn σ (dn σ) → (FrA I0 I) → (mv I = plR σ (dn σ) tw i) → Mw d b N_X6_play 31 [some (pR (some MO)), some (pI (bI P)), some (pI (tkR σ (dn σ) tw i)), some (pI (nI i))] [] K I R Q := by
  obtain ⟨d9, rfl⟩ : ∃ d9, d = d9 + 1 := ⟨d - 1, by omega⟩
  intro n
  induction n with
  | zero => intro i I  hn; exact absurd hn (Nat.not_lt_zero _)
  | succ n ih =>
    intro i I  hn hi hF hmk
    have hpp := hV.1.2
    have htt := hV.2.1.2
    have hdd := hV.2.2.1.2
    have h6 := (hV.2.2.2.2.2.1 (dn σ) (by omega)).2.1
    refine mw_iload i_113_31 (x := nI i) rfl ?_
    refine mw_aload i_113_32 (L := MO) rfl ?_
    refine mw_getR i_113_33 (MK_o hM) (q := some (MA 20)) (MK_r hM 20 (by decide)) ?_
    refine mw_aload i_113_34 (L := MO) rfl ?_
    refine mw_get i_113_35 (MK_o hM) (v := nI (dn σ)) ((rs hmk (by decide)).trans (by rw [plR_o (by omega)]; exact hV.2.2.1.1)) ?_
    refine mw_iald i_113_36 (jn := dn σ) (n := 1000) (by omega) (by omega) (show K (MA 20) = some (7, 1000) from MK_k hM 20 (by decide)) (by decide) (v := nI (mn σ (dn σ))) ((rm hmk (by decide) _).trans (by rw [plR_o (by omega)]; exact (hV.2.2.2.2.2.1 (dn σ) (by omega)).1)) ?_
    refine mw_ic i_113_37 (p := (mn σ (dn σ)) ≤ i) (nI_leI (by omega) (by omega)) (fun c1 => ?_) (fun c1 => ?_)
    · skip
      obtain rfl : i = mn σ (dn σ) := by omega
      exact q I hF hmk
    · skip
      refine mw_iload i_113_38 (x := tkR σ (dn σ) tw i) rfl ?_
      refine mw_aload i_113_39 (L := MO) rfl ?_
      refine mw_iload i_113_40 (x := nI i) rfl ?_
      refine mw_callV i_113_41 mf_112 (as := [pI (nI i)]) (rest := [pI (tkR σ (dn σ) tw i)]) (d' := d9) (b' := b) (ls0 := [some (pR (some MO)), some (pI (nI i)), none, none, none, none, none, none, none, none, none]) rfl rfl rfl (Nat.le_of_ble_eq_true rfl) (MK_o hM) rfl rfl rfl ?_
      refine m_pm (by omega) hM hV hn9 htw0 htw4 (by omega) hmk (fun I1 hF1 hm1 v1 hv1 => ?_)
      refine aft_v ?_
      refine mw_iadd i_113_42 (w := tkR σ (dn σ) tw (i + 1)) (by rw [hv1]; rfl) ?_
      refine mw_istore i_113_43 (ls' := [some (pR (some MO)), some (pI (bI P)), some (pI (tkR σ (dn σ) tw (i + 1))), some (pI (nI i))]) rfl (Nat.le_of_ble_eq_true rfl) ?_
      refine mw_iinc i_113_44 (x := nI i) (v := nI (i + 1)) (ls' := [some (pR (some MO)), some (pI (bI P)), some (pI (tkR σ (dn σ) tw (i + 1))), some (pI (nI (i + 1)))]) rfl (nI_add _ _) rfl ?_
      refine mw_goto i_113_45 ?_
      exact ih (i + 1) I1 (by omega) (by omega) (FrA_tr hF hF1) hm1
set_option maxRecDepth 20000 in
set_option maxHeartbeats 400000 in
theorem m_play46 {d b : Nat} {K : KM} {I : IM} {R : RM} {Q : QT} {n0 tw : Nat} {σ : ST} {P : Prop} (hM : MK K R) (hV : IV n0 σ) (htw0 : σ 21 (dn σ) = nI tw) (htw4 : tw < 4) (hmk : mv I = plR σ (dn σ) tw (mn σ (dn σ))) (q : ∀ I', FrA I I' → mv I' = plS σ → tkR σ (dn σ) tw (mn σ (dn σ)) = tkS σ → Q (.inl (some (pI (tkR σ (dn σ) tw (mn σ (dn σ)))))) K I' R) : Mw d b N_X6_play 46 [some (pR (some MO)), some (pI (bI P)), some (pI (tkR σ (dn σ) tw (mn σ (dn σ)))), some (pI (nI (mn σ (dn σ))))] [] K I R Q := by
  have hpp := hV.1.2
  have htt := hV.2.1.2
  have hdd := hV.2.2.1.2
  refine mw_aload i_113_46 (L := MO) rfl ?_
  refine mw_getR i_113_47 (MK_o hM) (q := some (MA 23)) (MK_r hM 23 (by decide)) ?_
  refine mw_aload i_113_48 (L := MO) rfl ?_
  refine mw_getR i_113_49 (MK_o hM) (q := some (MA 21)) (MK_r hM 21 (by decide)) ?_
  refine mw_aload i_113_50 (L := MO) rfl ?_
  refine mw_get i_113_51 (MK_o hM) (v := nI (dn σ)) ((rs hmk (by decide)).trans (by rw [plR_o (by omega)]; exact hV.2.2.1.1)) ?_
  refine mw_iald i_113_52 (jn := dn σ) (n := 1000) (by omega) (by omega) (show K (MA 21) = some (7, 1000) from MK_k hM 21 (by decide)) (by decide) (v := nI tw) ((rm hmk (by decide) _).trans (by rw [plR_o (by omega)]; exact htw0)) ?_
  refine mw_dup2 i_113_53 trivial trivial ?_
  refine mw_iald i_113_54 (jn := tw) (n := 4) (by omega) (by omega) (show K (MA 23) = some (7, 4) from MK_k hM 23 (by decide)) (by decide) (v := plR σ (dn σ) tw (mn σ (dn σ)) 23 tw) (rm hmk (by decide) _) ?_
  refine mw_iload i_113_55 (x := tkR σ (dn σ) tw (mn σ (dn σ))) rfl ?_
  refine mw_iadd i_113_56 (w := ((plR σ (dn σ) tw (mn σ (dn σ)) 23 tw) + (tkR σ (dn σ) tw (mn σ (dn σ))))) rfl ?_
  obtain ⟨I21, e21⟩ : ∃ I21, I21 = up2 I (MA 23) tw ((plR σ (dn σ) tw (mn σ (dn σ)) 23 tw) + (tkR σ (dn σ) tw (mn σ (dn σ)))) := ⟨_, rfl⟩
  refine mw_iast i_113_57 (jn := tw) (n := 4) (by omega) (by omega) (x := ((plR σ (dn σ) tw (mn σ (dn σ)) 23 tw) + (tkR σ (dn σ) tw (mn σ (dn σ))))) (show K (MA 23) = some (7, 4) from MK_k hM 23 (by decide)) (I' := I21) e21.symm ?_
  refine mw_aload i_113_58 (L := MO) rfl ?_
  refine mw_getR i_113_59 (MK_o hM) (q := some (MA 22)) (MK_r hM 22 (by decide)) ?_
  refine mw_aload i_113_60 (L := MO) rfl ?_
  refine mw_get i_113_61 (MK_o hM) (v := nI (dn σ)) (by rw [e21, up2_ne (by simp)]; exact ((rs hmk (by decide)).trans (by rw [plR_o (by omega)]; exact hV.2.2.1.1))) ?_
  refine mw_const i_113_62 (v := nI 1) (by decide) ?_
  obtain ⟨I22, e22⟩ : ∃ I22, I22 = up2 I21 (MA 22) (dn σ) (nI 1) := ⟨_, rfl⟩
  refine mw_bast i_113_63 (jn := dn σ) (n := 1000) (by omega) (by omega) (x := nI 1) (show K (MA 22) = some (8, 1000) from MK_k hM 22 (by decide)) (by decide) (I' := I22) e22.symm ?_
  refine mw_iload i_113_64 (x := tkR σ (dn σ) tw (mn σ (dn σ))) rfl ?_
  refine mw_iretI i_113_65 (x := tkR σ (dn σ) tw (mn σ (dn σ))) rt_113 ?_
  refine q _ ((e22.symm ▸ FrA_up ((e21.symm ▸ FrA_up (FrA_rfl) rfl)) rfl)) ?_ ?_
  · rw [e22, mv_a (by decide) (by decide) (by decide) (by decide), e21, mv_a (by decide) (by decide) (by decide) (by decide), hmk]
    unfold plS
    rw [show twn σ (dn σ) = tw from by unfold twn; rw [htw0]; exact nI_clamp (by omega), pl_all]
  · unfold tkS
    rw [show twn σ (dn σ) = tw from by unfold twn; rw [htw0]; exact nI_clamp (by omega)]
    exact (pl_EG _).2.1.symm
set_option maxRecDepth 20000 in
set_option maxHeartbeats 400000 in
theorem m_play18 {d b : Nat} {K : KM} {I : IM} {R : RM} {Q : QT} {n0 : Nat} {σ : ST} (hd : 5 ≤ d) (hM : MK K R) (hm : mv I = σ) (hV : IV n0 σ) (hn9 : n0 < 512) (q1 : ¬ (pOK σ) → ∀ I', FrM I I' → I' MO 28 = nI 1 → mv I' = σ → Q (.inl (some (pI (nI 0)))) K I' R) (q0 : pOK σ → ∀ I', FrM I I' → I' MO 28 = nI 0 → mv I' = plS σ → ∀ v, v = tkS σ → Q (.inl (some (pI v))) K I' R) : Mw d b N_X6_play 18 [some (pR (some MO)), none, none, none] [pI (bI (pOK σ))] K I R Q := by
  obtain ⟨d9, rfl⟩ : ∃ d9, d = d9 + 1 := ⟨d - 1, by omega⟩
  have hpp := hV.1.2
  have htt := hV.2.1.2
  have hdd := hV.2.2.1.2
  refine mw_istore i_113_18 (ls' := [some (pR (some MO)), some (pI (bI (pOK σ))), none, none]) rfl (Nat.le_of_ble_eq_true rfl) ?_
  refine mw_aload i_113_19 (L := MO) rfl ?_
  refine mw_iload i_113_20 (x := bI (pOK σ)) rfl ?_
  refine mw_const i_113_21 (v := nI 1) (by decide) ?_
  refine mw_const i_113_22 (v := nI 1) (by decide) ?_
  refine mw_callV i_113_23 mf_76 (as := [pI (bI (pOK σ)), pI (nI 1), pI (nI 1)]) (rest := []) (d' := d9) (b' := b) (ls0 := [some (pR (some MO)), some (pI (bI (pOK σ))), some (pI (nI 1)), some (pI (nI 1))]) rfl rfl rfl (Nat.le_of_ble_eq_true rfl) (MK_o hM) rfl rfl rfl ?_
  refine m_goes hM ?_
  rw [show gz (bI (pOK σ)) (nI 1) (nI 1) = gn (pOK σ) True True from by unfold gn; rw [bI_T]]
  obtain ⟨Ig1, eIg1⟩ : ∃ Ig1, Ig1 = up2 I MO 28 (nI (gn (pOK σ) True True)) := ⟨_, rfl⟩
  rw [← eIg1]
  refine aft_v ?_
  refine mw_neB i_113_24 rfl (fun c2 => ?_) (fun c2 => ?_)
  · skip
    obtain ⟨p1, p2, p3⟩ := gn_0.mp c2
    refine mw_const i_113_27 (v := nI 0) (by decide) ?_
    refine mw_istore i_113_28 (ls' := [some (pR (some MO)), some (pI (bI (pOK σ))), some (pI (nI 0)), none]) rfl (Nat.le_of_ble_eq_true rfl) ?_
    refine mw_const i_113_29 (v := nI 0) (by decide) ?_
    refine mw_istore i_113_30 (ls' := [some (pR (some MO)), some (pI (bI (pOK σ))), some (pI (nI 0)), some (pI (nI 0))]) rfl (Nat.le_of_ble_eq_true rfl) ?_
    obtain ⟨tw, htw4, htw0⟩ := (hV.2.2.2.2.2.1 (dn σ) (by omega)).2.2.2.1 p1.1
    exact m_play_lp (I0 := Ig1) (by omega) hM hV hn9 htw0 htw4 (fun I8 hF8 hm8 => m_play46 hM hV htw0 htw4 hm8 (fun I7 hF7 hm7 hv7 => q0 p1 I7 (FrM_tr ((eIg1.symm ▸ FrM_up (FrM_rfl) (by decide))) (FrM_A (FrA_tr hF8 hF7))) (by rw [FrA_tr hF8 hF7 MO (by decide)]; exact (by rw [eIg1, up2_at, upd_at, c2])) hm7 _ hv7)) (mn σ (dn σ) + 1) 0 Ig1 (by omega) (by omega) FrA_rfl (by rw [eIg1, mv_o (by decide), hm]; rfl)
  · skip
    refine mw_const i_113_25 (v := nI 0) (by decide) ?_
    refine mw_iretI i_113_26 (x := nI 0) rt_113 ?_
    have h28 : Ig1 MO 28 = nI (gn (pOK σ) True True) := by rw [eIg1, up2_at, upd_at]
    have hmv : mv Ig1 = σ := by rw [eIg1, mv_o (by decide), hm]
    have hfr : FrM I Ig1 := (eIg1.symm ▸ FrM_up (FrM_rfl) (by decide))
    by_cases p19 : pOK σ
    rotate_left
    · exact q1 p19 Ig1 hfr (h28.trans (by rw [gn_1 p19])) hmv
    exact absurd (gn_t p19 trivial trivial) c2
set_option maxRecDepth 20000 in
set_option maxHeartbeats 400000 in
theorem m_play {d b : Nat} {K : KM} {I : IM} {R : RM} {Q : QT} {n0 : Nat} {σ : ST} (hd : 5 ≤ d) (hM : MK K R) (hm : mv I = σ) (hV : IV n0 σ) (hn9 : n0 < 512) (q1 : ¬ (pOK σ) → ∀ I', FrM I I' → I' MO 28 = nI 1 → mv I' = σ → Q (.inl (some (pI (nI 0)))) K I' R) (q0 : pOK σ → ∀ I', FrM I I' → I' MO 28 = nI 0 → mv I' = plS σ → ∀ v, v = tkS σ → Q (.inl (some (pI v))) K I' R) : Mw d b N_X6_play 0 [some (pR (some MO)), none, none, none] [] K I R Q := by
  obtain ⟨d9, rfl⟩ : ∃ d9, d = d9 + 1 := ⟨d - 1, by omega⟩
  have hpp := hV.1.2
  have htt := hV.2.1.2
  have hdd := hV.2.2.1.2
  have h6 := (hV.2.2.2.2.2.1 (dn σ) (by omega)).2.1
  refine mw_aload i_113_0 (L := MO) rfl ?_
  refine mw_getR i_113_1 (MK_o hM) (q := some (MA 20)) (MK_r hM 20 (by decide)) ?_
  refine mw_aload i_113_2 (L := MO) rfl ?_
  refine mw_get i_113_3 (MK_o hM) (v := nI (dn σ)) ((rs hm (by decide)).trans hV.2.2.1.1) ?_
  refine mw_iald i_113_4 (jn := dn σ) (n := 1000) (by omega) (by omega) (show K (MA 20) = some (7, 1000) from MK_k hM 20 (by decide)) (by decide) (v := nI (mn σ (dn σ))) ((rm hm (by decide) (dn σ)).trans (hV.2.2.2.2.2.1 (dn σ) (by omega)).1) ?_
  refine mw_if i_113_5 (p := (nI (mn σ (dn σ))) ≤ nI 0) Iff.rfl (fun c1 => ?_) (fun c1 => ?_)
  · skip
    refine mw_const i_113_17 (v := nI 0) (by decide) ?_
    rw [show nI 0 = bI (pOK σ) from (bI_f (fun h => h.1 (by have h9 := Int32.le_iff_toInt_le.mp c1; rw [nI_toInt (by omega), nI_toInt (by omega)] at h9; omega))).symm]
    exact m_play18 (by omega) hM hm hV hn9 q1 q0
  · skip
    refine mw_aload i_113_6 (L := MO) rfl ?_
    refine mw_getR i_113_7 (MK_o hM) (q := some (MA 22)) (MK_r hM 22 (by decide)) ?_
    refine mw_aload i_113_8 (L := MO) rfl ?_
    refine mw_get i_113_9 (MK_o hM) (v := nI (dn σ)) ((rs hm (by decide)).trans hV.2.2.1.1) ?_
    refine mw_bald i_113_10 (jn := dn σ) (n := 1000) (by omega) (by omega) (show K (MA 22) = some (8, 1000) from MK_k hM 22 (by decide)) (v := σ 22 (dn σ)) (rm hm (by decide) (dn σ)) ?_
    refine mw_if i_113_11 (p := ¬ (σ 22 (dn σ)) = nI 0) Iff.rfl (fun c2 => ?_) (fun c2 => ?_)
    · skip
      refine mw_const i_113_17 (v := nI 0) (by decide) ?_
      rw [show nI 0 = bI (pOK σ) from (bI_f (fun h => c2 h.2.1)).symm]
      exact m_play18 (by omega) hM hm hV hn9 q1 q0
    · skip
      refine mw_aload i_113_12 (L := MO) rfl ?_
      refine mw_callV i_113_13 mf_100 (as := []) (rest := []) (d' := d9) (b' := b) (ls0 := [some (pR (some MO)), none]) rfl rfl rfl (Nat.le_of_ble_eq_true rfl) (MK_o hM) rfl rfl rfl ?_
      refine m_finds (by omega) hM hm hV (fun I9 hF9 hm9 h289 h279 hop9 => ?_)
      refine aft_v ?_
      refine mw_if i_113_14 (p := ¬ (nI (mO σ)) = nI 0) Iff.rfl (fun c3 => ?_) (fun c3 => ?_)
      · skip
        refine mw_const i_113_17 (v := nI 0) (by decide) ?_
        rw [show nI 0 = bI (pOK σ) from (bI_f (fun h => h.2.2 ((hO_iff hV).mpr (fun h0 => c3 (by rw [h0]))))).symm]
        exact m_play18 (by omega) hM hm9 hV hn9 (fun a I8 f8 b8 c8 => q1 a I8 (FrM_tr hF9 f8) b8 c8) (fun a I8 f8 b8 c8 v8 d8 => q0 a I8 (FrM_tr hF9 f8) b8 c8 v8 d8)
      · skip
        refine mw_const i_113_15 (v := nI 1) (by decide) ?_
        refine mw_goto i_113_16 ?_
        rw [show nI 1 = bI (pOK σ) from (bI_t ⟨fun h => absurd c1 (by rw [h]; decide), Classical.not_not.mp c2, fun h => (hO_iff hV).mp h (nI_inj (Classical.not_not.mp c3) (by have := cnt_le (opn σ) (2 * mn σ (dn σ)); unfold mO; omega) (by omega))⟩).symm]
        exact m_play18 (by omega) hM hm9 hV hn9 (fun a I8 f8 b8 c8 => q1 a I8 (FrM_tr hF9 f8) b8 c8) (fun a I8 f8 b8 c8 v8 d8 => q0 a I8 (FrM_tr hF9 f8) b8 c8 v8 d8)
