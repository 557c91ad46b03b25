/-! the reference: the sum of a way -/
/-- how the reference writes nobody -/
def tN (σ : ST) (d : Nat) : Nat := if d = pn σ then 10 else d
theorem tN_P {σ : ST} : tN σ (pn σ) = 10 := if_pos rfl
theorem tN_n {σ : ST} {d : Nat} (h : ¬ d = pn σ) : tN σ d = d := if_neg h
theorem tN_10 {σ : ST} {d : Nat} (hp : pn σ ≤ 10) (h : d ≤ pn σ) : tN σ d = 10 ↔ d = pn σ := by
  unfold tN
  split
  · exact ⟨fun _ => by assumption, fun _ => rfl⟩
  · exact ⟨fun q => by omega, fun q => absurd q (by assumption)⟩
theorem tN_eq {σ : ST} {d e : Nat} (hp : pn σ ≤ 10) (he : e < pn σ) : tN σ d = e ↔ d = e := by
  unfold tN
  split
  · exact ⟨fun q => by omega, fun q => by omega⟩
  · exact Iff.rfl
theorem tN_le {σ : ST} {d : Nat} (hp : pn σ ≤ 10) (h : d ≤ pn σ) : tN σ d ≤ 10 := by
  unfold tN
  split <;> omega
noncomputable def wbe (σ : ST) (c : Nat → Nat) (k s : Nat) : Nat := @ite _ (opn σ s ∧ cnt (opn σ) s < k) (Classical.propDecidable _) (tN σ (c (cnt (opn σ) s))) (sw σ s)
theorem wbe_0 {σ : ST} {c : Nat → Nat} {s : Nat} : wbe σ c 0 s = sw σ s := if_neg (fun h => absurd h.2 (Nat.not_lt_zero _))
theorem wbe_t {σ : ST} {c : Nat → Nat} {k : Nat} (hk : k < mO σ) : wbe σ c (k + 1) (Os σ k) = tN σ (c k) := by
  have h := Os_lt hk
  unfold wbe
  rw [if_pos ⟨h.2.1, by omega⟩, h.2.2]
theorem wbe_f {σ : ST} {c : Nat → Nat} {k s : Nat} (hs : s < 2 * mn σ (dn σ)) (h : ¬ Os σ k = s) : wbe σ c (k + 1) s = wbe σ c k s := by
  unfold wbe
  by_cases e : opn σ s ∧ cnt (opn σ) s < k
  · rw [if_pos e, if_pos ⟨e.1, by omega⟩]
  · rw [if_neg e, if_neg]
    intro q
    refine e ⟨q.1, ?_⟩
    have h9 : cnt (opn σ) s ≠ k := fun q2 => h (by rw [← q2]; exact pos_cnt hs q.1)
    omega
theorem wbe_m {n : Nat} {σ : ST} (hV : IV n σ) {c : Nat → Nat} {s : Nat} (hs : s < 2 * mn σ (dn σ)) : wbe σ c (mO σ) s = tN σ (who σ c (mO σ) s) := by
  unfold wbe who
  by_cases e : opn σ s
  · have := cnt_lt hs e
    rw [if_pos ⟨e, this⟩, if_pos e, if_pos (show cnt (opn σ) s < mO σ from this)]
  · have h9 := (sw_k hV hs).2
    rw [if_neg (fun q => e q.1), if_neg e, tN_n (by omega)]
/-- when a place's comer is no fault, by the reference -/
def Fu (σ : ST) (c : Nat → Nat) (k : Nat) : Prop := ¬ c k = pn σ → cand σ (c k) ∧ (∀ j, j < k → ¬ c j = c k) ∧ ¬ who σ c (mO σ) (2 * (Os σ k / 2)) = pn σ ∧ ¬ who σ c (mO σ) (2 * (Os σ k / 2) + 1) = pn σ ∧ ¬ brM σ (Os σ k / 2) (who σ c (mO σ) (2 * (Os σ k / 2))) (who σ c (mO σ) (2 * (Os σ k / 2) + 1))
theorem seats2 {σ : ST} {k : Nat} : (Os σ k = 2 * (Os σ k / 2) ∧ fac (Os σ k) = 2 * (Os σ k / 2) + 1) ∨ (Os σ k = 2 * (Os σ k / 2) + 1 ∧ fac (Os σ k) = 2 * (Os σ k / 2)) := by
  unfold fac
  by_cases e : Os σ k % 2 = 0
  · rw [if_pos e]; left; omega
  · rw [if_neg e]; right; omega
theorem PVd_Fu {n : Nat} {σ : ST} (hV : IV n σ) {c : Nat → Nat} : PVd σ c (mO σ) ↔ ∀ k, k < mO σ → Fu σ c k := by
  constructor
  · intro h k hk hn
    have hc : ∀ k, k < mO σ → ¬ c k = pn σ → cand σ (c k) := fun k hk hn => ((h k hk).1 hn).1
    obtain ⟨a1, a2, a3⟩ := (PVd_Al hc).mp h k hk
    have ho := Os_lt hk
    have hown : ¬ who σ c (mO σ) (Os σ k) = pn σ := by rw [who_Os hk]; exact hn
    have hfac : ¬ who σ c (mO σ) (fac (Os σ k)) = pn σ := by
      by_cases e : opn σ (fac (Os σ k))
      · exact fun q => hn ((a1 e).mpr q)
      · have hfl : fac (Os σ k) < 2 * mn σ (dn σ) := by unfold fac; split <;> omega
        have := (sw_k hV hfl).2
        unfold who
        rw [if_neg e]
        omega
    have both : ¬ who σ c (mO σ) (2 * (Os σ k / 2)) = pn σ ∧ ¬ who σ c (mO σ) (2 * (Os σ k / 2) + 1) = pn σ := by
      rcases seats2 (σ := σ) (k := k) with ⟨e1, e2⟩ | ⟨e1, e2⟩
      · exact ⟨by rw [← e1]; exact hown, by rw [← e2]; exact hfac⟩
      · exact ⟨by rw [← e2]; exact hfac, by rw [← e1]; exact hown⟩
    exact ⟨hc k hk hn, a2 hn, both.1, both.2, fun q => a3 ⟨both.1, both.2, q⟩⟩
  · intro h
    refine (PVd_Al (fun k hk hn => (h k hk hn).1)).mpr (fun i hi => ?_)
    have ho := Os_lt hi
    have sw2 : ∀ k, k < mO σ → ¬ c k = pn σ → ¬ who σ c (mO σ) (Os σ k) = pn σ ∧ ¬ who σ c (mO σ) (fac (Os σ k)) = pn σ := fun k hk hn => by
      obtain ⟨-, -, b1, b2, -⟩ := h k hk hn
      rcases seats2 (σ := σ) (k := k) with ⟨e1, e2⟩ | ⟨e1, e2⟩
      · rw [e2]; exact ⟨by rw [e1]; exact b1, b2⟩
      · rw [e2]; exact ⟨by rw [e1]; exact b2, b1⟩
    refine ⟨fun hf => ⟨fun hP => ?_, fun hw => ?_⟩, fun hn => (h i hi hn).2.1, fun hb => ?_⟩
    · refine Classical.byContradiction (fun hw => ?_)
      have hfl : fac (Os σ i) < 2 * mn σ (dn σ) := by unfold fac; split <;> omega
      have hk := cnt_lt hfl hf
      have ek : Os σ (cnt (opn σ) (fac (Os σ i))) = fac (Os σ i) := pos_cnt hfl hf
      have hk2 : cnt (opn σ) (fac (Os σ i)) < mO σ := hk
      have e9 := who_Os (c := c) hk2
      rw [ek] at e9
      rw [e9] at hw
      have := (sw2 _ hk2 hw).2
      rw [ek] at this
      have eff : fac (fac (Os σ i)) = Os σ i := by unfold fac; split <;> split <;> omega
      rw [eff, who_Os hi] at this
      exact this hP
    · refine Classical.byContradiction (fun hP => ?_)
      exact (sw2 i hi hP).2 hw
    · have hn : ¬ c i = pn σ := by
        rw [← who_Os (c := c) hi]
        rcases seats2 (σ := σ) (k := i) with ⟨e1, -⟩ | ⟨e1, -⟩
        · rw [e1]; exact hb.1
        · rw [e1]; exact hb.2.1
      exact (h i hi hn).2.2.2.2 hb.2.2
set_option maxRecDepth 20000 in
theorem m_would_lp {d b : Nat} {K : KM} {I : IM} {R : RM} {Q : QT} {n0 : Nat} {σ : ST} {c : Nat → Nat} {M p : Nat} (hd : 1 ≤ d) (hM : MK K R) (hm : mv I = σ) (hV : IV n0 σ) (hO : mO σ ≤ 4) (h27 : I MO 27 = nI (mO σ)) (h24 : ∀ i, i < mO σ → I (MA 24) i = nI (Os σ i)) (h26 : ∀ i, i < mO σ → I (MA 26) i = nI (tN σ (c i))) (hc : ∀ i, i < mO σ → c i ≤ pn σ) (hMn : M < mn σ (dn σ)) (hp2 : p < 2) (q : Q (.inl (some (pI (nI (tN σ (who σ c (mO σ) (2 * M + p))))))) K I R) : ∀ (n k : Nat), mO σ - k < n → k ≤ mO σ → Mw d b N_X6_wouldBe 9 [some (pR (some MO)), some (pI (nI M)), some (pI (nI p)), some (pI (nI (wbe σ c k (2 * M + p)))), some (pI (nI k))] [] K I R Q := by
  obtain ⟨d9, rfl⟩ : ∃ d9, d = d9 + 1 := ⟨d - 1, by omega⟩
  intro n
  induction n with
  | zero => intro k hn; exact absurd hn (Nat.not_lt_zero _)
  | succ n ih =>
    intro k hn hi
    have hpp := hV.1.2
    have htt := hV.2.1.2
    have hdd := hV.2.2.1.2
    have h6 := (hV.2.2.2.2.2.1 (dn σ) (by omega)).2.1
    have hOl : ∀ i, i < mO σ → Os σ i < 2 * mn σ (dn σ) := fun i hi => (Os_lt hi).1
    have hswp := (sw_k hV (k := 2 * M + p) (by omega)).2
    have hwb : wbe σ c k (2 * M + p) ≤ 10 := by
      unfold wbe
      split
      · rename_i h9
        exact tN_le hpp (hc _ (cnt_lt (by omega) h9.1))
      · omega
    refine mw_iload i_101_9 (x := nI k) rfl ?_
    refine mw_aload i_101_10 (L := MO) rfl ?_
    refine mw_get i_101_11 (MK_o hM) (v := nI (mO σ)) h27 ?_
    refine mw_ic i_101_12 (p := (mO σ) ≤ k) (nI_leI (by omega) (by omega)) (fun c1 => ?_) (fun c1 => ?_)
    · skip
      refine mw_iload i_101_32 (x := nI (wbe σ c k (2 * M + p))) rfl ?_
      refine mw_iretI i_101_33 (x := nI (wbe σ c k (2 * M + p))) rt_101 ?_
      obtain rfl : k = mO σ := by omega
      rw [wbe_m hV (by omega)]
      exact q
    · skip
      have hokk := hOl k (by omega)
      refine mw_aload i_101_13 (L := MO) rfl ?_
      refine mw_getR i_101_14 (MK_o hM) (q := some (MA 24)) (MK_r hM 24 (by decide)) ?_
      refine mw_iload i_101_15 (x := nI k) rfl ?_
      refine mw_iald i_101_16 (jn := k) (n := 4) (by omega) (by omega) (show K (MA 24) = some (7, 4) from MK_k hM 24 (by decide)) (by decide) (v := nI (Os σ k)) (h24 k (by omega)) ?_
      refine mw_const i_101_17 (v := nI 2) (by decide) ?_
      refine mw_iload i_101_18 (x := nI M) rfl ?_
      refine mw_imul i_101_19 (w := nI (2 * M)) (pk_mul _ _) ?_
      refine mw_iload i_101_20 (x := nI p) rfl ?_
      refine mw_iadd i_101_21 (w := nI (2 * M + p)) (nI_add _ _) ?_
      refine mw_ic i_101_22 (p := ¬ (Os σ k) = (2 * M + p)) (not_congr (nI_eq (by omega) (by omega))) (fun c2 => ?_) (fun c2 => ?_)
      · skip
        refine mw_iload i_101_28 (x := nI (wbe σ c k (2 * M + p))) rfl ?_
        refine mw_istore i_101_29 (ls' := [some (pR (some MO)), some (pI (nI M)), some (pI (nI p)), some (pI (nI (wbe σ c k (2 * M + p)))), some (pI (nI k))]) rfl (Nat.le_of_ble_eq_true rfl) ?_
        refine mw_iinc i_101_30 (x := nI k) (v := nI (k + 1)) (ls' := [some (pR (some MO)), some (pI (nI M)), some (pI (nI p)), some (pI (nI (wbe σ c k (2 * M + p)))), some (pI (nI (k + 1)))]) rfl (nI_add _ _) rfl ?_
        refine mw_goto i_101_31 ?_
        rw [show wbe σ c k (2 * M + p) = wbe σ c (k + 1) (2 * M + p) from Eq.symm (wbe_f (by omega) c2)]
        exact ih (k + 1) (by omega) (by omega)
      · skip
        refine mw_aload i_101_23 (L := MO) rfl ?_
        refine mw_getR i_101_24 (MK_o hM) (q := some (MA 26)) (MK_r hM 26 (by decide)) ?_
        refine mw_iload i_101_25 (x := nI k) rfl ?_
        refine mw_iald i_101_26 (jn := k) (n := 4) (by omega) (by omega) (show K (MA 26) = some (7, 4) from MK_k hM 26 (by decide)) (by decide) (v := nI (tN σ (c k))) (h26 k (by omega)) ?_
        refine mw_goto i_101_27 ?_
        refine mw_istore i_101_29 (ls' := [some (pR (some MO)), some (pI (nI M)), some (pI (nI p)), some (pI (nI (tN σ (c k)))), some (pI (nI k))]) rfl (Nat.le_of_ble_eq_true rfl) ?_
        refine mw_iinc i_101_30 (x := nI k) (v := nI (k + 1)) (ls' := [some (pR (some MO)), some (pI (nI M)), some (pI (nI p)), some (pI (nI (tN σ (c k)))), some (pI (nI (k + 1)))]) rfl (nI_add _ _) rfl ?_
        refine mw_goto i_101_31 ?_
        rw [show tN σ (c k) = wbe σ c (k + 1) (2 * M + p) from Eq.symm (by rw [show 2 * M + p = Os σ k by omega]; exact wbe_t (by omega))]
        exact ih (k + 1) (by omega) (by omega)
set_option maxRecDepth 20000 in
set_option maxHeartbeats 400000 in
theorem m_would {d b : Nat} {K : KM} {I : IM} {R : RM} {Q : QT} {n0 : Nat} {σ : ST} {c : Nat → Nat} {M p : Nat} (hd : 1 ≤ d) (hM : MK K R) (hm : mv I = σ) (hV : IV n0 σ) (hO : mO σ ≤ 4) (h27 : I MO 27 = nI (mO σ)) (h24 : ∀ i, i < mO σ → I (MA 24) i = nI (Os σ i)) (h26 : ∀ i, i < mO σ → I (MA 26) i = nI (tN σ (c i))) (hc : ∀ i, i < mO σ → c i ≤ pn σ) (hMn : M < mn σ (dn σ)) (hp2 : p < 2) (q : Q (.inl (some (pI (nI (tN σ (who σ c (mO σ) (2 * M + p))))))) K I R) : Mw d b N_X6_wouldBe 0 [some (pR (some MO)), some (pI (nI M)), some (pI (nI p)), none, none] [] K I R Q := by
  obtain ⟨d9, rfl⟩ : ∃ d9, d = d9 + 1 := ⟨d - 1, by omega⟩
  have hpp := hV.1.2
  have htt := hV.2.1.2
  have hdd := hV.2.2.1.2
  have h6 := (hV.2.2.2.2.2.1 (dn σ) (by omega)).2.1
  have hOl : ∀ i, i < mO σ → Os σ i < 2 * mn σ (dn σ) := fun i hi => (Os_lt hi).1
  refine mw_aload i_101_0 (L := MO) rfl ?_
  refine mw_aload i_101_1 (L := MO) rfl ?_
  refine mw_get i_101_2 (MK_o hM) (v := nI (dn σ)) ((rs hm (by decide)).trans hV.2.2.1.1) ?_
  refine mw_iload i_101_3 (x := nI M) rfl ?_
  refine mw_iload i_101_4 (x := nI p) rfl ?_
  refine mw_callV i_101_5 mf_81 (as := [pI (nI (dn σ)), pI (nI M), pI (nI p)]) (rest := []) (d' := d9) (b' := b) (ls0 := [some (pR (some MO)), some (pI (nI (dn σ))), some (pI (nI M)), some (pI (nI p))]) rfl rfl rfl (Nat.le_of_ble_eq_true rfl) (MK_o hM) rfl rfl rfl ?_
  refine m_of hM (by omega) (by omega) (by omega) ?_
  rw [show I (MA 19) (36 * dn σ + 6 * M + p) = nI (sw σ (2 * M + p)) from (rm hm (by decide) _).trans (sw_at hV hMn hp2).1]
  refine aft_v ?_
  refine mw_istore i_101_6 (ls' := [some (pR (some MO)), some (pI (nI M)), some (pI (nI p)), some (pI (nI (sw σ (2 * M + p)))), none]) rfl (Nat.le_of_ble_eq_true rfl) ?_
  refine mw_const i_101_7 (v := nI 0) (by decide) ?_
  refine mw_istore i_101_8 (ls' := [some (pR (some MO)), some (pI (nI M)), some (pI (nI p)), some (pI (nI (sw σ (2 * M + p)))), some (pI (nI 0))]) rfl (Nat.le_of_ble_eq_true rfl) ?_
  rw [← wbe_0 (c := c)]
  exact m_would_lp hd hM hm hV hO h27 h24 h26 hc hMn hp2 q (mO σ + 1) 0 (by omega) (by omega)
set_option maxRecDepth 20000 in
theorem m_sum_lj {d b : Nat} {K : KM} {I : IM} {R : RM} {Q : QT} {n0 : Nat} {σ : ST} {c : Nat → Nat} {k tw : Nat} (hM : MK K R) (hm : mv I = σ) (hV : IV n0 σ) (hO : mO σ ≤ 4) (h27 : I MO 27 = nI (mO σ)) (h24 : ∀ i, i < mO σ → I (MA 24) i = nI (Os σ i)) (h26 : ∀ i, i < mO σ → I (MA 26) i = nI (tN σ (c i))) (hc : ∀ i, i < mO σ → c i ≤ pn σ) (hk : k < mO σ) (hnP : ¬ c k = pn σ)  (q : Mw d b N_X6_sumOf 80 [some (pR (some MO)), some (pI (smW σ tw c k)), some (pI (nI k)), some (pI (nI (Os σ k / 2))), some (pI (nI (tN σ (who σ c (mO σ) (2 * (Os σ k / 2)))))), some (pI (nI (tN σ (who σ c (mO σ) (2 * (Os σ k / 2) + 1))))), some (pI (nI (tN σ (c k)))), some (pI (bI (c k = pn σ))), some (pI (bI (((¬ hu σ (c k) ∧ ¬ onC σ (dn σ) (nI (c k))) ∧ ¬ (who σ c (mO σ) (2 * (Os σ k / 2))) = pn σ ∧ ¬ (who σ c (mO σ) (2 * (Os σ k / 2) + 1)) = pn σ) ∧ ∀ i, i < k → ¬ c i = c k))), some (pI (nI k))] [] K I R Q) : ∀ (n j : Nat), k - j < n → j ≤ k → Mw d b N_X6_sumOf 63 [some (pR (some MO)), some (pI (smW σ tw c k)), some (pI (nI k)), some (pI (nI (Os σ k / 2))), some (pI (nI (tN σ (who σ c (mO σ) (2 * (Os σ k / 2)))))), some (pI (nI (tN σ (who σ c (mO σ) (2 * (Os σ k / 2) + 1))))), some (pI (nI (tN σ (c k)))), some (pI (bI (c k = pn σ))), some (pI (bI (((¬ hu σ (c k) ∧ ¬ onC σ (dn σ) (nI (c k))) ∧ ¬ (who σ c (mO σ) (2 * (Os σ k / 2))) = pn σ ∧ ¬ (who σ c (mO σ) (2 * (Os σ k / 2) + 1)) = pn σ) ∧ ∀ i, i < j → ¬ c i = c k))), some (pI (nI j))] [] K I R Q := by
  intro n
  induction n with
  | zero => intro j hn; exact absurd hn (Nat.not_lt_zero _)
  | succ n ih =>
    intro j hn hi
    have hpp := hV.1.2
    have htt := hV.2.1.2
    have hdd := hV.2.2.1.2
    have h6 := (hV.2.2.2.2.2.1 (dn σ) (by omega)).2.1
    have hOl : ∀ i, i < mO σ → Os σ i < 2 * mn σ (dn σ) := fun i hi => (Os_lt hi).1
    have hcl := hc k hk
    have ecn : tN σ (c k) = c k := tN_n hnP
    have hck10 := tN_le hpp hcl
    have hokk := hOl k hk
    have hA := who_lt hV hc (s := 2 * (Os σ k / 2)) (by omega)
    have hB := who_lt hV hc (s := 2 * (Os σ k / 2) + 1) (by omega)
    refine mw_iload i_102_63 (x := nI j) rfl ?_
    refine mw_iload i_102_64 (x := nI k) rfl ?_
    refine mw_ic i_102_65 (p := k ≤ j) (nI_leI (by omega) (by omega)) (fun c1 => ?_) (fun c1 => ?_)
    · skip
      obtain rfl : j = k := by omega
      exact q
    · skip
      have hcj10 := tN_le hpp (hc j (by omega))
      have J2 : Mw d b 102 77 [some (pR (some MO)), some (pI (smW σ tw c k)), some (pI (nI k)), some (pI (nI (Os σ k / 2))), some (pI (nI (tN σ (who σ c (mO σ) (2 * (Os σ k / 2)))))), some (pI (nI (tN σ (who σ c (mO σ) (2 * (Os σ k / 2) + 1))))), some (pI (nI (tN σ (c k)))), some (pI (bI (c k = pn σ))), some (pI (bI (((¬ hu σ (c k) ∧ ¬ onC σ (dn σ) (nI (c k))) ∧ ¬ (who σ c (mO σ) (2 * (Os σ k / 2))) = pn σ ∧ ¬ (who σ c (mO σ) (2 * (Os σ k / 2) + 1)) = pn σ) ∧ ∀ i, i < j → ¬ c i = c k))), some (pI (nI j))] [pI (bI (((¬ hu σ (c k) ∧ ¬ onC σ (dn σ) (nI (c k))) ∧ ¬ (who σ c (mO σ) (2 * (Os σ k / 2))) = pn σ ∧ ¬ (who σ c (mO σ) (2 * (Os σ k / 2) + 1)) = pn σ) ∧ ∀ i, i < j + 1 → ¬ c i = c k))] K I R Q := by
        refine mw_istore i_102_77 (ls' := [some (pR (some MO)), some (pI (smW σ tw c k)), some (pI (nI k)), some (pI (nI (Os σ k / 2))), some (pI (nI (tN σ (who σ c (mO σ) (2 * (Os σ k / 2)))))), some (pI (nI (tN σ (who σ c (mO σ) (2 * (Os σ k / 2) + 1))))), some (pI (nI (tN σ (c k)))), some (pI (bI (c k = pn σ))), some (pI (bI (((¬ hu σ (c k) ∧ ¬ onC σ (dn σ) (nI (c k))) ∧ ¬ (who σ c (mO σ) (2 * (Os σ k / 2))) = pn σ ∧ ¬ (who σ c (mO σ) (2 * (Os σ k / 2) + 1)) = pn σ) ∧ ∀ i, i < j + 1 → ¬ c i = c k))), some (pI (nI j))]) rfl (Nat.le_of_ble_eq_true rfl) ?_
        refine mw_iinc i_102_78 (x := nI j) (v := nI (j + 1)) (ls' := [some (pR (some MO)), some (pI (smW σ tw c k)), some (pI (nI k)), some (pI (nI (Os σ k / 2))), some (pI (nI (tN σ (who σ c (mO σ) (2 * (Os σ k / 2)))))), some (pI (nI (tN σ (who σ c (mO σ) (2 * (Os σ k / 2) + 1))))), some (pI (nI (tN σ (c k)))), some (pI (bI (c k = pn σ))), some (pI (bI (((¬ hu σ (c k) ∧ ¬ onC σ (dn σ) (nI (c k))) ∧ ¬ (who σ c (mO σ) (2 * (Os σ k / 2))) = pn σ ∧ ¬ (who σ c (mO σ) (2 * (Os σ k / 2) + 1)) = pn σ) ∧ ∀ i, i < j + 1 → ¬ c i = c k))), some (pI (nI (j + 1)))]) rfl (nI_add _ _) rfl ?_
        refine mw_goto i_102_79 ?_
        exact ih (j + 1) (by omega) (by omega)
      refine mw_iload i_102_66 (x := bI (((¬ hu σ (c k) ∧ ¬ onC σ (dn σ) (nI (c k))) ∧ ¬ (who σ c (mO σ) (2 * (Os σ k / 2))) = pn σ ∧ ¬ (who σ c (mO σ) (2 * (Os σ k / 2) + 1)) = pn σ) ∧ ∀ i, i < j → ¬ c i = c k)) rfl ?_
      refine mw_eqB i_102_67 rfl (fun c3 => ?_) (fun c3 => ?_)
      · skip
        refine mw_const i_102_76 (v := nI 0) (by decide) ?_
        rw [show nI 0 = bI (((¬ hu σ (c k) ∧ ¬ onC σ (dn σ) (nI (c k))) ∧ ¬ (who σ c (mO σ) (2 * (Os σ k / 2))) = pn σ ∧ ¬ (who σ c (mO σ) (2 * (Os σ k / 2) + 1)) = pn σ) ∧ ∀ i, i < j + 1 → ¬ c i = c k) from (bI_f ((fun h => c3 ⟨h.1, fun i hi9 => h.2 i (by omega)⟩))).symm]
        exact J2
      · skip
        refine mw_aload i_102_68 (L := MO) rfl ?_
        refine mw_getR i_102_69 (MK_o hM) (q := some (MA 26)) (MK_r hM 26 (by decide)) ?_
        refine mw_iload i_102_70 (x := nI j) rfl ?_
        refine mw_iald i_102_71 (jn := j) (n := 4) (by omega) (by omega) (show K (MA 26) = some (7, 4) from MK_k hM 26 (by decide)) (by decide) (v := nI (tN σ (c j))) (h26 j (by omega)) ?_
        refine mw_iload i_102_72 (x := nI (tN σ (c k))) rfl ?_
        refine mw_ic i_102_73 (p := (tN σ (c j)) = (tN σ (c k))) (nI_eq (by omega) (by omega)) (fun c4 => ?_) (fun c4 => ?_)
        · skip
          refine mw_const i_102_76 (v := nI 0) (by decide) ?_
          rw [show nI 0 = bI (((¬ hu σ (c k) ∧ ¬ onC σ (dn σ) (nI (c k))) ∧ ¬ (who σ c (mO σ) (2 * (Os σ k / 2))) = pn σ ∧ ¬ (who σ c (mO σ) (2 * (Os σ k / 2) + 1)) = pn σ) ∧ ∀ i, i < j + 1 → ¬ c i = c k) from (bI_f ((fun h => h.2 j (by omega) ((tN_eq hpp (show c k < pn σ by omega)).mp (by rw [ecn] at c4; exact c4))))).symm]
          exact J2
        · skip
          refine mw_const i_102_74 (v := nI 1) (by decide) ?_
          refine mw_goto i_102_75 ?_
          rw [show nI 1 = bI (((¬ hu σ (c k) ∧ ¬ onC σ (dn σ) (nI (c k))) ∧ ¬ (who σ c (mO σ) (2 * (Os σ k / 2))) = pn σ ∧ ¬ (who σ c (mO σ) (2 * (Os σ k / 2) + 1)) = pn σ) ∧ ∀ i, i < j + 1 → ¬ c i = c k) from (bI_t (⟨c3.1, fun i hi9 => by
              by_cases e9 : i = j
              · rw [e9]; exact fun q9 => c4 (by rw [(tN_eq hpp (show c k < pn σ by omega)).mpr q9, ecn])
              · exact c3.2 i (by omega)⟩)).symm]
          exact J2
set_option maxRecDepth 20000 in
set_option maxHeartbeats 400000 in
theorem m_sum80 {d b : Nat} {K : KM} {I : IM} {R : RM} {Q : QT} {n0 : Nat} {σ : ST} {c : Nat → Nat} {k j tw : Nat} (hd : 1 ≤ d) (hM : MK K R) (hm : mv I = σ) (hV : IV n0 σ) (hO : mO σ ≤ 4) (h27 : I MO 27 = nI (mO σ)) (h24 : ∀ i, i < mO σ → I (MA 24) i = nI (Os σ i)) (h26 : ∀ i, i < mO σ → I (MA 26) i = nI (tN σ (c i))) (hc : ∀ i, i < mO σ → c i ≤ pn σ) (hk : k < mO σ) (hnP : ¬ c k = pn σ) (htw0 : σ 21 (dn σ) = nI tw) (htw4 : tw < 4) (qn : ¬ Fu σ c k → Q (.inl (some (pI (-1)))) K I R) (qy : Fu σ c k → ∀ u3 u4 u5 u6 u7 u8 u9, Mw d b N_X6_sumOf 4 [some (pR (some MO)), some (pI (smW σ tw c (k + 1))), some (pI (nI (k + 1))), u3, u4, u5, u6, u7, u8, u9] [] K I R Q) : Mw d b N_X6_sumOf 80 [some (pR (some MO)), some (pI (smW σ tw c k)), some (pI (nI k)), some (pI (nI (Os σ k / 2))), some (pI (nI (tN σ (who σ c (mO σ) (2 * (Os σ k / 2)))))), some (pI (nI (tN σ (who σ c (mO σ) (2 * (Os σ k / 2) + 1))))), some (pI (nI (tN σ (c k)))), some (pI (bI (c k = pn σ))), some (pI (bI (((¬ hu σ (c k) ∧ ¬ onC σ (dn σ) (nI (c k))) ∧ ¬ (who σ c (mO σ) (2 * (Os σ k / 2))) = pn σ ∧ ¬ (who σ c (mO σ) (2 * (Os σ k / 2) + 1)) = pn σ) ∧ ∀ i, i < k → ¬ c i = c k))), some (pI (nI j))] [] K I R Q := by
  obtain ⟨d9, rfl⟩ : ∃ d9, d = d9 + 1 := ⟨d - 1, by omega⟩
  have hpp := hV.1.2
  have htt := hV.2.1.2
  have hdd := hV.2.2.1.2
  have h6 := (hV.2.2.2.2.2.1 (dn σ) (by omega)).2.1
  have hOl : ∀ i, i < mO σ → Os σ i < 2 * mn σ (dn σ) := fun i hi => (Os_lt hi).1
  have hcl := hc k hk
  have ecn : tN σ (c k) = c k := tN_n hnP
  have hck10 := tN_le hpp hcl
  have hokk := hOl k hk
  have hA := who_lt hV hc (s := 2 * (Os σ k / 2)) (by omega)
  have hB := who_lt hV hc (s := 2 * (Os σ k / 2) + 1) (by omega)
  have J1 : Mw (d9 + 1) b 102 90 [some (pR (some MO)), some (pI (smW σ tw c k)), some (pI (nI k)), some (pI (nI (Os σ k / 2))), some (pI (nI (tN σ (who σ c (mO σ) (2 * (Os σ k / 2)))))), some (pI (nI (tN σ (who σ c (mO σ) (2 * (Os σ k / 2) + 1))))), some (pI (nI (tN σ (c k)))), some (pI (bI (c k = pn σ))), some (pI (bI (((¬ hu σ (c k) ∧ ¬ onC σ (dn σ) (nI (c k))) ∧ ¬ (who σ c (mO σ) (2 * (Os σ k / 2))) = pn σ ∧ ¬ (who σ c (mO σ) (2 * (Os σ k / 2) + 1)) = pn σ) ∧ ∀ i, i < k → ¬ c i = c k))), some (pI (nI j))] [pI (bI (σ 19 (36 * dn σ + 6 * (Os σ k / 2) + 2) = nI 0))] K I R Q := by
    refine mw_istore i_102_90 (ls' := [some (pR (some MO)), some (pI (smW σ tw c k)), some (pI (nI k)), some (pI (nI (Os σ k / 2))), some (pI (nI (tN σ (who σ c (mO σ) (2 * (Os σ k / 2)))))), some (pI (nI (tN σ (who σ c (mO σ) (2 * (Os σ k / 2) + 1))))), some (pI (nI (tN σ (c k)))), some (pI (bI (c k = pn σ))), some (pI (bI (((¬ hu σ (c k) ∧ ¬ onC σ (dn σ) (nI (c k))) ∧ ¬ (who σ c (mO σ) (2 * (Os σ k / 2))) = pn σ ∧ ¬ (who σ c (mO σ) (2 * (Os σ k / 2) + 1)) = pn σ) ∧ ∀ i, i < k → ¬ c i = c k))), some (pI (bI (σ 19 (36 * dn σ + 6 * (Os σ k / 2) + 2) = nI 0)))]) rfl (Nat.le_of_ble_eq_true rfl) ?_
    refine mw_iload i_102_91 (x := bI (((¬ hu σ (c k) ∧ ¬ onC σ (dn σ) (nI (c k))) ∧ ¬ (who σ c (mO σ) (2 * (Os σ k / 2))) = pn σ ∧ ¬ (who σ c (mO σ) (2 * (Os σ k / 2) + 1)) = pn σ) ∧ ∀ i, i < k → ¬ c i = c k)) rfl ?_
    refine mw_eqB i_102_92 rfl (fun c2 => ?_) (fun c2 => ?_)
    · skip
      refine mw_const i_102_108 (v := (-1)) (by decide) ?_
      refine mw_iretI i_102_109 (x := (-1)) rt_102 ?_
      exact qn (fun h => c2 ⟨⟨(h hnP).1, (h hnP).2.2.1, (h hnP).2.2.2.1⟩, (h hnP).2.1⟩)
    · skip
      refine mw_aload i_102_93 (L := MO) rfl ?_
      refine mw_iload i_102_94 (x := bI (σ 19 (36 * dn σ + 6 * (Os σ k / 2) + 2) = nI 0)) rfl ?_
      refine mw_eqB i_102_95 rfl (fun c3 => ?_) (fun c3 => ?_)
      · skip
        refine mw_iload i_102_98 (x := nI (tN σ (who σ c (mO σ) (2 * (Os σ k / 2))))) rfl ?_
        refine mw_iload i_102_99 (x := bI (σ 19 (36 * dn σ + 6 * (Os σ k / 2) + 2) = nI 0)) rfl ?_
        refine mw_eqB i_102_100 rfl (fun c4 => ?_) (fun c4 => ?_)
        · skip
          refine mw_iload i_102_103 (x := nI (tN σ (who σ c (mO σ) (2 * (Os σ k / 2) + 1)))) rfl ?_
          refine mw_aload i_102_104 (L := MO) rfl ?_
          refine mw_get i_102_105 (MK_o hM) (v := nI (dn σ)) ((rs hm (by decide)).trans hV.2.2.1.1) ?_
          have eA : tN σ (who σ c (mO σ) (2 * (Os σ k / 2))) = (who σ c (mO σ) (2 * (Os σ k / 2))) := tN_n c2.1.2.1
          have eB : tN σ (who σ c (mO σ) (2 * (Os σ k / 2) + 1)) = (who σ c (mO σ) (2 * (Os σ k / 2) + 1)) := tN_n c2.1.2.2
          refine mw_callV i_102_106 mf_87 (as := [pI (nI (tN σ (who σ c (mO σ) (2 * (Os σ k / 2))))), pI (nI (tN σ (who σ c (mO σ) (2 * (Os σ k / 2) + 1)))), pI (nI (dn σ))]) (rest := []) (d' := d9) (b' := b) (ls0 := [some (pR (some MO)), some (pI (nI (tN σ (who σ c (mO σ) (2 * (Os σ k / 2)))))), some (pI (nI (tN σ (who σ c (mO σ) (2 * (Os σ k / 2) + 1))))), some (pI (nI (dn σ)))]) rfl rfl rfl (Nat.le_of_ble_eq_true rfl) (MK_o hM) rfl rfl rfl ?_
          refine m_isBarred hM (by omega) (by omega) ?_
          rw [show bI (nI (dn σ) < I (MA 11) (10 * (tN σ (who σ c (mO σ) (2 * (Os σ k / 2)))) + (tN σ (who σ c (mO σ) (2 * (Os σ k / 2) + 1)))) ∨ nI (dn σ) < I (MA 12) (tN σ (who σ c (mO σ) (2 * (Os σ k / 2))))) = bI (brM σ (Os σ k / 2) (who σ c (mO σ) (2 * (Os σ k / 2))) (who σ c (mO σ) (2 * (Os σ k / 2) + 1))) from by rw [eA, eB, rm hm (by decide) (10 * (who σ c (mO σ) (2 * (Os σ k / 2))) + (who σ c (mO σ) (2 * (Os σ k / 2) + 1))), rm hm (by decide) (who σ c (mO σ) (2 * (Os σ k / 2)))]; unfold brM brd; first | rw [if_pos (by assumption)] | rw [if_neg (by assumption)]]
          refine aft_v ?_
          refine mw_eqB i_102_107 rfl (fun c5 => ?_) (fun c5 => ?_)
          · skip
            refine mw_iload i_102_110 (x := smW σ tw c k) rfl ?_
            refine mw_aload i_102_111 (L := MO) rfl ?_
            refine mw_aload i_102_112 (L := MO) rfl ?_
            refine mw_getR i_102_113 (MK_o hM) (q := some (MA 21)) (MK_r hM 21 (by decide)) ?_
            refine mw_aload i_102_114 (L := MO) rfl ?_
            refine mw_get i_102_115 (MK_o hM) (v := nI (dn σ)) ((rs hm (by decide)).trans hV.2.2.1.1) ?_
            refine mw_iald i_102_116 (jn := dn σ) (n := 1000) (by omega) (by omega) (show K (MA 21) = some (7, 1000) from MK_k hM 21 (by decide)) (by decide) (v := nI tw) ((rm hm (by decide) _).trans htw0) ?_
            refine mw_iload i_102_117 (x := nI (tN σ (c k))) rfl ?_
            refine mw_callV i_102_118 mf_110 (as := [pI (nI tw), pI (nI (tN σ (c k)))]) (rest := [pI (smW σ tw c k)]) (d' := d9) (b' := b) (ls0 := [some (pR (some MO)), some (pI (nI tw)), some (pI (nI (tN σ (c k)))), none, none]) rfl rfl rfl (Nat.le_of_ble_eq_true rfl) (MK_o hM) rfl rfl rfl ?_
            refine m_worth hM hm htw4 (by omega) ?_
            rw [show wrt σ tw (tN σ (c k)) = wrt σ tw (c k) from by rw [ecn]]
            refine aft_v ?_
            refine mw_iadd i_102_119 (w := ((smW σ tw c k) + (wrt σ tw (c k)))) rfl ?_
            refine mw_istore i_102_120 (ls' := [some (pR (some MO)), some (pI ((smW σ tw c k) + (wrt σ tw (c k)))), some (pI (nI k)), some (pI (nI (Os σ k / 2))), some (pI (nI (tN σ (who σ c (mO σ) (2 * (Os σ k / 2)))))), some (pI (nI (tN σ (who σ c (mO σ) (2 * (Os σ k / 2) + 1))))), some (pI (nI (tN σ (c k)))), some (pI (bI (c k = pn σ))), some (pI (bI (((¬ hu σ (c k) ∧ ¬ onC σ (dn σ) (nI (c k))) ∧ ¬ (who σ c (mO σ) (2 * (Os σ k / 2))) = pn σ ∧ ¬ (who σ c (mO σ) (2 * (Os σ k / 2) + 1)) = pn σ) ∧ ∀ i, i < k → ¬ c i = c k))), some (pI (bI (σ 19 (36 * dn σ + 6 * (Os σ k / 2) + 2) = nI 0)))]) rfl (Nat.le_of_ble_eq_true rfl) ?_
            refine mw_iinc i_102_121 (x := nI k) (v := nI (k + 1)) (ls' := [some (pR (some MO)), some (pI ((smW σ tw c k) + (wrt σ tw (c k)))), some (pI (nI (k + 1))), some (pI (nI (Os σ k / 2))), some (pI (nI (tN σ (who σ c (mO σ) (2 * (Os σ k / 2)))))), some (pI (nI (tN σ (who σ c (mO σ) (2 * (Os σ k / 2) + 1))))), some (pI (nI (tN σ (c k)))), some (pI (bI (c k = pn σ))), some (pI (bI (((¬ hu σ (c k) ∧ ¬ onC σ (dn σ) (nI (c k))) ∧ ¬ (who σ c (mO σ) (2 * (Os σ k / 2))) = pn σ ∧ ¬ (who σ c (mO σ) (2 * (Os σ k / 2) + 1)) = pn σ) ∧ ∀ i, i < k → ¬ c i = c k))), some (pI (bI (σ 19 (36 * dn σ + 6 * (Os σ k / 2) + 2) = nI 0)))]) rfl (nI_add _ _) rfl ?_
            refine mw_goto i_102_122 ?_
            have hFu : Fu σ c k := fun _ => ⟨c2.1.1, c2.2, c2.1.2.1, c2.1.2.2, c5⟩
            rw [show ((smW σ tw c k) + (wrt σ tw (c k))) = smW σ tw c (k + 1) from by rw [show smW σ tw c (k + 1) = smW σ tw c k + wo σ tw (c k) from rfl, wo_n (by omega)]]
            exact qy hFu _ _ _ _ _ _ _
          · skip
            refine mw_const i_102_108 (v := (-1)) (by decide) ?_
            refine mw_iretI i_102_109 (x := (-1)) rt_102 ?_
            exact qn (fun h => (h hnP).2.2.2.2 c5)
        · skip
          exact absurd c4 c3
      · skip
        refine mw_iload i_102_96 (x := nI (tN σ (who σ c (mO σ) (2 * (Os σ k / 2) + 1)))) rfl ?_
        refine mw_goto i_102_97 ?_
        refine mw_iload i_102_99 (x := bI (σ 19 (36 * dn σ + 6 * (Os σ k / 2) + 2) = nI 0)) rfl ?_
        refine mw_eqB i_102_100 rfl (fun c6 => ?_) (fun c6 => ?_)
        · skip
          exact absurd c3 c6
        · skip
          refine mw_iload i_102_101 (x := nI (tN σ (who σ c (mO σ) (2 * (Os σ k / 2))))) rfl ?_
          refine mw_goto i_102_102 ?_
          refine mw_aload i_102_104 (L := MO) rfl ?_
          refine mw_get i_102_105 (MK_o hM) (v := nI (dn σ)) ((rs hm (by decide)).trans hV.2.2.1.1) ?_
          have eA : tN σ (who σ c (mO σ) (2 * (Os σ k / 2))) = (who σ c (mO σ) (2 * (Os σ k / 2))) := tN_n c2.1.2.1
          have eB : tN σ (who σ c (mO σ) (2 * (Os σ k / 2) + 1)) = (who σ c (mO σ) (2 * (Os σ k / 2) + 1)) := tN_n c2.1.2.2
          refine mw_callV i_102_106 mf_87 (as := [pI (nI (tN σ (who σ c (mO σ) (2 * (Os σ k / 2) + 1)))), pI (nI (tN σ (who σ c (mO σ) (2 * (Os σ k / 2))))), pI (nI (dn σ))]) (rest := []) (d' := d9) (b' := b) (ls0 := [some (pR (some MO)), some (pI (nI (tN σ (who σ c (mO σ) (2 * (Os σ k / 2) + 1))))), some (pI (nI (tN σ (who σ c (mO σ) (2 * (Os σ k / 2)))))), some (pI (nI (dn σ)))]) rfl rfl rfl (Nat.le_of_ble_eq_true rfl) (MK_o hM) rfl rfl rfl ?_
          refine m_isBarred hM (by omega) (by omega) ?_
          rw [show bI (nI (dn σ) < I (MA 11) (10 * (tN σ (who σ c (mO σ) (2 * (Os σ k / 2) + 1))) + (tN σ (who σ c (mO σ) (2 * (Os σ k / 2))))) ∨ nI (dn σ) < I (MA 12) (tN σ (who σ c (mO σ) (2 * (Os σ k / 2) + 1)))) = bI (brM σ (Os σ k / 2) (who σ c (mO σ) (2 * (Os σ k / 2))) (who σ c (mO σ) (2 * (Os σ k / 2) + 1))) from by rw [eA, eB, rm hm (by decide) (10 * (who σ c (mO σ) (2 * (Os σ k / 2) + 1)) + (who σ c (mO σ) (2 * (Os σ k / 2)))), rm hm (by decide) (who σ c (mO σ) (2 * (Os σ k / 2) + 1))]; unfold brM brd; first | rw [if_pos (by assumption)] | rw [if_neg (by assumption)]]
          refine aft_v ?_
          refine mw_eqB i_102_107 rfl (fun c7 => ?_) (fun c7 => ?_)
          · skip
            refine mw_iload i_102_110 (x := smW σ tw c k) rfl ?_
            refine mw_aload i_102_111 (L := MO) rfl ?_
            refine mw_aload i_102_112 (L := MO) rfl ?_
            refine mw_getR i_102_113 (MK_o hM) (q := some (MA 21)) (MK_r hM 21 (by decide)) ?_
            refine mw_aload i_102_114 (L := MO) rfl ?_
            refine mw_get i_102_115 (MK_o hM) (v := nI (dn σ)) ((rs hm (by decide)).trans hV.2.2.1.1) ?_
            refine mw_iald i_102_116 (jn := dn σ) (n := 1000) (by omega) (by omega) (show K (MA 21) = some (7, 1000) from MK_k hM 21 (by decide)) (by decide) (v := nI tw) ((rm hm (by decide) _).trans htw0) ?_
            refine mw_iload i_102_117 (x := nI (tN σ (c k))) rfl ?_
            refine mw_callV i_102_118 mf_110 (as := [pI (nI tw), pI (nI (tN σ (c k)))]) (rest := [pI (smW σ tw c k)]) (d' := d9) (b' := b) (ls0 := [some (pR (some MO)), some (pI (nI tw)), some (pI (nI (tN σ (c k)))), none, none]) rfl rfl rfl (Nat.le_of_ble_eq_true rfl) (MK_o hM) rfl rfl rfl ?_
            refine m_worth hM hm htw4 (by omega) ?_
            rw [show wrt σ tw (tN σ (c k)) = wrt σ tw (c k) from by rw [ecn]]
            refine aft_v ?_
            refine mw_iadd i_102_119 (w := ((smW σ tw c k) + (wrt σ tw (c k)))) rfl ?_
            refine mw_istore i_102_120 (ls' := [some (pR (some MO)), some (pI ((smW σ tw c k) + (wrt σ tw (c k)))), some (pI (nI k)), some (pI (nI (Os σ k / 2))), some (pI (nI (tN σ (who σ c (mO σ) (2 * (Os σ k / 2)))))), some (pI (nI (tN σ (who σ c (mO σ) (2 * (Os σ k / 2) + 1))))), some (pI (nI (tN σ (c k)))), some (pI (bI (c k = pn σ))), some (pI (bI (((¬ hu σ (c k) ∧ ¬ onC σ (dn σ) (nI (c k))) ∧ ¬ (who σ c (mO σ) (2 * (Os σ k / 2))) = pn σ ∧ ¬ (who σ c (mO σ) (2 * (Os σ k / 2) + 1)) = pn σ) ∧ ∀ i, i < k → ¬ c i = c k))), some (pI (bI (σ 19 (36 * dn σ + 6 * (Os σ k / 2) + 2) = nI 0)))]) rfl (Nat.le_of_ble_eq_true rfl) ?_
            refine mw_iinc i_102_121 (x := nI k) (v := nI (k + 1)) (ls' := [some (pR (some MO)), some (pI ((smW σ tw c k) + (wrt σ tw (c k)))), some (pI (nI (k + 1))), some (pI (nI (Os σ k / 2))), some (pI (nI (tN σ (who σ c (mO σ) (2 * (Os σ k / 2)))))), some (pI (nI (tN σ (who σ c (mO σ) (2 * (Os σ k / 2) + 1))))), some (pI (nI (tN σ (c k)))), some (pI (bI (c k = pn σ))), some (pI (bI (((¬ hu σ (c k) ∧ ¬ onC σ (dn σ) (nI (c k))) ∧ ¬ (who σ c (mO σ) (2 * (Os σ k / 2))) = pn σ ∧ ¬ (who σ c (mO σ) (2 * (Os σ k / 2) + 1)) = pn σ) ∧ ∀ i, i < k → ¬ c i = c k))), some (pI (bI (σ 19 (36 * dn σ + 6 * (Os σ k / 2) + 2) = nI 0)))]) rfl (nI_add _ _) rfl ?_
            refine mw_goto i_102_122 ?_
            have hFu : Fu σ c k := fun _ => ⟨c2.1.1, c2.2, c2.1.2.1, c2.1.2.2, c7⟩
            rw [show ((smW σ tw c k) + (wrt σ tw (c k))) = smW σ tw c (k + 1) from by rw [show smW σ tw c (k + 1) = smW σ tw c k + wo σ tw (c k) from rfl, wo_n (by omega)]]
            exact qy hFu _ _ _ _ _ _ _
          · skip
            refine mw_const i_102_108 (v := (-1)) (by decide) ?_
            refine mw_iretI i_102_109 (x := (-1)) rt_102 ?_
            exact qn (fun h => (h hnP).2.2.2.2 c7)
  refine mw_aload i_102_80 (L := MO) rfl ?_
  refine mw_aload i_102_81 (L := MO) rfl ?_
  refine mw_get i_102_82 (MK_o hM) (v := nI (dn σ)) ((rs hm (by decide)).trans hV.2.2.1.1) ?_
  refine mw_iload i_102_83 (x := nI (Os σ k / 2)) rfl ?_
  refine mw_const i_102_84 (v := nI 2) (by decide) ?_
  refine mw_callV i_102_85 mf_81 (as := [pI (nI (dn σ)), pI (nI (Os σ k / 2)), pI (nI 2)]) (rest := []) (d' := d9) (b' := b) (ls0 := [some (pR (some MO)), some (pI (nI (dn σ))), some (pI (nI (Os σ k / 2))), some (pI (nI 2))]) rfl rfl rfl (Nat.le_of_ble_eq_true rfl) (MK_o hM) rfl rfl rfl ?_
  refine m_of hM (by omega) (by omega) (by omega) ?_
  rw [show I (MA 19) (36 * dn σ + 6 * (Os σ k / 2) + 2) = σ 19 (36 * dn σ + 6 * (Os σ k / 2) + 2) from rm hm (by decide) _]
  refine aft_v ?_
  refine mw_if i_102_86 (p := ¬ (σ 19 (36 * dn σ + 6 * (Os σ k / 2) + 2)) = nI 0) Iff.rfl (fun c8 => ?_) (fun c8 => ?_)
  · skip
    refine mw_const i_102_89 (v := nI 0) (by decide) ?_
    rw [show nI 0 = bI (σ 19 (36 * dn σ + 6 * (Os σ k / 2) + 2) = nI 0) from (bI_f (c8)).symm]
    exact J1
  · skip
    refine mw_const i_102_87 (v := nI 1) (by decide) ?_
    refine mw_goto i_102_88 ?_
    rw [show nI 1 = bI (σ 19 (36 * dn σ + 6 * (Os σ k / 2) + 2) = nI 0) from (bI_t ((Classical.not_not.mp c8))).symm]
    exact J1
set_option maxRecDepth 20000 in
theorem m_sum_lp {d b : Nat} {K : KM} {I : IM} {R : RM} {Q : QT} {n0 : Nat} {σ : ST} {c : Nat → Nat} {tw : Nat} (hd : 2 ≤ d) (hM : MK K R) (hm : mv I = σ) (hV : IV n0 σ) (hO : mO σ ≤ 4) (h27 : I MO 27 = nI (mO σ)) (h24 : ∀ i, i < mO σ → I (MA 24) i = nI (Os σ i)) (h26 : ∀ i, i < mO σ → I (MA 26) i = nI (tN σ (c i))) (hc : ∀ i, i < mO σ → c i ≤ pn σ) (htw0 : σ 21 (dn σ) = nI tw) (htw4 : tw < 4)  (q : Q (.inl (some (pI (Vv σ tw c)))) K I R) : ∀ (n k : Nat) (hall : ∀ i, i < k → Fu σ c i) (u3 u4 u5 u6 u7 u8 u9 : Option PV), mO σ - k < n → k ≤ mO σ → Mw d b N_X6_sumOf 4 [some (pR (some MO)), some (pI (smW σ tw c k)), some (pI (nI k)), u3, u4, u5, u6, u7, u8, u9] [] K I R Q := by
  obtain ⟨d9, rfl⟩ : ∃ d9, d = d9 + 1 := ⟨d - 1, by omega⟩
  intro n
  induction n with
  | zero => intro k hall u3 u4 u5 u6 u7 u8 u9 hn; exact absurd hn (Nat.not_lt_zero _)
  | succ n ih =>
    intro k hall u3 u4 u5 u6 u7 u8 u9 hn hi
    have hpp := hV.1.2
    have htt := hV.2.1.2
    have hdd := hV.2.2.1.2
    have h6 := (hV.2.2.2.2.2.1 (dn σ) (by omega)).2.1
    have hOl : ∀ i, i < mO σ → Os σ i < 2 * mn σ (dn σ) := fun i hi => (Os_lt hi).1
    refine mw_iload i_102_4 (x := nI k) rfl ?_
    refine mw_aload i_102_5 (L := MO) rfl ?_
    refine mw_get i_102_6 (MK_o hM) (v := nI (mO σ)) h27 ?_
    refine mw_ic i_102_7 (p := (mO σ) ≤ k) (nI_leI (by omega) (by omega)) (fun c1 => ?_) (fun c1 => ?_)
    · skip
      refine mw_iload i_102_123 (x := smW σ tw c k) rfl ?_
      refine mw_iretI i_102_124 (x := smW σ tw c k) rt_102 ?_
      obtain rfl : k = mO σ := by omega
      rw [show Vv σ tw c = smW σ tw c (mO σ) from if_pos ((PVd_Fu hV).mpr hall)] at q
      exact q
    · skip
      have hk : k < mO σ := by omega
      have hcl := hc k hk
      have hokk := hOl k hk
      have hA := who_lt hV hc (s := 2 * (Os σ k / 2)) (by omega)
      have hB := who_lt hV hc (s := 2 * (Os σ k / 2) + 1) (by omega)
      have hck10 := tN_le hpp hcl
      have hA10 := tN_le hpp hA
      have hB10 := tN_le hpp hB
      refine mw_aload i_102_8 (L := MO) rfl ?_
      refine mw_getR i_102_9 (MK_o hM) (q := some (MA 24)) (MK_r hM 24 (by decide)) ?_
      refine mw_iload i_102_10 (x := nI k) rfl ?_
      refine mw_iald i_102_11 (jn := k) (n := 4) (by omega) (by omega) (show K (MA 24) = some (7, 4) from MK_k hM 24 (by decide)) (by decide) (v := nI (Os σ k)) (h24 k (by omega)) ?_
      refine mw_const i_102_12 (v := nI 2) (by decide) ?_
      refine mw_idiv i_102_13 (by decide) (w := nI ((Os σ k) / 2)) (pk_div (by omega) (by omega) (by omega)) ?_
      refine mw_istore i_102_14 (ls' := [some (pR (some MO)), some (pI (smW σ tw c k)), some (pI (nI k)), some (pI (nI ((Os σ k) / 2))), u4, u5, u6, u7, u8, u9]) rfl (Nat.le_of_ble_eq_true rfl) ?_
      refine mw_aload i_102_15 (L := MO) rfl ?_
      refine mw_iload i_102_16 (x := nI ((Os σ k) / 2)) rfl ?_
      refine mw_const i_102_17 (v := nI 0) (by decide) ?_
      refine mw_callV i_102_18 mf_101 (as := [pI (nI ((Os σ k) / 2)), pI (nI 0)]) (rest := []) (d' := d9) (b' := b) (ls0 := [some (pR (some MO)), some (pI (nI ((Os σ k) / 2))), some (pI (nI 0)), none, none]) rfl rfl rfl (Nat.le_of_ble_eq_true rfl) (MK_o hM) rfl rfl rfl ?_
      refine m_would (M := Os σ k / 2) (p := 0) (by omega) hM hm hV hO h27 h24 h26 hc (by omega) (by omega) ?_
      refine aft_v ?_
      refine mw_istore i_102_19 (ls' := [some (pR (some MO)), some (pI (smW σ tw c k)), some (pI (nI k)), some (pI (nI ((Os σ k) / 2))), some (pI (nI (tN σ (who σ c (mO σ) (2 * (Os σ k / 2)))))), u5, u6, u7, u8, u9]) rfl (Nat.le_of_ble_eq_true rfl) ?_
      refine mw_aload i_102_20 (L := MO) rfl ?_
      refine mw_iload i_102_21 (x := nI ((Os σ k) / 2)) rfl ?_
      refine mw_const i_102_22 (v := nI 1) (by decide) ?_
      refine mw_callV i_102_23 mf_101 (as := [pI (nI ((Os σ k) / 2)), pI (nI 1)]) (rest := []) (d' := d9) (b' := b) (ls0 := [some (pR (some MO)), some (pI (nI ((Os σ k) / 2))), some (pI (nI 1)), none, none]) rfl rfl rfl (Nat.le_of_ble_eq_true rfl) (MK_o hM) rfl rfl rfl ?_
      refine m_would (M := Os σ k / 2) (p := 1) (by omega) hM hm hV hO h27 h24 h26 hc (by omega) (by omega) ?_
      refine aft_v ?_
      refine mw_istore i_102_24 (ls' := [some (pR (some MO)), some (pI (smW σ tw c k)), some (pI (nI k)), some (pI (nI ((Os σ k) / 2))), some (pI (nI (tN σ (who σ c (mO σ) (2 * (Os σ k / 2)))))), some (pI (nI (tN σ (who σ c (mO σ) (2 * (Os σ k / 2) + 1))))), u6, u7, u8, u9]) rfl (Nat.le_of_ble_eq_true rfl) ?_
      refine mw_aload i_102_25 (L := MO) rfl ?_
      refine mw_getR i_102_26 (MK_o hM) (q := some (MA 26)) (MK_r hM 26 (by decide)) ?_
      refine mw_iload i_102_27 (x := nI k) rfl ?_
      refine mw_iald i_102_28 (jn := k) (n := 4) (by omega) (by omega) (show K (MA 26) = some (7, 4) from MK_k hM 26 (by decide)) (by decide) (v := nI (tN σ (c k))) (h26 k (by omega)) ?_
      refine mw_istore i_102_29 (ls' := [some (pR (some MO)), some (pI (smW σ tw c k)), some (pI (nI k)), some (pI (nI ((Os σ k) / 2))), some (pI (nI (tN σ (who σ c (mO σ) (2 * (Os σ k / 2)))))), some (pI (nI (tN σ (who σ c (mO σ) (2 * (Os σ k / 2) + 1))))), some (pI (nI (tN σ (c k)))), u7, u8, u9]) rfl (Nat.le_of_ble_eq_true rfl) ?_
      have J2 : Mw (d9 + 1) b 102 36 [some (pR (some MO)), some (pI (smW σ tw c k)), some (pI (nI k)), some (pI (nI ((Os σ k) / 2))), some (pI (nI (tN σ (who σ c (mO σ) (2 * (Os σ k / 2)))))), some (pI (nI (tN σ (who σ c (mO σ) (2 * (Os σ k / 2) + 1))))), some (pI (nI (tN σ (c k)))), u7, u8, u9] [pI (bI (c k = pn σ))] K I R Q := by
        refine mw_istore i_102_36 (ls' := [some (pR (some MO)), some (pI (smW σ tw c k)), some (pI (nI k)), some (pI (nI ((Os σ k) / 2))), some (pI (nI (tN σ (who σ c (mO σ) (2 * (Os σ k / 2)))))), some (pI (nI (tN σ (who σ c (mO σ) (2 * (Os σ k / 2) + 1))))), some (pI (nI (tN σ (c k)))), some (pI (bI (c k = pn σ))), u8, u9]) rfl (Nat.le_of_ble_eq_true rfl) ?_
        refine mw_iload i_102_37 (x := bI (c k = pn σ)) rfl ?_
        refine mw_neB i_102_38 rfl (fun c3 => ?_) (fun c3 => ?_)
        · skip
          refine mw_iinc i_102_121 (x := nI k) (v := nI (k + 1)) (ls' := [some (pR (some MO)), some (pI (smW σ tw c k)), some (pI (nI (k + 1))), some (pI (nI ((Os σ k) / 2))), some (pI (nI (tN σ (who σ c (mO σ) (2 * (Os σ k / 2)))))), some (pI (nI (tN σ (who σ c (mO σ) (2 * (Os σ k / 2) + 1))))), some (pI (nI (tN σ (c k)))), some (pI (bI (c k = pn σ))), u8, u9]) rfl (nI_add _ _) rfl ?_
          refine mw_goto i_102_122 ?_
          rw [show smW σ tw c k = smW σ tw c (k + 1) from by rw [show smW σ tw c (k + 1) = smW σ tw c k + wo σ tw (c k) from rfl, c3, wo_P, add0]]
          exact ih (k + 1) (fun i hi9 => by
            by_cases e9 : i = k
            · rw [e9]; exact fun h9 => absurd c3 h9
            · exact hall i (by omega)) _ _ _ _ _ _ _ (by omega) (by omega)
        · skip
          have ecn : tN σ (c k) = c k := tN_n c3
          have hlt9 : c k < pn σ := by omega
          have J4 : Mw (d9 + 1) b 102 60 [some (pR (some MO)), some (pI (smW σ tw c k)), some (pI (nI k)), some (pI (nI ((Os σ k) / 2))), some (pI (nI (tN σ (who σ c (mO σ) (2 * (Os σ k / 2)))))), some (pI (nI (tN σ (who σ c (mO σ) (2 * (Os σ k / 2) + 1))))), some (pI (nI (tN σ (c k)))), some (pI (bI (c k = pn σ))), u8, u9] [pI (bI ((¬ hu σ (c k) ∧ ¬ onC σ (dn σ) (nI (c k))) ∧ ¬ (who σ c (mO σ) (2 * (Os σ k / 2))) = pn σ ∧ ¬ (who σ c (mO σ) (2 * (Os σ k / 2) + 1)) = pn σ))] K I R Q := by
            refine mw_istore i_102_60 (ls' := [some (pR (some MO)), some (pI (smW σ tw c k)), some (pI (nI k)), some (pI (nI ((Os σ k) / 2))), some (pI (nI (tN σ (who σ c (mO σ) (2 * (Os σ k / 2)))))), some (pI (nI (tN σ (who σ c (mO σ) (2 * (Os σ k / 2) + 1))))), some (pI (nI (tN σ (c k)))), some (pI (bI (c k = pn σ))), some (pI (bI ((¬ hu σ (c k) ∧ ¬ onC σ (dn σ) (nI (c k))) ∧ ¬ (who σ c (mO σ) (2 * (Os σ k / 2))) = pn σ ∧ ¬ (who σ c (mO σ) (2 * (Os σ k / 2) + 1)) = pn σ))), u9]) rfl (Nat.le_of_ble_eq_true rfl) ?_
            refine mw_const i_102_61 (v := nI 0) (by decide) ?_
            refine mw_istore i_102_62 (ls' := [some (pR (some MO)), some (pI (smW σ tw c k)), some (pI (nI k)), some (pI (nI ((Os σ k) / 2))), some (pI (nI (tN σ (who σ c (mO σ) (2 * (Os σ k / 2)))))), some (pI (nI (tN σ (who σ c (mO σ) (2 * (Os σ k / 2) + 1))))), some (pI (nI (tN σ (c k)))), some (pI (bI (c k = pn σ))), some (pI (bI ((¬ hu σ (c k) ∧ ¬ onC σ (dn σ) (nI (c k))) ∧ ¬ (who σ c (mO σ) (2 * (Os σ k / 2))) = pn σ ∧ ¬ (who σ c (mO σ) (2 * (Os σ k / 2) + 1)) = pn σ))), some (pI (nI 0))]) rfl (Nat.le_of_ble_eq_true rfl) ?_
            have z0 : bI ((¬ hu σ (c k) ∧ ¬ onC σ (dn σ) (nI (c k))) ∧ ¬ (who σ c (mO σ) (2 * (Os σ k / 2))) = pn σ ∧ ¬ (who σ c (mO σ) (2 * (Os σ k / 2) + 1)) = pn σ) = bI (((¬ hu σ (c k) ∧ ¬ onC σ (dn σ) (nI (c k))) ∧ ¬ (who σ c (mO σ) (2 * (Os σ k / 2))) = pn σ ∧ ¬ (who σ c (mO σ) (2 * (Os σ k / 2) + 1)) = pn σ) ∧ ∀ i, i < 0 → ¬ c i = c k) := bI_congr ⟨fun h => ⟨h, fun i hi9 => absurd hi9 (Nat.not_lt_zero _)⟩, fun h => h.1⟩
            rw [z0]
            refine m_sum_lj hM hm hV hO h27 h24 h26 hc hk c3 (m_sum80 (by omega) hM hm hV hO h27 h24 h26 hc hk c3 htw0 htw4 (fun h => ?_) (fun h u3 u4 u5 u6 u7 u8 u9 => ?_)) (k + 1) 0 (by omega) (by omega)
            · rw [show Vv σ tw c = (-1) from if_neg (fun h9 => h ((PVd_Fu hV).mp h9 k hk))] at q
              exact q
            · exact ih (k + 1) (fun i hi9 => by
                by_cases e9 : i = k
                · rw [e9]; exact h
                · exact hall i (by omega)) u3 u4 u5 u6 u7 u8 u9 (by omega) (by omega)
          refine mw_aload i_102_39 (L := MO) rfl ?_
          refine mw_iload i_102_40 (x := nI (tN σ (c k))) rfl ?_
          refine mw_aload i_102_41 (L := MO) rfl ?_
          refine mw_get i_102_42 (MK_o hM) (v := nI (dn σ)) ((rs hm (by decide)).trans hV.2.2.1.1) ?_
          refine mw_callV i_102_43 mf_82 (as := [pI (nI (tN σ (c k))), pI (nI (dn σ))]) (rest := []) (d' := d9) (b' := b) (ls0 := [some (pR (some MO)), some (pI (nI (tN σ (c k)))), some (pI (nI (dn σ)))]) rfl rfl rfl (Nat.le_of_ble_eq_true rfl) (MK_o hM) rfl rfl rfl ?_
          refine m_isHurt hM (by omega) ?_
          rw [show bI (nI (dn σ) < I (MA 6) (tN σ (c k))) = bI (hu σ (c k)) from by rw [ecn, rm hm (by decide) (c k)]; rfl]
          refine aft_v ?_
          refine mw_neB i_102_44 rfl (fun c5 => ?_) (fun c5 => ?_)
          · skip
            refine mw_const i_102_59 (v := nI 0) (by decide) ?_
            rw [show nI 0 = bI ((¬ hu σ (c k) ∧ ¬ onC σ (dn σ) (nI (c k))) ∧ ¬ (who σ c (mO σ) (2 * (Os σ k / 2))) = pn σ ∧ ¬ (who σ c (mO σ) (2 * (Os σ k / 2) + 1)) = pn σ) from (bI_f ((fun h => h.1.1 c5))).symm]
            exact J4
          · skip
            refine mw_aload i_102_45 (L := MO) rfl ?_
            refine mw_aload i_102_46 (L := MO) rfl ?_
            refine mw_get i_102_47 (MK_o hM) (v := nI (dn σ)) ((rs hm (by decide)).trans hV.2.2.1.1) ?_
            refine mw_iload i_102_48 (x := nI (tN σ (c k))) rfl ?_
            refine mw_callV i_102_49 mf_90 (as := [pI (nI (dn σ)), pI (nI (tN σ (c k)))]) (rest := []) (d' := d9) (b' := b) (ls0 := [some (pR (some MO)), some (pI (nI (dn σ))), some (pI (nI (tN σ (c k)))), none, none]) rfl rfl rfl (Nat.le_of_ble_eq_true rfl) (MK_o hM) rfl rfl rfl ?_
            refine m_onCard (by omega) hM hm hV (by omega) ?_
            rw [show bI (onC σ (dn σ) (nI (tN σ (c k)))) = bI (onC σ (dn σ) (nI (c k))) from by rw [ecn]]
            refine aft_v ?_
            refine mw_neB i_102_50 rfl (fun c6 => ?_) (fun c6 => ?_)
            · skip
              refine mw_const i_102_59 (v := nI 0) (by decide) ?_
              rw [show nI 0 = bI ((¬ hu σ (c k) ∧ ¬ onC σ (dn σ) (nI (c k))) ∧ ¬ (who σ c (mO σ) (2 * (Os σ k / 2))) = pn σ ∧ ¬ (who σ c (mO σ) (2 * (Os σ k / 2) + 1)) = pn σ) from (bI_f ((fun h => h.1.2 c6))).symm]
              exact J4
            · skip
              refine mw_iload i_102_51 (x := nI (tN σ (who σ c (mO σ) (2 * (Os σ k / 2))))) rfl ?_
              refine mw_const i_102_52 (v := nI 10) (by decide) ?_
              refine mw_ic i_102_53 (p := (tN σ (who σ c (mO σ) (2 * (Os σ k / 2)))) = 10) (nI_eq (by omega) (by omega)) (fun c7 => ?_) (fun c7 => ?_)
              · skip
                refine mw_const i_102_59 (v := nI 0) (by decide) ?_
                rw [show nI 0 = bI ((¬ hu σ (c k) ∧ ¬ onC σ (dn σ) (nI (c k))) ∧ ¬ (who σ c (mO σ) (2 * (Os σ k / 2))) = pn σ ∧ ¬ (who σ c (mO σ) (2 * (Os σ k / 2) + 1)) = pn σ) from (bI_f ((fun h => h.2.1 ((tN_10 hpp hA).mp c7)))).symm]
                exact J4
              · skip
                refine mw_iload i_102_54 (x := nI (tN σ (who σ c (mO σ) (2 * (Os σ k / 2) + 1)))) rfl ?_
                refine mw_const i_102_55 (v := nI 10) (by decide) ?_
                refine mw_ic i_102_56 (p := (tN σ (who σ c (mO σ) (2 * (Os σ k / 2) + 1))) = 10) (nI_eq (by omega) (by omega)) (fun c8 => ?_) (fun c8 => ?_)
                · skip
                  refine mw_const i_102_59 (v := nI 0) (by decide) ?_
                  rw [show nI 0 = bI ((¬ hu σ (c k) ∧ ¬ onC σ (dn σ) (nI (c k))) ∧ ¬ (who σ c (mO σ) (2 * (Os σ k / 2))) = pn σ ∧ ¬ (who σ c (mO σ) (2 * (Os σ k / 2) + 1)) = pn σ) from (bI_f ((fun h => h.2.2 ((tN_10 hpp hB).mp c8)))).symm]
                  exact J4
                · skip
                  refine mw_const i_102_57 (v := nI 1) (by decide) ?_
                  refine mw_goto i_102_58 ?_
                  rw [show nI 1 = bI ((¬ hu σ (c k) ∧ ¬ onC σ (dn σ) (nI (c k))) ∧ ¬ (who σ c (mO σ) (2 * (Os σ k / 2))) = pn σ ∧ ¬ (who σ c (mO σ) (2 * (Os σ k / 2) + 1)) = pn σ) from (bI_t (⟨⟨c5, c6⟩, fun h => c7 ((tN_10 hpp hA).mpr h), fun h => c8 ((tN_10 hpp hB).mpr h)⟩)).symm]
                  exact J4
      refine mw_iload i_102_30 (x := nI (tN σ (c k))) rfl ?_
      refine mw_const i_102_31 (v := nI 10) (by decide) ?_
      refine mw_ic i_102_32 (p := ¬ (tN σ (c k)) = 10) (not_congr (nI_eq (by omega) (by omega))) (fun c9 => ?_) (fun c9 => ?_)
      · skip
        refine mw_const i_102_35 (v := nI 0) (by decide) ?_
        rw [show nI 0 = bI (c k = pn σ) from (bI_f ((fun h9 => c9 ((tN_10 hpp hcl).mpr h9)))).symm]
        exact J2
      · skip
        refine mw_const i_102_33 (v := nI 1) (by decide) ?_
        refine mw_goto i_102_34 ?_
        rw [show nI 1 = bI (c k = pn σ) from (bI_t (((tN_10 hpp hcl).mp (Classical.not_not.mp c9)))).symm]
        exact J2
set_option maxRecDepth 20000 in
set_option maxHeartbeats 400000 in
theorem m_sumOf {d b : Nat} {K : KM} {I : IM} {R : RM} {Q : QT} {n0 : Nat} {σ : ST} {c : Nat → Nat} {tw : Nat} (hd : 2 ≤ d) (hM : MK K R) (hm : mv I = σ) (hV : IV n0 σ) (hO : mO σ ≤ 4) (h27 : I MO 27 = nI (mO σ)) (h24 : ∀ i, i < mO σ → I (MA 24) i = nI (Os σ i)) (h26 : ∀ i, i < mO σ → I (MA 26) i = nI (tN σ (c i))) (hc : ∀ i, i < mO σ → c i ≤ pn σ) (htw0 : σ 21 (dn σ) = nI tw) (htw4 : tw < 4)  (q : Q (.inl (some (pI (Vv σ tw c)))) K I R) : Mw d b N_X6_sumOf 0 [some (pR (some MO)), none, none, none, none, none, none, none, none, none] [] K I R Q := by
  obtain ⟨d9, rfl⟩ : ∃ d9, d = d9 + 1 := ⟨d - 1, by omega⟩
  refine mw_const i_102_0 (v := nI 0) (by decide) ?_
  refine mw_istore i_102_1 (ls' := [some (pR (some MO)), some (pI (nI 0)), none, none, none, none, none, none, none, none]) rfl (Nat.le_of_ble_eq_true rfl) ?_
  refine mw_const i_102_2 (v := nI 0) (by decide) ?_
  refine mw_istore i_102_3 (ls' := [some (pR (some MO)), some (pI (nI 0)), some (pI (nI 0)), none, none, none, none, none, none, none]) rfl (Nat.le_of_ble_eq_true rfl) ?_
  exact m_sum_lp (by omega) hM hm hV hO h27 h24 h26 hc htw0 htw4 q (mO σ + 1) 0 (fun i hi9 => absurd hi9 (Nat.not_lt_zero _)) _ _ _ _ _ _ _ (by omega) (by omega)
