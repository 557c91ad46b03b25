/-! what the numbers keep, kept by each change: book, hurt, head, promo, pass, play -/
theorem bk_19 {σ : ST} {x t f s : Nat} {pb : Prop} {mi ti : Int32} {j : Nat} (h : j < 36 * x + 6 * mn σ x ∨ 36 * x + 6 * mn σ x + 6 ≤ j) : bkS σ x t f s pb mi ti 19 j = σ 19 j := by
  unfold bkS
  rw [ups_ne (by decide), ups_ne (by decide)]
  simp only [ups_at]
  rw [upd_ne (by omega), upd_ne (by omega), upd_ne (by omega), upd_ne (by omega), upd_ne (by omega), upd_ne (by omega)]
theorem bk_row {σ : ST} {x t f s : Nat} {pb : Prop} {mi ti : Int32} : bkS σ x t f s pb mi ti 19 (36 * x + 6 * mn σ x) = nI f ∧ bkS σ x t f s pb mi ti 19 (36 * x + 6 * mn σ x + 1) = nI s ∧ bkS σ x t f s pb mi ti 19 (36 * x + 6 * mn σ x + 2) = bI (¬ pb) ∧ bkS σ x t f s pb mi ti 19 (36 * x + 6 * mn σ x + 3) = mi ∧ bkS σ x t f s pb mi ti 19 (36 * x + 6 * mn σ x + 4) = ti ∧ bkS σ x t f s pb mi ti 19 (36 * x + 6 * mn σ x + 5) = nI 0 := by
  unfold bkS
  rw [ups_ne (show 19 ≠ 20 by decide), ups_ne (show 19 ≠ 21 by decide)]
  simp only [ups_at]
  refine ⟨?_, ?_, ?_, ?_, ?_, ?_⟩
  · rw [upd_ne (by omega), upd_ne (by omega), upd_ne (by omega), upd_ne (by omega), upd_ne (by omega), upd_at]
  · rw [upd_ne (by omega), upd_ne (by omega), upd_ne (by omega), upd_ne (by omega), upd_at]
  · rw [upd_ne (by omega), upd_ne (by omega), upd_ne (by omega), upd_at]
  · rw [upd_ne (by omega), upd_ne (by omega), upd_at]
  · rw [upd_ne (by omega), upd_at]
  · rw [upd_at]
theorem bk_20 {σ : ST} {x t f s : Nat} {pb : Prop} {mi ti : Int32} : bkS σ x t f s pb mi ti 20 = upd (σ 20) x (nI (mn σ x + 1)) := by
  unfold bkS
  rw [ups_at, ups_ne (by decide), ups_ne (by decide), ups_ne (by decide), ups_ne (by decide), ups_ne (by decide), ups_ne (by decide), ups_ne (by decide)]
theorem bk_21 {σ : ST} {x t f s : Nat} {pb : Prop} {mi ti : Int32} : bkS σ x t f s pb mi ti 21 = upd (σ 21) x (nI t) := by
  unfold bkS
  rw [ups_ne (by decide), ups_at, ups_ne (by decide), ups_ne (by decide), ups_ne (by decide), ups_ne (by decide), ups_ne (by decide), ups_ne (by decide)]
theorem IV_bk {n : Nat} {σ : ST} (h : IV n σ) {x t f s : Nat} {pb : Prop} {mi ti : Int32} (hx : x < 1000) (ht : t < 4) (hf : f < pn σ) (hs : s < pn σ) (hti : ti = (-1) ∨ isN ti (tn σ)) (hmi : inr mi (nI 1) (nI 60)) (hfs : ¬ f = s) (h0 : σ 22 x = nI 0) (h6 : mn σ x < 6) (hnt : ¬ hTi σ x ti) : IV n (bkS σ x t f s pb mi ti) := by
  have hp := h.1.2
  have emx : mn (bkS σ x t f s pb mi ti) x = mn σ x + 1 := by
    show (bkS σ x t f s pb mi ti 20 x).toNatClampNeg = _
    rw [bk_20, upd_at]; exact nI_clamp (by omega)
  have ep : pn (bkS σ x t f s pb mi ti) = pn σ := by unfold pn; rw [bk_o (by omega)]
  have et : tn (bkS σ x t f s pb mi ti) = tn σ := by unfold tn; rw [bk_o (by omega)]
  have ed : dn (bkS σ x t f s pb mi ti) = dn σ := by unfold dn; rw [bk_o (by omega)]
  have ero : ∀ d, d ≠ x → ∀ j, j < 6 → ∀ q, q < 6 → bkS σ x t f s pb mi ti 19 (36 * d + 6 * j + q) = σ 19 (36 * d + 6 * j + q) := fun d hd j hj q hq => bk_19 (by omega)
  refine IV_mk h (fun k hk => bk_o (by omega)) (fun w hw => IVw_eq (h.2.2.2.1 w hw) (Nat.le_refl _) (fun k hk => bk_o (by omega))) (ln_eq h.2.2.2.2.1 (Nat.le_refl _) (bk_o (by omega))) (fun d hd => ?_) (IVb_c h.2.2.2.2.2.2 (fun k hk => bk_o (by omega)) h0 (fun d hd => ⟨by show (bkS σ x t f s pb mi ti 20 d).toNatClampNeg = (σ 20 d).toNatClampNeg; rw [bk_20, upd_ne hd], ero d hd⟩) (fun d hd => (h.2.2.2.2.2.1 d hd).2.1))
  by_cases e : d = x
  · subst e
    obtain ⟨c1, c2, c3, c4, c5, c6⟩ := h.2.2.2.2.2.1 d hd
    have r := bk_row (σ := σ) (x := d) (t := t) (f := f) (s := s) (pb := pb) (mi := mi) (ti := ti)
    have old : ∀ i, i < mn σ d → bkS σ d t f s pb mi ti 19 (36 * d + 6 * i + 4) = σ 19 (36 * d + 6 * i + 4) := fun i hi => bk_19 (by omega)
    unfold IVc
    rw [emx, bk_20, upd_at, bk_21, upd_at, bk_o (k := 22) (by omega), ed]
    refine ⟨rfl, by omega, c3, fun _ => ⟨t, ht, rfl⟩, fun j hj => ?_, fun i j hi hj hij => ?_⟩
    · by_cases e2 : j = mn σ d
      · subst e2
        unfold IVm
        rw [ep, et, r.1, r.2.1, r.2.2.1, r.2.2.2.1, r.2.2.2.2.1, r.2.2.2.2.2]
        refine ⟨⟨f, hf, rfl⟩, ⟨s, hs, rfl⟩, fun q => hfs (nI_inj q (by omega) (by omega)), ?_, ?_, hti, Or.inl rfl⟩
        · by_cases q : pb
          · exact Or.inl (bI_f (fun a => a q))
          · exact Or.inr (bI_t q)
        · obtain ⟨j, hj, ej⟩ := (inr_isN (x := mi) (n := 60) (by decide)).mp ⟨by
            have := Int32.le_iff_toInt_le.mp hmi.1
            rw [nI_toInt (by decide)] at this
            rw [Int32.le_iff_toInt_le, nI_toInt (by decide)]
            omega, hmi.2⟩
          exact ⟨j, by omega, ej⟩
      · exact IVm_row (c5 j (by omega)) ep et (fun q hq => bk_19 (by omega))
    · by_cases ei : i = mn σ d
      · rw [ei, r.2.2.2.2.1, old j (by omega)]
        intro q
        exact Classical.byContradiction (fun q2 => hnt ⟨j, by omega, q2, q.symm⟩)
      · rw [old i (by omega)]
        by_cases ej : j = mn σ d
        · rw [ej, r.2.2.2.2.1]
          intro q
          rw [q]
          exact Classical.byContradiction (fun q2 => hnt ⟨i, by omega, q2, q⟩)
        · rw [old j (by omega)]
          exact c6 i j (by omega) (by omega) hij
  · exact IVc_o (h.2.2.2.2.2.1 d hd) (fun k hk => bk_o (by omega)) (by rw [bk_20, upd_ne e]) (by rw [bk_21, upd_ne e]) (ero d e)
/-- injuries -/
theorem hr_o {σ : ST} {w : Nat} {bf : Int32} {k : Nat} (h : k ≠ 6 ∧ k ≠ 15 ∧ k ≠ 16 ∧ k ≠ 17) : hrS σ w bf k = σ k := by
  unfold hrS
  split
  · rw [va_o (by omega) (by omega) (by omega), ups_ne (by omega)]
  · rw [ups_ne (by omega)]
theorem hr_ln {σ : ST} {n w : Nat} {bf : Int32} (hn : n < 512) (h : ∀ t, t < 4 → σ 17 t = nI (lnO σ t) ∧ lnO σ t ≤ n) : ∀ t, t < 4 → hrS σ w bf 17 t = nI (lnO (hrS σ w bf) t) ∧ lnO (hrS σ w bf) t ≤ n + 1 := by
  have h9 : ∀ t, t < 4 → ups σ 6 w (mxo σ w bf) 17 t = nI (lnO (ups σ 6 w (mxo σ w bf)) t) ∧ lnO (ups σ 6 w (mxo σ w bf)) t ≤ n := ln_eq h (Nat.le_refl _) (ups_ne (by decide))
  unfold hrS
  split
  · exact va_ln hn h9 (tn σ)
  · intro t ht
    exact ⟨(h9 t ht).1, by have := (h9 t ht).2; omega⟩
theorem IV_hr {n : Nat} {σ : ST} (hn : n < 512) (h17 : ∀ t, t < 4 → σ 17 t = nI (lnO σ t) ∧ lnO σ t ≤ n) (h : IV (n + 1) σ) {w : Nat} {bf : Int32} : IV (n + 1) (hrS σ w bf) := IV_mk h (fun k hk => hr_o (by omega)) (fun w hw => IVw_eq (h.2.2.2.1 w hw) (Nat.le_refl _) (fun k hk => hr_o (by omega))) (hr_ln hn h17) (fun d hd => IVc_eq (fun k hk => hr_o (by omega)) (h.2.2.2.2.2.1 d hd)) (IVb_eq h.2.2.2.2.2.2 (fun k hk => hr_o (by omega)))
theorem IV_head {n : Nat} {σ : ST} (hn : n < 512) (h : IV n σ) {x : Nat} : IV (n + 1) (hdS σ x) := by
  have o : ∀ k, k ≠ 7 → ups σ 7 x (σ 7 x + nI 1) k = σ k := fun k hk => ups_ne hk
  unfold hdS
  refine IV_hr hn (ln_eq h.2.2.2.2.1 (Nat.le_refl _) (o 17 (by decide))) (IV_w h (by omega) (fun k hk => o k (by omega)) (fun w hw => ?_))
  have a := h.2.2.2.1 w hw
  refine IVw_mk a (by omega) (Or.inl (by rw [o 1 (by omega)])) (Or.inl (by rw [o 2 (by omega)])) (Or.inl (by rw [o 3 (by omega)])) (Or.inl (by rw [o 5 (by omega)])) ?_ (fun t _ => Or.inl (by rw [o 4 (by omega)])) (fun q _ => Or.inl (by rw [o 11 (by omega)])) (fun q => by rw [o 10 (by omega)]; exact a.2.2.2.2.2.2.2 (by unfold pn at *; rw [o 14 (by omega)] at q; exact q))
  by_cases e : w = x
  · subst e
    obtain ⟨s, hs, es⟩ := a.2.2.2.2.1
    right
    exact ⟨s + 1, by omega, by rw [ups_at, upd_at, es]; exact nI_add _ _⟩
  · left; rw [ups_at, upd_ne e]
/-- promo -/
theorem pr_o {σ : ST} {t x : Nat} {sl : Int32} {k : Nat} (h : k ≠ 3 ∧ k ≠ 4 ∧ k ≠ 10) : prS σ t x sl k = σ k := by
  unfold prS trS lov
  rw [ups_ne (by omega), ups_ne (by omega), ups_ne (by omega)]
theorem IV_pr {n : Nat} {σ : ST} (h : IV n σ) {t x : Nat} {sl : Int32} (hx : x < pn σ) : IV (n + 1) (prS σ t x sl) := by
  have hp := h.1.2
  refine IV_w h (by omega) (fun k hk => pr_o (by omega)) (fun w hw => ?_)
  have a := h.2.2.2.1 w hw
  have e3 : prS σ t x sl 3 = upd (σ 3) x (trn (σ 3 x) (cnt (fun q => nI 50 ≤ (lov (ups σ 10 x (nI 1)) t x (pcg σ x sl)) 4 (10 * q + x)) 4) (cnt (fun q => (lov (ups σ 10 x (nI 1)) t x (pcg σ x sl)) 4 (10 * q + x) ≤ (-50)) 4)) := by
    unfold prS trS
    rw [ups_at, show lov (ups σ 10 x (nI 1)) t x (pcg σ x sl) 3 = σ 3 from by unfold lov; rw [ups_ne (by decide), ups_ne (by decide)]]
  have e4 : prS σ t x sl 4 = upd (σ 4) (10 * t + x) (cl99 (σ 4 (10 * t + x) + pcg σ x sl)) := by
    unfold prS trS lov
    rw [ups_ne (by decide), ups_at, ups_ne (by decide)]
  have e10 : prS σ t x sl 10 = upd (σ 10) x (nI 1) := by
    unfold prS trS lov
    rw [ups_ne (by decide), ups_ne (by decide), ups_at]
  refine IVw_mk a (by omega) (Or.inl (by rw [pr_o (by omega)])) (Or.inl (by rw [pr_o (by omega)])) ?_ (Or.inl (by rw [pr_o (by omega)])) (Or.inl (by rw [pr_o (by omega)])) (fun q _ => by rw [e4]; exact upd_or (P := fun v => ∃ u, u ≤ 99 ∧ (v = nI u ∨ v = -nI u)) (cl99_b _)) (fun q _ => Or.inl (by rw [pr_o (by omega)])) (fun q => ?_)
  · rw [e3]
    exact upd_or (P := fun v => v = nI 0 ∨ v = nI 1) (trn_b (h.2.2.2.1 x (by omega)).2.2.1)
  · have q2 : pn σ ≤ w := by unfold pn at *; rw [pr_o (by omega)] at q; exact q
    rw [e10, upd_ne (by omega)]
    exact a.2.2.2.2.2.2.2 q2
/-- pass -/
theorem ps_o {σ : ST} {k : Nat} (h : k ≠ 0 ∧ k ≠ 5 ∧ k ≠ 10 ∧ k ≠ 20) : psS σ k = σ k := by
  unfold psS
  rw [dyS_o (by omega) (by omega), reS_o (by omega), cd_o (by omega)]
theorem rst_b {s : Nat} (h : s < 1073741824) : ∃ u, u ≤ s ∧ rst (nI s) = nI u := by
  unfold rst
  by_cases e : 10 ≤ s
  · rw [pk_sub e]
    split
    · exact ⟨s - 10, by omega, rfl⟩
    · exact ⟨0, by omega, rfl⟩
  · refine ⟨0, by omega, if_neg ?_⟩
    have e3 := pk_sub_toInt (a := s) (b := 10) (by omega) (by decide)
    rw [Int32.lt_iff_toInt_lt, e3, nI_toInt (by decide)]
    omega
theorem IV_ps {n : Nat} {σ : ST} (h : IV n σ) (hn : n < 512) (hd : dn σ < 999) : IV (n + 1) (psS σ) := by
  have hp := h.1.2
  have e0 : psS σ 0 0 = nI (dn σ + 1) := by
    unfold psS dyS
    rw [if_pos rfl, ps_dn]
  have e20 : ∀ d, (psS σ 20 d = σ 20 d) ∨ (psS σ 20 d = nI 0 ∧ d = dn σ ∧ σ 22 d = nI 0) := fun d => by
    unfold psS
    rw [dyS_o (by decide) (by decide), reS_o (by decide)]
    unfold cdS
    split
    · rename_i h9
      rw [ups_at]
      by_cases e : d = dn σ
      · right; rw [e, upd_at]; exact ⟨rfl, rfl, h9⟩
      · left; rw [upd_ne e]
    · exact Or.inl rfl
  have ep : pn (psS σ) = pn σ := by unfold pn; rw [ps_o (by omega)]
  have et : tn (psS σ) = tn σ := by unfold tn; rw [ps_o (by omega)]
  have ed : dn (psS σ) = dn σ + 1 := by unfold dn at *; rw [e0]; exact nI_clamp (by omega)
  refine ⟨?_, ?_, ?_, fun w hw => ?_, ln_eq h.2.2.2.2.1 (by omega) (ps_o (by omega)), fun d hd9 => ?_, ?_⟩
  · rw [ep, ps_o (by omega)]; exact h.1
  · rw [et, ps_o (by omega)]; exact h.2.1
  · rw [ed]; exact ⟨e0, by omega⟩
  · have a := h.2.2.2.1 w hw
    refine IVw_mk a (by omega) (Or.inl (by rw [ps_o (by omega)])) (Or.inl (by rw [ps_o (by omega)])) (Or.inl (by rw [ps_o (by omega)])) ?_ (Or.inl (by rw [ps_o (by omega)])) (fun t _ => Or.inl (by rw [ps_o (by omega)])) (fun o _ => Or.inl (by rw [ps_o (by omega)])) (fun q => ?_)
    · have e5 : psS σ 5 w = if w < pn (cdS σ) then rst (σ 5 w) else σ 5 w := by
        unfold psS
        rw [dyS_o (by decide) (by decide), reS_5, cd_o (by decide)]
      rw [e5]
      split
      · obtain ⟨s, hs, es⟩ := a.2.2.2.1
        obtain ⟨u, hu, eu⟩ := rst_b (s := s) (by omega)
        right
        exact ⟨u, by omega, by rw [es]; exact eu⟩
      · exact Or.inl rfl
    · rw [ep] at q
      unfold psS dyS
      rw [if_neg (by decide), if_pos rfl, ps_pn2, if_neg (by omega), reS_o (by decide), cd_o (by decide)]
      exact a.2.2.2.2.2.2.2 q
  · obtain ⟨c1, c2, c3, c4, c5, c6⟩ := h.2.2.2.2.2.1 d hd9
    rcases e20 d with e | ⟨e, ex, e22⟩
    · have em : mn (psS σ) d = mn σ d := by unfold mn; rw [e]
      unfold IVc
      rw [em, e, ps_o (k := 21) (by omega), ps_o (k := 22) (by omega), ed, ps_o (k := 19) (by omega)]
      exact ⟨c1, c2, c3.imp id (fun q => ⟨q.1, by omega⟩), c4, fun j hj => IVm_up (c5 j hj) (by omega) (by omega) (ps_o (by omega)), c6⟩
    · have em : mn (psS σ) d = 0 := by unfold mn; rw [e]; rfl
      unfold IVc
      rw [em, e, ps_o (k := 22) (by omega)]
      exact ⟨rfl, by omega, Or.inl e22, fun q => absurd rfl q, fun j hj => absurd hj (Nat.not_lt_zero _), fun i j hi => absurd hi (Nat.not_lt_zero _)⟩
  · intro w o hw ho
    rw [ps_o (by omega), h.2.2.2.2.2.2 w o hw ho, ps_o (k := 22) (by omega)]
    refine smI_congr (fun d hd9 => ?_)
    split
    · rename_i h9
      rcases e20 d with e | ⟨e, ex, e22⟩
      · have em : mn (psS σ) d = mn σ d := by unfold mn; rw [e]
        rw [em]
        unfold wcn wnr lsr
        rw [ps_o (k := 19) (by omega)]
      · rw [e22] at h9
        exact absurd h9 (by decide)
    · rfl
