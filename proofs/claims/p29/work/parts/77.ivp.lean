/-! what the numbers keep, kept by each change -/
theorem IVw_mk {n m : Nat} {σ σ' : ST} {w : Nat} (h : IVw n σ w) (hnm : n ≤ m) (c1 : σ' 1 w = σ 1 w ∨ ∃ s, s ≤ 99 ∧ σ' 1 w = nI s) (c2 : σ' 2 w = σ 2 w ∨ ∃ s, s ≤ 99 ∧ σ' 2 w = nI s) (c3 : σ' 3 w = σ 3 w ∨ σ' 3 w = nI 0 ∨ σ' 3 w = nI 1) (c5 : σ' 5 w = σ 5 w ∨ ∃ s, s ≤ 720 * m ∧ σ' 5 w = nI s) (c7 : σ' 7 w = σ 7 w ∨ ∃ s, s ≤ m ∧ σ' 7 w = nI s) (c4 : ∀ t, t < 4 → σ' 4 (10 * t + w) = σ 4 (10 * t + w) ∨ ∃ v, v ≤ 99 ∧ (σ' 4 (10 * t + w) = nI v ∨ σ' 4 (10 * t + w) = -nI v)) (c11 : ∀ o, o < 10 → σ' 11 (10 * w + o) = σ 11 (10 * w + o) ∨ ∃ v, v ≤ 1000 ∧ σ' 11 (10 * w + o) = nI v) (c10 : pn σ' ≤ w → σ' 10 w = nI 0) : IVw m σ' w := by
  obtain ⟨⟨s1, a1, b1⟩, ⟨s2, a2, b2⟩, a3, ⟨s5, a5, b5⟩, ⟨s7, a7, b7⟩, a4, a11, a10⟩ := h
  refine ⟨?_, ?_, ?_, ?_, ?_, fun t ht => ?_, fun o ho => ?_, c10⟩
  · rcases c1 with e | e
    · exact ⟨s1, a1, e.trans b1⟩
    · exact e
  · rcases c2 with e | e
    · exact ⟨s2, a2, e.trans b2⟩
    · exact e
  · rcases c3 with e | e
    · rw [e]; exact a3
    · exact e
  · rcases c5 with e | e
    · exact ⟨s5, by have := Nat.mul_le_mul_left 720 hnm; omega, e.trans b5⟩
    · exact e
  · rcases c7 with e | e
    · exact ⟨s7, by omega, e.trans b7⟩
    · exact e
  · rcases c4 t ht with e | e
    · rw [e]; exact a4 t ht
    · exact e
  · rcases c11 o ho with e | e
    · rw [e]; exact a11 o ho
    · exact e
theorem IVw_eq {n m : Nat} {σ σ' : ST} {w : Nat} (h : IVw n σ w) (hnm : n ≤ m) (e : ∀ k, (k = 1 ∨ k = 2 ∨ k = 3 ∨ k = 4 ∨ k = 5 ∨ k = 7 ∨ k = 10 ∨ k = 11 ∨ k = 14) → σ' k = σ k) : IVw m σ' w :=
  IVw_mk h hnm (Or.inl (by rw [e 1 (by omega)])) (Or.inl (by rw [e 2 (by omega)])) (Or.inl (by rw [e 3 (by omega)])) (Or.inl (by rw [e 5 (by omega)])) (Or.inl (by rw [e 7 (by omega)])) (fun t _ => Or.inl (by rw [e 4 (by omega)])) (fun o _ => Or.inl (by rw [e 11 (by omega)])) (fun q => by rw [e 10 (by omega)]; exact h.2.2.2.2.2.2.2 (by unfold pn at *; rw [e 14 (by omega)] at q; exact q))
theorem IVb_eq {σ σ' : ST} (h : IVb σ) (e : ∀ k, (k = 13 ∨ k = 19 ∨ k = 20 ∨ k = 22) → σ' k = σ k) : IVb σ' := by
  unfold IVb wcn wnr lsr mn at *
  rw [e 13 (by omega), e 19 (by omega), e 20 (by omega), e 22 (by omega)]
  exact h
theorem IV_mk {n m : Nat} {σ σ' : ST} (h : IV n σ) (e : ∀ k, (k = 0 ∨ k = 14 ∨ k = 18) → σ' k = σ k) (hw : ∀ w, w < 10 → IVw m σ' w) (h17 : ∀ t, t < 4 → σ' 17 t = nI (lnO σ' t) ∧ lnO σ' t ≤ m) (hc : ∀ d, d < 1000 → IVc σ' d) (hb : IVb σ') : IV m σ' := by
  refine ⟨?_, ?_, ?_, hw, h17, hc, hb⟩
  · unfold pn; rw [e 14 (by omega)]; exact h.1
  · unfold tn; rw [e 18 (by omega)]; exact h.2.1
  · unfold dn; rw [e 0 (by omega)]; exact h.2.2.1
theorem ln_eq {n m : Nat} {σ σ' : ST} (h : ∀ t, t < 4 → σ 17 t = nI (lnO σ t) ∧ lnO σ t ≤ n) (hnm : n ≤ m) (e : σ' 17 = σ 17) : ∀ t, t < 4 → σ' 17 t = nI (lnO σ' t) ∧ lnO σ' t ≤ m := fun t ht => by
  have := h t ht
  unfold lnO at *
  rw [e]
  exact ⟨this.1, by omega⟩
theorem IV_up {n m : Nat} {σ : ST} (h : IV n σ) (hnm : n ≤ m) : IV m σ := IV_mk h (fun _ _ => rfl) (fun w hw => IVw_eq (h.2.2.2.1 w hw) hnm (fun _ _ => rfl)) (ln_eq h.2.2.2.2.1 hnm rfl) h.2.2.2.2.2.1 h.2.2.2.2.2.2
theorem isN_le {x : Int32} {a b : Nat} (h : isN x a) (hab : a ≤ b) : isN x b := by
  obtain ⟨j, hj, e⟩ := h
  exact ⟨j, by omega, e⟩
theorem isN_99 {x : Int32} (h : isN x 100) : ∃ s, s ≤ 99 ∧ x = nI s := by
  obtain ⟨j, hj, e⟩ := h
  exact ⟨j, by omega, e⟩
theorem upd_or {f : Nat → Int32} {p w : Nat} {v : Int32} {P : Int32 → Prop} (h : P v) : upd f p v w = f w ∨ P (upd f p v w) := by
  by_cases e : w = p
  · subst e; rw [upd_at]; exact Or.inr h
  · rw [upd_ne e]; exact Or.inl rfl
/-- wrestler -/
theorem wr_o {σ : ST} {sk mi ro : Int32} {k : Nat} (h : k ≠ 1 ∧ k ≠ 2 ∧ k ≠ 3 ∧ k ≠ 14) : wrS σ sk mi ro k = σ k := by
  unfold wrS
  rw [sets_ne (by omega), ups_ne (by omega), ups_ne (by omega), ups_ne (by omega)]
theorem IVm_up {σ σ' : ST} {d j : Nat} (h : IVm σ d j) (hp : pn σ ≤ pn σ') (ht : tn σ ≤ tn σ') (e : σ' 19 = σ 19) : IVm σ' d j := by
  unfold IVm at *
  rw [e]
  exact ⟨isN_le h.1 hp, isN_le h.2.1 hp, h.2.2.1, h.2.2.2.1, h.2.2.2.2.1, h.2.2.2.2.2.1.imp id (fun q => isN_le q ht), h.2.2.2.2.2.2⟩
theorem IVc_up {σ σ' : ST} {d : Nat} (h : IVc σ d) (hp : pn σ ≤ pn σ') (ht : tn σ ≤ tn σ') (hd : dn σ ≤ dn σ') (e : ∀ k, (k = 19 ∨ k = 20 ∨ k = 21 ∨ k = 22) → σ' k = σ k) : IVc σ' d := by
  obtain ⟨h1, h2, h3, h4, h5, h6⟩ := h
  have em : mn σ' d = mn σ d := by unfold mn; rw [e 20 (by omega)]
  unfold IVc
  rw [em, e 20 (by omega), e 21 (by omega), e 22 (by omega)]
  refine ⟨h1, h2, h3.imp id (fun q => ⟨q.1, by omega⟩), h4, fun j hj => IVm_up (h5 j hj) hp ht (e 19 (by omega)), ?_⟩
  rw [e 19 (by omega)]
  exact h6
theorem IV_wr {n : Nat} {σ : ST} (h : IV n σ) {sk mi ro : Int32} (h1 : isN sk 100) (h2 : isN mi 100) (h3 : isN ro 2) (hp : pn σ < 10) : IV (n + 1) (wrS σ sk mi ro) := by
  have e1 : wrS σ sk mi ro 1 = upd (σ 1) (pn σ) sk := by unfold wrS; rw [sets_ne (by decide), ups_ne (by decide), ups_ne (by decide), ups_at]
  have e2 : wrS σ sk mi ro 2 = upd (σ 2) (pn σ) mi := by unfold wrS; rw [sets_ne (by decide), ups_ne (by decide), ups_at, ups_ne (by decide)]
  have e3 : wrS σ sk mi ro 3 = upd (σ 3) (pn σ) ro := by unfold wrS; rw [sets_ne (by decide), ups_at, ups_ne (by decide), ups_ne (by decide)]
  have e14 : wrS σ sk mi ro 14 0 = nI (pn σ + 1) := by unfold wrS; rw [sets_at]
  have ep : pn (wrS σ sk mi ro) = pn σ + 1 := by unfold pn at *; rw [e14]; exact nI_clamp (by omega)
  have et : tn (wrS σ sk mi ro) = tn σ := by unfold tn; rw [wr_o (by omega)]
  have ed : dn (wrS σ sk mi ro) = dn σ := by unfold dn; rw [wr_o (by omega)]
  refine ⟨?_, ?_, ?_, fun w hw => ?_, ln_eq h.2.2.2.2.1 (by omega) (wr_o (by omega)), fun d hd => IVc_up (h.2.2.2.2.2.1 d hd) (by omega) (by omega) (by omega) (fun k hk => wr_o (by omega)), IVb_eq h.2.2.2.2.2.2 (fun k hk => wr_o (by omega))⟩
  · rw [ep]; exact ⟨e14, by omega⟩
  · rw [et, wr_o (by omega)]; exact h.2.1
  · rw [ed, wr_o (by omega)]; exact h.2.2.1
  · have hv := h.2.2.2.1 w hw
    refine IVw_mk hv (by omega) (by rw [e1]; exact upd_or (P := fun v => ∃ s, s ≤ 99 ∧ v = nI s) (isN_99 h1)) (by rw [e2]; exact upd_or (P := fun v => ∃ s, s ≤ 99 ∧ v = nI s) (isN_99 h2)) (by rw [e3]; exact upd_or (P := fun v => v = nI 0 ∨ v = nI 1) (by obtain ⟨j, hj, e⟩ := h3; rcases (show j = 0 ∨ j = 1 by omega) with rfl | rfl <;> simp [e])) (Or.inl (by rw [wr_o (by omega)])) (Or.inl (by rw [wr_o (by omega)])) (fun t _ => Or.inl (by rw [wr_o (by omega)])) (fun o _ => Or.inl (by rw [wr_o (by omega)])) (fun q => by rw [wr_o (by omega)]; exact hv.2.2.2.2.2.2.2 (by omega))
/-- title -/
theorem IV_ti {n : Nat} {σ : ST} (h : IV n σ) (ht : tn σ < 4) : IV (n + 1) (tiS σ) := by
  have o : ∀ k, k ≠ 18 → tiS σ k = σ k := fun k hk => by unfold tiS; rw [sets_ne hk]
  have e18 : tiS σ 18 0 = nI (tn σ + 1) := by unfold tiS; rw [sets_at]
  have et : tn (tiS σ) = tn σ + 1 := by unfold tn at *; rw [e18]; exact nI_clamp (by omega)
  have ep : pn (tiS σ) = pn σ := by unfold pn; rw [o 14 (by omega)]
  have ed : dn (tiS σ) = dn σ := by unfold dn; rw [o 0 (by omega)]
  refine ⟨?_, ?_, ?_, fun w hw => IVw_eq (h.2.2.2.1 w hw) (by omega) (fun k hk => o k (by omega)), ln_eq h.2.2.2.2.1 (by omega) (o 17 (by omega)), fun d hd => IVc_up (h.2.2.2.2.2.1 d hd) (by omega) (by omega) (by omega) (fun k hk => o k (by omega)), IVb_eq h.2.2.2.2.2.2 (fun k hk => o k (by omega))⟩
  · rw [ep, o 14 (by omega)]; exact h.1
  · rw [et]; exact ⟨e18, by omega⟩
  · rw [ed, o 0 (by omega)]; exact h.2.2.1
/-- a change that touches the roster's numbers alone -/
theorem IV_w {n m : Nat} {σ σ' : ST} (h : IV n σ) (hnm : n ≤ m) (o : ∀ k, (k = 0 ∨ k = 13 ∨ k = 14 ∨ k = 17 ∨ k = 18 ∨ k = 19 ∨ k = 20 ∨ k = 21 ∨ k = 22) → σ' k = σ k) (hw : ∀ w, w < 10 → IVw m σ' w) : IV m σ' := IV_mk h (fun k hk => o k (by omega)) hw (ln_eq h.2.2.2.2.1 hnm (o 17 (by omega))) (fun d hd => IVc_eq (fun k hk => o k (by omega)) (h.2.2.2.2.2.1 d hd)) (IVb_eq h.2.2.2.2.2.2 (fun k hk => o k (by omega)))
theorem IV_clause {n : Nat} {σ : ST} (h : IV n σ) {x y : Nat} {un : Int32} (hu : inr un (-1) (nI 999)) : IV (n + 1) (ups σ 11 (10 * x + y) (un + nI 1)) := by
  have o : ∀ k, k ≠ 11 → ups σ 11 (10 * x + y) (un + nI 1) k = σ k := fun k hk => ups_ne hk
  have hv : ∃ v, v ≤ 1000 ∧ un + nI 1 = nI v := by
    have h1 := Int32.le_iff_toInt_le.mp hu.1
    have h2 := Int32.le_iff_toInt_le.mp hu.2
    rw [nI_toInt (by omega)] at h2
    have h0 : (-1 : Int32).toInt = -1 := by decide
    rw [h0] at h1
    have e1 : (nI 1).toInt = 1 := nI_toInt (by decide)
    have e : (un + nI 1).toInt = un.toInt + 1 := by
      rw [Int32.toInt_add, e1]
      exact Int.bmod_eq_of_le (by omega) (by omega)
    obtain ⟨j, hj, ej⟩ := (isN_i (x := un + nI 1) (n := 1001) (by omega)).mpr ⟨by omega, by omega⟩
    exact ⟨j, by omega, ej⟩
  refine IV_w h (by omega) (fun k hk => o k (by omega)) (fun w hw => ?_)
  have a := h.2.2.2.1 w hw
  refine IVw_mk a (by omega) (Or.inl (by rw [o 1 (by omega)])) (Or.inl (by rw [o 2 (by omega)])) (Or.inl (by rw [o 3 (by omega)])) (Or.inl (by rw [o 5 (by omega)])) (Or.inl (by rw [o 7 (by omega)])) (fun t _ => Or.inl (by rw [o 4 (by omega)])) (fun q _ => by rw [ups_at]; exact upd_or (P := fun v => ∃ u, u ≤ 1000 ∧ v = nI u) hv) (fun q => by rw [o 10 (by omega)]; exact a.2.2.2.2.2.2.2 (by unfold pn at *; rw [o 14 (by omega)] at q; exact q))
theorem IV_prot {n : Nat} {σ : ST} (h : IV n σ) {x : Nat} {v : Int32} : IV (n + 1) (ups σ 12 x v) := IV_w h (by omega) (fun k hk => ups_ne (by omega)) (fun w hw => IVw_eq (h.2.2.2.1 w hw) (by omega) (fun k hk => ups_ne (by omega)))
/-- a love stays in its bounds -/
theorem i99 {x : Int32} (h1 : -99 ≤ x.toInt) (h2 : x.toInt ≤ 99) : ∃ v, v ≤ 99 ∧ (x = nI v ∨ x = -nI v) := by
  by_cases h : 0 ≤ x.toInt
  · obtain ⟨j, hj, e⟩ := (isN_i (x := x) (n := 100) (by omega)).mpr ⟨h, by omega⟩
    exact ⟨j, by omega, Or.inl e⟩
  · have e : (-x).toInt = -x.toInt := by
      rw [Int32.toInt_neg]
      exact Int.bmod_eq_of_le (by omega) (by omega)
    obtain ⟨j, hj, e2⟩ := (isN_i (x := -x) (n := 100) (by omega)).mpr ⟨by omega, by omega⟩
    exact ⟨j, by omega, Or.inr (by rw [← e2, Int32.neg_neg])⟩
theorem cl99_b (e : Int32) : ∃ v, v ≤ 99 ∧ (cl99 e = nI v ∨ cl99 e = -nI v) := by
  have e99 : (nI 99).toInt = 99 := nI_toInt (by decide)
  have em : (-99 : Int32).toInt = -99 := by decide
  have h : -99 ≤ (cl99 e).toInt ∧ (cl99 e).toInt ≤ 99 := by
    unfold cl99
    by_cases h1 : e < nI 99
    · simp only [if_pos h1]
      have a := Int32.lt_iff_toInt_lt.mp h1
      rw [e99] at a
      by_cases h2 : (-99) < e
      · rw [if_pos h2]
        have b := Int32.lt_iff_toInt_lt.mp h2
        rw [em] at b
        omega
      · rw [if_neg h2, em]
        omega
    · simp only [if_neg h1]
      rw [if_pos (show (-99 : Int32) < nI 99 by decide), e99]
      omega
  exact i99 h.1 h.2
theorem trn_b {x : Int32} {a b : Nat} (h : x = nI 0 ∨ x = nI 1) : trn x a b = nI 0 ∨ trn x a b = nI 1 := by
  unfold trn
  split
  · exact Or.inl rfl
  · split
    · exact Or.inr rfl
    · exact h
/-- booking, striking, shooting -/
theorem bk_o {σ : ST} {x t f s : Nat} {pb : Prop} {mi ti : Int32} {k : Nat} (h : k ≠ 19 ∧ k ≠ 20 ∧ k ≠ 21) : bkS σ x t f s pb mi ti k = σ k := by
  unfold bkS
  rw [ups_ne (by omega), ups_ne (by omega), ups_ne (by omega), ups_ne (by omega), ups_ne (by omega), ups_ne (by omega), ups_ne (by omega), ups_ne (by omega)]
theorem st_o2 {σ : ST} {x m k : Nat} (h : k ≠ 19 ∧ k ≠ 20) : stS σ x m k = σ k := stS_o h.1 h.2
theorem sh_o {σ : ST} {j k : Nat} {v : Int32} (h : k ≠ 19) : ups σ 19 j v k = σ k := ups_ne h
/-- days that are not played may change -/
theorem IVb_c {σ σ' : ST} {x : Nat} (h : IVb σ) (e : ∀ k, (k = 13 ∨ k = 22) → σ' k = σ k) (h0 : σ 22 x = nI 0) (hr : ∀ d, d ≠ x → mn σ' d = mn σ d ∧ ∀ j, j < 6 → ∀ q, q < 6 → σ' 19 (36 * d + 6 * j + q) = σ 19 (36 * d + 6 * j + q)) (h6 : ∀ d, d < 1000 → mn σ d ≤ 6) : IVb σ' := fun w o hw ho => by
  rw [e 13 (by omega), h w o hw ho, e 22 (by omega)]
  refine smI_congr (fun d hd => ?_)
  by_cases q : d = x
  · rw [q, h0, if_neg (by decide), if_neg (by decide)]
  · split
    · rw [(hr d q).1]
      refine smI_congr (fun j hj => ?_)
      have hj6 : j < 6 := by have := h6 d hd; omega
      have r := fun k hk => (hr d q).2 j hj6 k hk
      unfold wnr lsr
      have r0 := r 0 (by omega)
      rw [Nat.add_zero] at r0
      rw [r 5 (by omega), r 2 (by omega), r0, r 1 (by omega)]
    · rfl
theorem IVm_row {σ σ' : ST} {d i j : Nat} (h : IVm σ d i) (hp : pn σ' = pn σ) (ht : tn σ' = tn σ) (e : ∀ q, q < 6 → σ' 19 (36 * d + 6 * j + q) = σ 19 (36 * d + 6 * i + q)) : IVm σ' d j := by
  have e0 := e 0 (by omega)
  rw [Nat.add_zero, Nat.add_zero] at e0
  unfold IVm at *
  rw [hp, ht, e0, e 1 (by omega), e 2 (by omega), e 3 (by omega), e 4 (by omega), e 5 (by omega)]
  exact h
theorem IVc_o {σ σ' : ST} {d : Nat} (h : IVc σ d) (o : ∀ k, (k = 0 ∨ k = 14 ∨ k = 18 ∨ k = 22) → σ' k = σ k) (e20 : σ' 20 d = σ 20 d) (e21 : σ' 21 d = σ 21 d) (er : ∀ j, j < 6 → ∀ q, q < 6 → σ' 19 (36 * d + 6 * j + q) = σ 19 (36 * d + 6 * j + q)) : IVc σ' d := by
  have em : mn σ' d = mn σ d := by unfold mn; rw [e20]
  have ep : pn σ' = pn σ := by unfold pn; rw [o 14 (by omega)]
  have et : tn σ' = tn σ := by unfold tn; rw [o 18 (by omega)]
  have ed : dn σ' = dn σ := by unfold dn; rw [o 0 (by omega)]
  obtain ⟨h1, h2, h3, h4, h5, h6⟩ := h
  unfold IVc
  rw [em, e20, e21, o 22 (by omega), ed]
  refine ⟨h1, h2, h3, h4, fun j hj => IVm_row (h5 j hj) ep et (er j (by omega)), fun i j hi hj => ?_⟩
  rw [er i (by omega) 4 (by omega), er j (by omega) 4 (by omega)]
  exact h6 i j hi hj
theorem IV_st {n : Nat} {σ : ST} (h : IV n σ) {x m : Nat} (hx : x < 1000) (hm : m < mn σ x) (h0 : σ 22 x = nI 0) : IV n (stS σ x m) := by
  have hc := h.2.2.2.2.2.1 x hx
  have h6 := hc.2.1
  have emx : mn (stS σ x m) x = mn σ x - 1 := by
    have hb : mn σ x - 1 < 2147483648 := by omega
    show (stS σ x m 20 x).toNatClampNeg = _
    rw [stS_20, upd_at, nI_clamp hb]
  have ep : pn (stS σ x m) = pn σ := by unfold pn; rw [st_o2 (by omega)]
  have et : tn (stS σ x m) = tn σ := by unfold tn; rw [st_o2 (by omega)]
  have ed : dn (stS σ x m) = dn σ := by unfold dn; rw [st_o2 (by omega)]
  have ero : ∀ d, d ≠ x → ∀ j, j < 6 → ∀ q, q < 6 → stS σ x m 19 (36 * d + 6 * j + q) = σ 19 (36 * d + 6 * j + q) := fun d hd j hj q hq => by
    rw [stS_19, if_neg (by omega)]
  have erx : ∀ j, j < mn σ x - 1 → ∀ q, q < 6 → stS σ x m 19 (36 * x + 6 * j + q) = σ 19 (36 * x + 6 * (if j < m then j else j + 1) + q) := fun j hj q hq => by
    rw [stS_19]
    by_cases e : j < m
    · rw [if_neg (by omega), if_pos e]
    · rw [if_pos (by omega), if_neg e, show 36 * x + 6 * j + q + 6 = 36 * x + 6 * (j + 1) + q by omega]
  refine IV_mk h (fun k hk => st_o2 (by omega)) (fun w hw => IVw_eq (h.2.2.2.1 w hw) (Nat.le_refl _) (fun k hk => st_o2 (by omega))) (ln_eq h.2.2.2.2.1 (Nat.le_refl _) (st_o2 (by omega))) (fun d hd => ?_) (IVb_c h.2.2.2.2.2.2 (fun k hk => st_o2 (by omega)) h0 (fun d hd => ⟨by show (stS σ x m 20 d).toNatClampNeg = (σ 20 d).toNatClampNeg; rw [stS_20, upd_ne hd], ero d hd⟩) (fun d hd => (h.2.2.2.2.2.1 d hd).2.1))
  by_cases e : d = x
  · subst e
    obtain ⟨c1, c2, c3, c4, c5, c6⟩ := hc
    unfold IVc
    rw [emx, stS_20, upd_at, st_o2 (k := 22) (by omega), st_o2 (k := 21) (by omega), ed]
    refine ⟨rfl, by omega, c3, fun q => c4 (by omega), fun j hj => ?_, fun i j hi hj hij e1 => ?_⟩
    · by_cases e2 : j < m
      · exact IVm_row (i := j) (c5 j (by omega)) ep et (fun q hq => by rw [erx j hj q hq, if_pos e2])
      · exact IVm_row (i := j + 1) (c5 (j + 1) (by omega)) ep et (fun q hq => by rw [erx j hj q hq, if_neg e2])
    · rw [erx i hi 4 (by omega), erx j hj 4 (by omega)] at e1
      rw [erx i hi 4 (by omega)]
      exact c6 _ _ (by split <;> omega) (by split <;> omega) (by split <;> split <;> omega) e1
  · exact IVc_o (h.2.2.2.2.2.1 d hd) (fun k hk => st_o2 (by omega)) (by rw [stS_20, upd_ne e]) (by rw [st_o2 (by omega)]) (ero d e)
/-- one number of a row of an unplayed card changes -/
theorem IV_row {n : Nat} {σ : ST} (h : IV n σ) {x m q : Nat} {v : Int32} (hx : x < 1000) (hm : m < mn σ x) (hq : q < 6) (hq4 : q ≠ 4) (h0 : σ 22 x = nI 0) (hv : IVm (ups σ 19 (36 * x + 6 * m + q) v) x m) : IV n (ups σ 19 (36 * x + 6 * m + q) v) := by
  have hc := h.2.2.2.2.2.1 x hx
  have h6 := hc.2.1
  have o : ∀ k, k ≠ 19 → ups σ 19 (36 * x + 6 * m + q) v k = σ k := fun k hk => ups_ne hk
  have er : ∀ d j r, j < 6 → r < 6 → ¬ (d = x ∧ j = m ∧ r = q) → ups σ 19 (36 * x + 6 * m + q) v 19 (36 * d + 6 * j + r) = σ 19 (36 * d + 6 * j + r) := fun d j r hj hr hne => by
    rw [ups_at, upd_ne (by omega)]
  refine IV_mk h (fun k hk => o k (by omega)) (fun w hw => IVw_eq (h.2.2.2.1 w hw) (Nat.le_refl _) (fun k hk => o k (by omega))) (ln_eq h.2.2.2.2.1 (Nat.le_refl _) (o 17 (by omega))) (fun d hd => ?_) (IVb_c h.2.2.2.2.2.2 (fun k hk => o k (by omega)) h0 (fun d hd => ⟨by unfold mn; rw [o 20 (by omega)], fun j hj r hr => er d j r hj hr (by omega)⟩) (fun d hd => (h.2.2.2.2.2.1 d hd).2.1))
  by_cases e : d = x
  · subst e
    obtain ⟨c1, c2, c3, c4, c5, c6⟩ := hc
    have em : mn (ups σ 19 (36 * d + 6 * m + q) v) d = mn σ d := by unfold mn; rw [o 20 (by omega)]
    have ep : pn (ups σ 19 (36 * d + 6 * m + q) v) = pn σ := by unfold pn; rw [o 14 (by omega)]
    have et : tn (ups σ 19 (36 * d + 6 * m + q) v) = tn σ := by unfold tn; rw [o 18 (by omega)]
    have ed : dn (ups σ 19 (36 * d + 6 * m + q) v) = dn σ := by unfold dn; rw [o 0 (by omega)]
    unfold IVc
    rw [em, o 20 (by omega), o 21 (by omega), o 22 (by omega), ed]
    refine ⟨c1, c2, c3, c4, fun j hj => ?_, fun i j hi hj => ?_⟩
    · by_cases e2 : j = m
      · subst e2; exact hv
      · exact IVm_row (c5 j hj) ep et (fun r hr => er d j r (by omega) hr (by omega))
    · rw [er d i 4 (by omega) (by omega) (by omega), er d j 4 (by omega) (by omega) (by omega)]
      exact c6 i j hi hj
  · exact IVc_o (h.2.2.2.2.2.1 d hd) (fun k hk => o k (by omega)) (by rw [o 20 (by omega)]) (by rw [o 21 (by omega)]) (fun j hj r hr => er d j r hj hr (by omega))
theorem IV_shoot {n : Nat} {σ : ST} (h : IV n σ) {x m : Nat} (hx : x < 1000) (hm : m < mn σ x) (h0 : σ 22 x = nI 0) : IV n (ups σ 19 (36 * x + 6 * m + 5) (nI 1)) := by
  refine IV_row h hx hm (by omega) (by omega) h0 ?_
  have a := (h.2.2.2.2.2.1 x hx).2.2.2.2.1 m hm
  have er : ∀ r, r < 5 → ups σ 19 (36 * x + 6 * m + 5) (nI 1) 19 (36 * x + 6 * m + r) = σ 19 (36 * x + 6 * m + r) := fun r hr => by
    rw [ups_at, upd_ne (by omega)]
  have e0 : ups σ 19 (36 * x + 6 * m + 5) (nI 1) 19 (36 * x + 6 * m) = σ 19 (36 * x + 6 * m) := er 0 (by omega)
  unfold IVm pn tn at *
  rw [e0, er 1 (by omega), er 2 (by omega), er 3 (by omega), er 4 (by omega), ups_ne (show 14 ≠ 19 by decide), ups_ne (show 18 ≠ 19 by decide), ups_at, upd_at]
  exact ⟨a.1, a.2.1, a.2.2.1, a.2.2.2.1, a.2.2.2.2.1, a.2.2.2.2.2.1, Or.inr rfl⟩
