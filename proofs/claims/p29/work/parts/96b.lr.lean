/-! what the law's rows tell of the class's numbers -/
def LA (σ : ST) (f : Nat → Int32) (i : Nat) : Prop := f (9 * i) = σ 1 i ∧ f (9 * i + 1) = σ 2 i ∧ f (9 * i + 2) = σ 3 i ∧ f (9 * i + 3) = σ 5 i ∧ f (9 * i + 4) = σ 6 i ∧ f (9 * i + 5) = σ 7 i ∧ f (9 * i + 6) = σ 8 i ∧ f (9 * i + 7) = σ 9 i ∧ (∃ p z, p ≤ 1000 ∧ z ≤ 1 ∧ σ 12 i = nI p ∧ σ 10 i = nI z ∧ f (9 * i + 8) = nI (2 * p + z)) ∧ (∃ u, u ≤ 10000 ∧ σ 6 i = nI u) ∧ (σ 3 i = nI 0 ∨ σ 3 i = nI 1)
def LKj (σ : ST) (k : Nat → Int32) (x j : Nat) : Prop := k (18 * (x % 3) + 6 * j) = σ 19 (36 * x + 6 * j) ∧ k (18 * (x % 3) + 6 * j + 1) = σ 19 (36 * x + 6 * j + 1) ∧ k (18 * (x % 3) + 6 * j + 2) = σ 19 (36 * x + 6 * j + 2) ∧ k (18 * (x % 3) + 6 * j + 3) = σ 19 (36 * x + 6 * j + 3) ∧ k (18 * (x % 3) + 6 * j + 4) = σ 19 (36 * x + 6 * j + 4) + nI 1 ∧ k (18 * (x % 3) + 6 * j + 5) = σ 19 (36 * x + 6 * j + 5)
def LK (σ : ST) (k m : Nat → Int32) (x : Nat) : Prop := m (1 + x % 3) = nI (mn σ x) ∧ mn σ x ≤ 3 ∧ (mn σ x ≠ 0 → m (4 + x % 3) = σ 21 x) ∧ m (7 + x % 3) = σ 22 x ∧ ∀ j, j < mn σ x → LKj σ k x j
def LT (σ : ST) (m : Nat → Int32) (t : Nat) : Prop := m (10 + t) = chO σ t + nI 1 ∧ m (12 + t) = σ 17 t ∧ (chO σ t = (-1) ∨ ∃ w, w < 7 ∧ chO σ t = nI w)
def LR (n : Nat) (σ : ST) (I : IM) : Prop := (∀ i, i < 7 → LA σ (I QW) i) ∧ (∀ t, t < 4 → ∀ i, i < 7 → I QV (7 * t + i) = σ 4 (10 * t + i) ∧ ∃ v, v ≤ 99 ∧ (σ 4 (10 * t + i) = nI v ∨ σ 4 (10 * t + i) = -nI v)) ∧ (∀ i, i < 7 → ∀ j, j < 7 → I QC (7 * i + j) = σ 11 (10 * i + j)) ∧ (∀ i, i < 7 → ∀ j, j < 7 → I QB (7 * i + j) = σ 13 (10 * i + j)) ∧ I QM 0 = σ 0 0 ∧ (∀ x, dn σ ≤ x → x < dn σ + 3 → LK σ (I QK) (I QM) x) ∧ (∀ x, dn σ + 3 ≤ x → x < 1000 → σ 20 x = nI 0 ∧ σ 22 x = nI 0) ∧ (∀ t, t < 2 → LT σ (I QM) t) ∧ (∀ t, t < 4 → I QM (14 + t) = σ 23 t) ∧ pn σ = 7 ∧ tn σ = 2 ∧ dn σ ≤ n
theorem LA_eq {σ σ' : ST} {f : Nat → Int32} {i : Nat} (e : ∀ k, (k = 1 ∨ k = 2 ∨ k = 3 ∨ k = 5 ∨ k = 6 ∨ k = 7 ∨ k = 8 ∨ k = 9 ∨ k = 10 ∨ k = 12) → σ' k = σ k) (h : LA σ f i) : LA σ' f i := by
  unfold LA at *
  rw [e 1 (by omega), e 2 (by omega), e 3 (by omega), e 5 (by omega), e 6 (by omega), e 7 (by omega), e 8 (by omega), e 9 (by omega), e 10 (by omega), e 12 (by omega)]
  exact h
theorem LK_eq {σ σ' : ST} {k m : Nat → Int32} {x : Nat} (e : ∀ k, (19 ≤ k ∧ k ≤ 22) → σ' k = σ k) (h : LK σ k m x) : LK σ' k m x := by
  unfold LK LKj mn at *
  rw [e 19 (by omega), e 20 (by omega), e 21 (by omega), e 22 (by omega)]
  exact h
theorem LT_eq {σ σ' : ST} {m : Nat → Int32} {t : Nat} (e : ∀ k, (k = 15 ∨ k = 17) → σ' k = σ k) (h : LT σ m t) : LT σ' m t := by
  unfold LT chO at *
  rw [e 15 (by omega), e 17 (by omega)]
  exact h
theorem dn_eq {σ σ' : ST} (e : σ' 0 = σ 0) : dn σ' = dn σ := by unfold dn; rw [e]
theorem pn_eq {σ σ' : ST} (e : σ' 14 = σ 14) : pn σ' = pn σ := by unfold pn; rw [e]
theorem tn_eq {σ σ' : ST} (e : σ' 18 = σ 18) : tn σ' = tn σ := by unfold tn; rw [e]
theorem mn_eq {σ σ' : ST} (e : σ' 20 = σ 20) (x : Nat) : mn σ' x = mn σ x := by unfold mn; rw [e]
theorem chO_eq {σ σ' : ST} (e : σ' 15 = σ 15) (e2 : σ' 17 = σ 17) (t : Nat) : chO σ' t = chO σ t := by unfold chO; rw [e, e2]
/-- all but the law's rows stays -/
def FrQ (I I' : IM) : Prop := ∀ L : Lb, L.1 ≠ 3 → I' L = I L
theorem FrQ_rfl {I : IM} : FrQ I I := fun _ _ => rfl
theorem FrQ_tr {I I' I'' : IM} (h : FrQ I I') (h' : FrQ I' I'') : FrQ I I'' := fun L a => (h' L a).trans (h L a)
theorem FrQ_up {I I' : IM} (h : FrQ I I') {L : Lb} (hL : L.1 = 3) {k : Nat} {x : Int32} : FrQ I (up2 I' L k x) := fun q a => by
  rw [show up2 I' L k x q = I' q from if_neg (fun e => by subst e; exact a hL)]
  exact h q a
theorem CW_Q {n : Nat} {σ : ST} {K : KM} {I I' : IM} {R : RM} (h : CW n σ K I R) (hF : FrQ I I') : CW n σ K I' R := ⟨h.1, RC_F h.2.1 (fun L _ _ h3 _ _ => hF L h3), h.2.2⟩
/-- the law's rows are as they were -/
theorem LR_F {n : Nat} {σ : ST} {I I' : IM} (h : LR n σ I) (hF : ∀ L : Lb, L.1 = 3 → I' L = I L) : LR n σ I' := by
  unfold LR at *
  rw [hF QW rfl, hF QV rfl, hF QC rfl, hF QB rfl, hF QK rfl, hF QM rfl]
  exact h
theorem LR_C0 {n : Nat} {σ : ST} {I I' : IM} (h : LR n σ I) (hF : FrC I I') : LR n σ I' := LR_F h (fun L e => hF L (by omega))
theorem LR_n {n m : Nat} {σ : ST} {I : IM} (h : LR n σ I) (hm : n ≤ m) : LR m σ I := ⟨h.1, h.2.1, h.2.2.1, h.2.2.2.1, h.2.2.2.2.1, h.2.2.2.2.2.1, h.2.2.2.2.2.2.1, h.2.2.2.2.2.2.2.1, h.2.2.2.2.2.2.2.2.1, h.2.2.2.2.2.2.2.2.2.1, h.2.2.2.2.2.2.2.2.2.2.1, Nat.le_trans h.2.2.2.2.2.2.2.2.2.2.2 hm⟩
theorem LR_W {n : Nat} {σ σ' : ST} {I I' : IM} (h : LR n σ I) (hI : ∀ L, L ≠ QW → I' L = I L) (hσ : ∀ k, (k = 0 ∨ k = 4 ∨ k = 11 ∨ 13 ≤ k) → σ' k = σ k) (hA : ∀ i, i < 7 → LA σ' (I' QW) i) : LR n σ' I' := by
  obtain ⟨h1, h2, h3, h4, h5, h6, h7, h8, h9, h10, h11, h12⟩ := h
  have dd : dn σ' = dn σ := dn_eq (hσ 0 (by omega))
  refine ⟨hA, fun t ht i hi => ?_, fun i hi j hj => ?_, fun i hi j hj => ?_, ?_, fun x hx1 hx2 => ?_, fun x hx1 hx2 => ?_, fun t ht => ?_, fun t ht => ?_, ?_, ?_, ?_⟩
  · rw [hI QV (by decide), hσ 4 (by omega)]; exact h2 t ht i hi
  · rw [hI QC (by decide), hσ 11 (by omega)]; exact h3 i hi j hj
  · rw [hI QB (by decide), hσ 13 (by omega)]; exact h4 i hi j hj
  · rw [hI QM (by decide), hσ 0 (by omega)]; exact h5
  · rw [hI QK (by decide), hI QM (by decide)]; rw [dd] at hx1 hx2; exact LK_eq (fun k hk => hσ k (by omega)) (h6 x hx1 hx2)
  · rw [hσ 20 (by omega), hσ 22 (by omega)]; rw [dd] at hx1; exact h7 x hx1 hx2
  · rw [hI QM (by decide)]; exact LT_eq (fun k hk => hσ k (by omega)) (h8 t ht)
  · rw [hI QM (by decide), hσ 23 (by omega)]; exact h9 t ht
  · rw [pn_eq (hσ 14 (by omega))]; exact h10
  · rw [tn_eq (hσ 18 (by omega))]; exact h11
  · rw [dd]; exact h12
theorem LR_V {n : Nat} {σ σ' : ST} {I I' : IM} (h : LR n σ I) (hI : ∀ L, L ≠ QV → I' L = I L) (hσ : ∀ k, k ≠ 4 → σ' k = σ k) (hA : ∀ t, t < 4 → ∀ i, i < 7 → I' QV (7 * t + i) = σ' 4 (10 * t + i) ∧ ∃ v, v ≤ 99 ∧ (σ' 4 (10 * t + i) = nI v ∨ σ' 4 (10 * t + i) = -nI v)) : LR n σ' I' := by
  obtain ⟨h1, h2, h3, h4, h5, h6, h7, h8, h9, h10, h11, h12⟩ := h
  have dd : dn σ' = dn σ := dn_eq (hσ 0 (by omega))
  refine ⟨fun i hi => ?_, hA, fun i hi j hj => ?_, fun i hi j hj => ?_, ?_, fun x hx1 hx2 => ?_, fun x hx1 hx2 => ?_, fun t ht => ?_, fun t ht => ?_, ?_, ?_, ?_⟩
  · rw [hI QW (by decide)]; exact LA_eq (fun k hk => hσ k (by omega)) (h1 i hi)
  · rw [hI QC (by decide), hσ 11 (by omega)]; exact h3 i hi j hj
  · rw [hI QB (by decide), hσ 13 (by omega)]; exact h4 i hi j hj
  · rw [hI QM (by decide), hσ 0 (by omega)]; exact h5
  · rw [hI QK (by decide), hI QM (by decide)]; rw [dd] at hx1 hx2; exact LK_eq (fun k hk => hσ k (by omega)) (h6 x hx1 hx2)
  · rw [hσ 20 (by omega), hσ 22 (by omega)]; rw [dd] at hx1; exact h7 x hx1 hx2
  · rw [hI QM (by decide)]; exact LT_eq (fun k hk => hσ k (by omega)) (h8 t ht)
  · rw [hI QM (by decide), hσ 23 (by omega)]; exact h9 t ht
  · rw [pn_eq (hσ 14 (by omega))]; exact h10
  · rw [tn_eq (hσ 18 (by omega))]; exact h11
  · rw [dd]; exact h12
theorem LR_C {n : Nat} {σ σ' : ST} {I I' : IM} (h : LR n σ I) (hI : ∀ L, L ≠ QC → I' L = I L) (hσ : ∀ k, k ≠ 11 → σ' k = σ k) (hA : ∀ i, i < 7 → ∀ j, j < 7 → I' QC (7 * i + j) = σ' 11 (10 * i + j)) : LR n σ' I' := by
  obtain ⟨h1, h2, h3, h4, h5, h6, h7, h8, h9, h10, h11, h12⟩ := h
  have dd : dn σ' = dn σ := dn_eq (hσ 0 (by omega))
  refine ⟨fun i hi => ?_, fun t ht i hi => ?_, hA, fun i hi j hj => ?_, ?_, fun x hx1 hx2 => ?_, fun x hx1 hx2 => ?_, fun t ht => ?_, fun t ht => ?_, ?_, ?_, ?_⟩
  · rw [hI QW (by decide)]; exact LA_eq (fun k hk => hσ k (by omega)) (h1 i hi)
  · rw [hI QV (by decide), hσ 4 (by omega)]; exact h2 t ht i hi
  · rw [hI QB (by decide), hσ 13 (by omega)]; exact h4 i hi j hj
  · rw [hI QM (by decide), hσ 0 (by omega)]; exact h5
  · rw [hI QK (by decide), hI QM (by decide)]; rw [dd] at hx1 hx2; exact LK_eq (fun k hk => hσ k (by omega)) (h6 x hx1 hx2)
  · rw [hσ 20 (by omega), hσ 22 (by omega)]; rw [dd] at hx1; exact h7 x hx1 hx2
  · rw [hI QM (by decide)]; exact LT_eq (fun k hk => hσ k (by omega)) (h8 t ht)
  · rw [hI QM (by decide), hσ 23 (by omega)]; exact h9 t ht
  · rw [pn_eq (hσ 14 (by omega))]; exact h10
  · rw [tn_eq (hσ 18 (by omega))]; exact h11
  · rw [dd]; exact h12
theorem LR_B {n : Nat} {σ σ' : ST} {I I' : IM} (h : LR n σ I) (hI : ∀ L, L ≠ QB → I' L = I L) (hσ : ∀ k, k ≠ 13 → σ' k = σ k) (hA : ∀ i, i < 7 → ∀ j, j < 7 → I' QB (7 * i + j) = σ' 13 (10 * i + j)) : LR n σ' I' := by
  obtain ⟨h1, h2, h3, h4, h5, h6, h7, h8, h9, h10, h11, h12⟩ := h
  have dd : dn σ' = dn σ := dn_eq (hσ 0 (by omega))
  refine ⟨fun i hi => ?_, fun t ht i hi => ?_, fun i hi j hj => ?_, hA, ?_, fun x hx1 hx2 => ?_, fun x hx1 hx2 => ?_, fun t ht => ?_, fun t ht => ?_, ?_, ?_, ?_⟩
  · rw [hI QW (by decide)]; exact LA_eq (fun k hk => hσ k (by omega)) (h1 i hi)
  · rw [hI QV (by decide), hσ 4 (by omega)]; exact h2 t ht i hi
  · rw [hI QC (by decide), hσ 11 (by omega)]; exact h3 i hi j hj
  · rw [hI QM (by decide), hσ 0 (by omega)]; exact h5
  · rw [hI QK (by decide), hI QM (by decide)]; rw [dd] at hx1 hx2; exact LK_eq (fun k hk => hσ k (by omega)) (h6 x hx1 hx2)
  · rw [hσ 20 (by omega), hσ 22 (by omega)]; rw [dd] at hx1; exact h7 x hx1 hx2
  · rw [hI QM (by decide)]; exact LT_eq (fun k hk => hσ k (by omega)) (h8 t ht)
  · rw [hI QM (by decide), hσ 23 (by omega)]; exact h9 t ht
  · rw [pn_eq (hσ 14 (by omega))]; exact h10
  · rw [tn_eq (hσ 18 (by omega))]; exact h11
  · rw [dd]; exact h12
theorem LK_m {σ : ST} {k m m' : Nat → Int32} {x : Nat} (e : ∀ j, 1 ≤ j → j < 10 → m' j = m j) (h : LK σ k m x) : LK σ k m' x := by
  unfold LK at *
  rw [e (1 + x % 3) (by omega) (by omega), e (4 + x % 3) (by omega) (by omega), e (7 + x % 3) (by omega) (by omega)]
  exact h
/-- titles change -/
theorem LR_T {n : Nat} {σ σ' : ST} {I I' : IM} (h : LR n σ I) (hI : ∀ L, L ≠ QM → I' L = I L) (hm : ∀ j, (j < 10 ∨ 14 ≤ j) → I' QM j = I QM j) (hσ : ∀ k, (k < 15 ∨ 18 ≤ k) → σ' k = σ k) (hA : ∀ t, t < 2 → LT σ' (I' QM) t) : LR n σ' I' := by
  obtain ⟨h1, h2, h3, h4, h5, h6, h7, h8, h9, h10, h11, h12⟩ := h
  have dd : dn σ' = dn σ := dn_eq (hσ 0 (by omega))
  refine ⟨fun i hi => ?_, fun t ht i hi => ?_, fun i hi j hj => ?_, fun i hi j hj => ?_, ?_, fun x hx1 hx2 => ?_, fun x hx1 hx2 => ?_, hA, fun t ht => ?_, ?_, ?_, ?_⟩
  · rw [hI QW (by decide)]; exact LA_eq (fun k hk => hσ k (by omega)) (h1 i hi)
  · rw [hI QV (by decide), hσ 4 (by omega)]; exact h2 t ht i hi
  · rw [hI QC (by decide), hσ 11 (by omega)]; exact h3 i hi j hj
  · rw [hI QB (by decide), hσ 13 (by omega)]; exact h4 i hi j hj
  · rw [hm 0 (by omega), hσ 0 (by omega)]; exact h5
  · rw [hI QK (by decide)]; rw [dd] at hx1 hx2; exact LK_m (fun j _ hj => hm j (by omega)) (LK_eq (fun k hk => hσ k (by omega)) (h6 x hx1 hx2))
  · rw [hσ 20 (by omega), hσ 22 (by omega)]; rw [dd] at hx1; exact h7 x hx1 hx2
  · rw [hm (14 + t) (by omega), hσ 23 (by omega)]; exact h9 t ht
  · rw [pn_eq (hσ 14 (by omega))]; exact h10
  · rw [tn_eq (hσ 18 (by omega))]; exact h11
  · rw [dd]; exact h12
theorem LR_G {n : Nat} {σ σ' : ST} {I I' : IM} (h : LR n σ I) (hI : ∀ L, L ≠ QM → I' L = I L) (hm : ∀ j, j < 14 → I' QM j = I QM j) (hσ : ∀ k, k ≠ 23 → σ' k = σ k) (hA : ∀ t, t < 4 → I' QM (14 + t) = σ' 23 t) : LR n σ' I' := by
  obtain ⟨h1, h2, h3, h4, h5, h6, h7, h8, h9, h10, h11, h12⟩ := h
  have dd : dn σ' = dn σ := dn_eq (hσ 0 (by omega))
  refine ⟨fun i hi => ?_, fun t ht i hi => ?_, fun i hi j hj => ?_, fun i hi j hj => ?_, ?_, fun x hx1 hx2 => ?_, fun x hx1 hx2 => ?_, fun t ht => ?_, hA, ?_, ?_, ?_⟩
  · rw [hI QW (by decide)]; exact LA_eq (fun k hk => hσ k (by omega)) (h1 i hi)
  · rw [hI QV (by decide), hσ 4 (by omega)]; exact h2 t ht i hi
  · rw [hI QC (by decide), hσ 11 (by omega)]; exact h3 i hi j hj
  · rw [hI QB (by decide), hσ 13 (by omega)]; exact h4 i hi j hj
  · rw [hm 0 (by omega), hσ 0 (by omega)]; exact h5
  · rw [hI QK (by decide)]; rw [dd] at hx1 hx2; exact LK_m (fun j _ hj => hm j (by omega)) (LK_eq (fun k hk => hσ k (by omega)) (h6 x hx1 hx2))
  · rw [hσ 20 (by omega), hσ 22 (by omega)]; rw [dd] at hx1; exact h7 x hx1 hx2
  · have := LT_eq (fun k hk => hσ k (by omega)) (h8 t ht)
    unfold LT at *
    rw [hm (10 + t) (by omega), hm (12 + t) (by omega)]
    exact this
  · rw [pn_eq (hσ 14 (by omega))]; exact h10
  · rw [tn_eq (hσ 18 (by omega))]; exact h11
  · rw [dd]; exact h12
/-- cards change -/
theorem LR_K {n : Nat} {σ σ' : ST} {I I' : IM} (h : LR n σ I) (hI : ∀ L, L ≠ QM → L ≠ QK → I' L = I L) (hm : ∀ j, (j = 0 ∨ 10 ≤ j) → I' QM j = I QM j) (hσ : ∀ k, (k < 19 ∨ 23 ≤ k) → σ' k = σ k) (hA : ∀ x, dn σ ≤ x → x < dn σ + 3 → LK σ' (I' QK) (I' QM) x) (hO : ∀ x, dn σ + 3 ≤ x → x < 1000 → σ' 20 x = σ 20 x ∧ σ' 22 x = σ 22 x) : LR n σ' I' := by
  obtain ⟨h1, h2, h3, h4, h5, h6, h7, h8, h9, h10, h11, h12⟩ := h
  have dd : dn σ' = dn σ := dn_eq (hσ 0 (by omega))
  refine ⟨fun i hi => ?_, fun t ht i hi => ?_, fun i hi j hj => ?_, fun i hi j hj => ?_, ?_, fun x hx1 hx2 => ?_, fun x hx1 hx2 => ?_, fun t ht => ?_, fun t ht => ?_, ?_, ?_, ?_⟩
  · rw [hI QW (by decide) (by decide)]; exact LA_eq (fun k hk => hσ k (by omega)) (h1 i hi)
  · rw [hI QV (by decide) (by decide), hσ 4 (by omega)]; exact h2 t ht i hi
  · rw [hI QC (by decide) (by decide), hσ 11 (by omega)]; exact h3 i hi j hj
  · rw [hI QB (by decide) (by decide), hσ 13 (by omega)]; exact h4 i hi j hj
  · rw [hm 0 (by omega), hσ 0 (by omega)]; exact h5
  · rw [dd] at hx1 hx2; exact hA x hx1 hx2
  · rw [dd] at hx1; rw [(hO x hx1 hx2).1, (hO x hx1 hx2).2]; exact h7 x hx1 hx2
  · have := LT_eq (fun k hk => hσ k (by omega)) (h8 t ht)
    unfold LT at *
    rw [hm (10 + t) (by omega), hm (12 + t) (by omega)]
    exact this
  · rw [hm (14 + t) (by omega), hσ 23 (by omega)]; exact h9 t ht
  · rw [pn_eq (hσ 14 (by omega))]; exact h10
  · rw [tn_eq (hσ 18 (by omega))]; exact h11
  · rw [dd]; exact h12
/-- another day's card -/
theorem LK_o {σ σ' : ST} {k k' m m' : Nat → Int32} {x : Nat} (h : LK σ k m x) (e20 : σ' 20 x = σ 20 x) (e21 : σ' 21 x = σ 21 x) (e22 : σ' 22 x = σ 22 x) (e19 : ∀ q, q < 36 → σ' 19 (36 * x + q) = σ 19 (36 * x + q)) (ek : ∀ q, q < 18 → k' (18 * (x % 3) + q) = k (18 * (x % 3) + q)) (em : m' (1 + x % 3) = m (1 + x % 3) ∧ m' (4 + x % 3) = m (4 + x % 3) ∧ m' (7 + x % 3) = m (7 + x % 3)) : LK σ' k' m' x := by
  have en : mn σ' x = mn σ x := by unfold mn; rw [e20]
  obtain ⟨h1, h2, h3, h4, h5⟩ := h
  refine ⟨?_, ?_, fun h0 => ?_, ?_, fun j hj => ?_⟩
  · rw [em.1, en]; exact h1
  · rw [en]; exact h2
  · rw [em.2.1, e21]; exact h3 (by rw [← en]; exact h0)
  · rw [em.2.2, e22]; exact h4
  · rw [en] at hj
    obtain ⟨a0, a1, a2, a3, a4, a5⟩ := h5 j hj
    refine ⟨?_, ?_, ?_, ?_, ?_, ?_⟩
    · rw [ek (6 * j) (by omega), e19 (6 * j) (by omega)]; exact a0
    · rw [Nat.add_assoc, Nat.add_assoc, ek (6 * j + 1) (by omega), e19 (6 * j + 1) (by omega)]; exact a1
    · rw [Nat.add_assoc, Nat.add_assoc, ek (6 * j + 2) (by omega), e19 (6 * j + 2) (by omega)]; exact a2
    · rw [Nat.add_assoc, Nat.add_assoc, ek (6 * j + 3) (by omega), e19 (6 * j + 3) (by omega)]; exact a3
    · rw [Nat.add_assoc, Nat.add_assoc, ek (6 * j + 4) (by omega), e19 (6 * j + 4) (by omega)]; exact a4
    · rw [Nat.add_assoc, Nat.add_assoc, ek (6 * j + 5) (by omega), e19 (6 * j + 5) (by omega)]; exact a5
/-- a field of a wrestler changes -/
theorem LA_ne {σ : ST} {f : Nat → Int32} {i i2 s k : Nat} {v v2 : Int32} (h : LA σ f i2) (hs : s < 9) (hi : i ≠ i2) : LA (ups σ k i v) (upd f (9 * i + s) v2) i2 := by
  have e : ∀ q, q < 9 → upd f (9 * i + s) v2 (9 * i2 + q) = f (9 * i2 + q) := fun q hq => upd_ne (by omega)
  have g : ∀ q, ups σ k i v q i2 = σ q i2 := fun q => by
    unfold ups
    split
    · rename_i e9; subst e9; exact upd_ne (Ne.symm hi)
    · rfl
  have e0 := e 0 (by decide)
  rw [Nat.add_zero] at e0
  unfold LA at *
  rw [e0, e 1 (by decide), e 2 (by decide), e 3 (by decide), e 4 (by decide), e 5 (by decide), e 6 (by decide), e 7 (by decide), e 8 (by decide), g 1, g 2, g 3, g 5, g 6, g 7, g 8, g 9, g 10, g 12]
  exact h
theorem LA_f {σ : ST} {f : Nat → Int32} {i s k : Nat} {v : Int32} (h : LA σ f i) (hsk : (s = 2 ∧ k = 3) ∨ (s = 3 ∧ k = 5) ∨ (s = 5 ∧ k = 7) ∨ (s = 6 ∧ k = 8) ∨ (s = 7 ∧ k = 9)) (hv : k = 3 → v = nI 0 ∨ v = nI 1) : LA (ups σ k i v) (upd f (9 * i + s) v) i := by
  have g : ∀ q, q ≠ k → ups σ k i v q i = σ q i := fun q hq => by rw [ups_ne hq]
  have gk : ups σ k i v k i = v := by rw [ups_at, upd_at]
  have e : ∀ q, q ≠ s → upd f (9 * i + s) v (9 * i + q) = f (9 * i + q) := fun q hq => upd_ne (by omega)
  have es : upd f (9 * i + s) v (9 * i + s) = v := upd_at
  unfold LA at *
  obtain ⟨a0, a1, a2, a3, a4, a5, a6, a7, a8, a9, a10⟩ := h
  have e0 : upd f (9 * i + s) v (9 * i) = f (9 * i) := upd_ne (by omega)
  refine ⟨?_, ?_, ?_, ?_, ?_, ?_, ?_, ?_, ?_, ?_, ?_⟩
  · rw [e0, g 1 (by omega)]; exact a0
  · rw [e 1 (by omega), g 2 (by omega)]; exact a1
  · rcases hsk with ⟨rfl, rfl⟩ | ⟨rfl, rfl⟩ | ⟨rfl, rfl⟩ | ⟨rfl, rfl⟩ | ⟨rfl, rfl⟩
    · rw [es, gk]
    all_goals (rw [e 2 (by decide), g 3 (by decide)]; exact a2)
  · rcases hsk with ⟨rfl, rfl⟩ | ⟨rfl, rfl⟩ | ⟨rfl, rfl⟩ | ⟨rfl, rfl⟩ | ⟨rfl, rfl⟩
    · rw [e 3 (by decide), g 5 (by decide)]; exact a3
    · rw [es, gk]
    all_goals (rw [e 3 (by decide), g 5 (by decide)]; exact a3)
  · rw [e 4 (by omega), g 6 (by omega)]; exact a4
  · rcases hsk with ⟨rfl, rfl⟩ | ⟨rfl, rfl⟩ | ⟨rfl, rfl⟩ | ⟨rfl, rfl⟩ | ⟨rfl, rfl⟩
    · rw [e 5 (by decide), g 7 (by decide)]; exact a5
    · rw [e 5 (by decide), g 7 (by decide)]; exact a5
    · rw [es, gk]
    all_goals (rw [e 5 (by decide), g 7 (by decide)]; exact a5)
  · rcases hsk with ⟨rfl, rfl⟩ | ⟨rfl, rfl⟩ | ⟨rfl, rfl⟩ | ⟨rfl, rfl⟩ | ⟨rfl, rfl⟩
    · rw [e 6 (by decide), g 8 (by decide)]; exact a6
    · rw [e 6 (by decide), g 8 (by decide)]; exact a6
    · rw [e 6 (by decide), g 8 (by decide)]; exact a6
    · rw [es, gk]
    · rw [e 6 (by decide), g 8 (by decide)]; exact a6
  · rcases hsk with ⟨rfl, rfl⟩ | ⟨rfl, rfl⟩ | ⟨rfl, rfl⟩ | ⟨rfl, rfl⟩ | ⟨rfl, rfl⟩
    · rw [e 7 (by decide), g 9 (by decide)]; exact a7
    · rw [e 7 (by decide), g 9 (by decide)]; exact a7
    · rw [e 7 (by decide), g 9 (by decide)]; exact a7
    · rw [e 7 (by decide), g 9 (by decide)]; exact a7
    · rw [es, gk]
  · rw [e 8 (by omega), g 12 (by omega), g 10 (by omega)]; exact a8
  · rw [g 6 (by omega)]; exact a9
  · by_cases h3 : k = 3
    · rw [h3] at gk; rw [show ups σ k i v 3 i = v by rw [h3]; exact gk]; exact hv h3
    · rw [g 3 (Ne.symm h3)]; exact a10
theorem LR_fld {n : Nat} {σ : ST} {I : IM} (h : LR n σ I) {i s k : Nat} {v : Int32} (hsk : (s = 2 ∧ k = 3) ∨ (s = 3 ∧ k = 5) ∨ (s = 5 ∧ k = 7) ∨ (s = 6 ∧ k = 8) ∨ (s = 7 ∧ k = 9)) (hv : k = 3 → v = nI 0 ∨ v = nI 1) : LR n (ups σ k i v) (up2 I QW (9 * i + s) v) := by
  refine LR_W h (fun L hL => up2_ne hL) (fun q hq => ups_ne (by omega)) (fun i2 hi2 => ?_)
  rw [up2_at]
  by_cases e : i = i2
  · subst e; exact LA_f (h.1 i hi2) hsk hv
  · exact LA_ne (h.1 i2 hi2) (by omega) e
/-- when one is hurt until -/
theorem LR_unt {n : Nat} {σ : ST} {I : IM} (h : LR n σ I) {i u : Nat} {v : Int32} (hu : u ≤ 10000) (hv : v = nI u) : LR n (ups σ 6 i v) (up2 I QW (9 * i + 4) v) := by
  refine LR_W h (fun L hL => up2_ne hL) (fun q hq => ups_ne (by omega)) (fun i2 hi2 => ?_)
  rw [up2_at]
  by_cases e : i = i2
  · subst e
    have g : ∀ q, q ≠ 6 → ups σ 6 i v q i = σ q i := fun q hq => by rw [ups_ne hq]
    have gk : ups σ 6 i v 6 i = v := by rw [ups_at, upd_at]
    have e : ∀ q, q ≠ 4 → upd (I QW) (9 * i + 4) v (9 * i + q) = I QW (9 * i + q) := fun q hq => upd_ne (by omega)
    have e0 : upd (I QW) (9 * i + 4) v (9 * i) = I QW (9 * i) := upd_ne (by omega)
    have es : upd (I QW) (9 * i + 4) v (9 * i + 4) = v := upd_at
    have hA := h.1 i hi2
    unfold LA at *
    rw [e0, e 1 (by decide), e 2 (by decide), e 3 (by decide), es, e 5 (by decide), e 6 (by decide), e 7 (by decide), e 8 (by decide), g 1 (by decide), g 2 (by decide), g 3 (by decide), g 5 (by decide), gk, g 7 (by decide), g 8 (by decide), g 9 (by decide), g 10 (by decide), g 12 (by decide)]
    exact ⟨hA.1, hA.2.1, hA.2.2.1, hA.2.2.2.1, rfl, hA.2.2.2.2.2.1, hA.2.2.2.2.2.2.1, hA.2.2.2.2.2.2.2.1, hA.2.2.2.2.2.2.2.2.1, ⟨u, hu, hv⟩, hA.2.2.2.2.2.2.2.2.2.2⟩
  · exact LA_ne (h.1 i2 hi2) (by decide) e
/-- protection, and whether a promo was said -/
theorem LR_w8 {n : Nat} {σ : ST} {I : IM} (h : LR n σ I) {i k p z : Nat} {v v2 : Int32} (hk : k = 10 ∨ k = 12) (hp : p ≤ 1000) (hz : z ≤ 1) (h12 : ups σ k i v 12 i = nI p) (h10 : ups σ k i v 10 i = nI z) (h8 : v2 = nI (2 * p + z)) : LR n (ups σ k i v) (up2 I QW (9 * i + 8) v2) := by
  refine LR_W h (fun L hL => up2_ne hL) (fun q hq => ups_ne (by omega)) (fun i2 hi2 => ?_)
  rw [up2_at]
  by_cases e : i = i2
  · subst e
    have g : ∀ q, q ≠ 10 → q ≠ 12 → ups σ k i v q i = σ q i := fun q h1 h2 => by rw [ups_ne (by omega)]
    have e : ∀ q, q ≠ 8 → upd (I QW) (9 * i + 8) v2 (9 * i + q) = I QW (9 * i + q) := fun q hq => upd_ne (by omega)
    have e0 : upd (I QW) (9 * i + 8) v2 (9 * i) = I QW (9 * i) := upd_ne (by omega)
    have es : upd (I QW) (9 * i + 8) v2 (9 * i + 8) = v2 := upd_at
    have hA := h.1 i hi2
    unfold LA at *
    rw [e0, e 1 (by decide), e 2 (by decide), e 3 (by decide), es, e 4 (by decide), e 5 (by decide), e 6 (by decide), e 7 (by decide), g 1 (by decide) (by decide), g 2 (by decide) (by decide), g 3 (by decide) (by decide), g 5 (by decide) (by decide), g 6 (by decide) (by decide), g 7 (by decide) (by decide), g 8 (by decide) (by decide), g 9 (by decide) (by decide)]
    exact ⟨hA.1, hA.2.1, hA.2.2.1, hA.2.2.2.1, hA.2.2.2.2.1, hA.2.2.2.2.2.1, hA.2.2.2.2.2.2.1, hA.2.2.2.2.2.2.2.1, ⟨p, z, hp, hz, h12, h10, h8⟩, hA.2.2.2.2.2.2.2.2.2⟩
  · exact LA_ne (h.1 i2 hi2) (by decide) e
theorem ups_2 {σ : ST} {k j j2 : Nat} {v : Int32} : ups σ k j v k j2 = if j2 = j then v else σ k j2 := by
  rw [ups_at]
  rfl
theorem LR_lov {n : Nat} {σ : ST} {I : IM} (h : LR n σ I) {t i : Nat} {v : Int32} (hv : ∃ u, u ≤ 99 ∧ (v = nI u ∨ v = -nI u)) (hi : i < 7) : LR n (ups σ 4 (10 * t + i) v) (up2 I QV (7 * t + i) v) := by
  refine LR_V h (fun L hL => up2_ne hL) (fun q hq => ups_ne hq) (fun t2 ht2 i2 hi2 => ?_)
  rw [up2_at, ups_at]
  unfold upd
  by_cases e : t2 = t ∧ i2 = i
  · rw [if_pos (by omega), if_pos (by omega)]; exact ⟨rfl, hv⟩
  · rw [if_neg (by omega), if_neg (by omega)]; exact h.2.1 t2 ht2 i2 hi2
theorem LR_cl {n : Nat} {σ : ST} {I : IM} (h : LR n σ I) {t i : Nat} {v : Int32} (hi : i < 7) : LR n (ups σ 11 (10 * t + i) v) (up2 I QC (7 * t + i) v) := by
  refine LR_C h (fun L hL => up2_ne hL) (fun q hq => ups_ne hq) (fun t2 ht2 i2 hi2 => ?_)
  rw [up2_at, ups_at]
  unfold upd
  by_cases e : t2 = t ∧ i2 = i
  · rw [if_pos (by omega), if_pos (by omega)]
  · rw [if_neg (by omega), if_neg (by omega)]; exact h.2.2.1 t2 ht2 i2 hi2
theorem LR_bt {n : Nat} {σ : ST} {I : IM} (h : LR n σ I) {t i : Nat} {v : Int32} (hi : i < 7) : LR n (ups σ 13 (10 * t + i) v) (up2 I QB (7 * t + i) v) := by
  refine LR_B h (fun L hL => up2_ne hL) (fun q hq => ups_ne hq) (fun t2 ht2 i2 hi2 => ?_)
  rw [up2_at, ups_at]
  unfold upd
  by_cases e : t2 = t ∧ i2 = i
  · rw [if_pos (by omega), if_pos (by omega)]
  · rw [if_neg (by omega), if_neg (by omega)]; exact h.2.2.2.1 t2 ht2 i2 hi2
theorem LR_gt {n : Nat} {σ : ST} {I : IM} (h : LR n σ I) {t : Nat} {v : Int32} : LR n (ups σ 23 t v) (up2 I QM (14 + t) v) := by
  refine LR_G h (fun L hL => up2_ne hL) (fun j hj => by rw [up2_at, upd_ne (by omega)]) (fun q hq => ups_ne hq) (fun t2 ht2 => ?_)
  rw [up2_at, ups_at]
  unfold upd
  by_cases e : t2 = t
  · rw [if_pos (by omega), if_pos e]
  · rw [if_neg (by omega), if_neg e]; exact h.2.2.2.2.2.2.2.2.1 t2 ht2
theorem crn_o2 {σ : ST} {t l : Nat} {x y : Int32} {k : Nat} (h : k < 15 ∨ 18 ≤ k) : crn σ t l x y k = σ k := by
  unfold crn
  rw [ups_ne (by omega), ups_ne (by omega), ups_ne (by omega)]
theorem lnO_up {σ : ST} {t l : Nat} {x y : Int32} (hl : l < 2000) : chO (crn σ t l x y) t = x := by
  unfold chO
  have e17 : crn σ t l x y 17 t = nI (l + 1) := by unfold crn; rw [ups_at, upd_at]
  have e15 : crn σ t l x y 15 (2000 * t + l) = x := by unfold crn; rw [ups_ne (by decide), ups_ne (by decide), ups_at, upd_at]
  rw [e17, if_neg (fun e => by have := (nI_eq (show l + 1 < 2147483648 by omega) (show 0 < 2147483648 by decide)).mp e; omega), nI_clamp (by omega), Nat.add_sub_cancel, e15]
theorem chO_crn_ne {σ : ST} {t t2 l : Nat} {x y : Int32} (hl : l < 2000) (hn : t2 ≠ t) (hl2 : (σ 17 t2).toNatClampNeg ≤ 2000) : chO (crn σ t l x y) t2 = chO σ t2 := by
  unfold chO
  have e17 : crn σ t l x y 17 t2 = σ 17 t2 := by unfold crn; rw [ups_at, upd_ne hn, ups_ne (by decide), ups_ne (by decide)]
  have e15 : ∀ j, j < 2000 → crn σ t l x y 15 (2000 * t2 + j) = σ 15 (2000 * t2 + j) := fun j hj => by
    unfold crn
    rw [ups_ne (by decide), ups_ne (by decide), ups_at, upd_ne (by omega)]
  rw [e17, e15 _ (by omega)]
theorem LR_crn {n : Nat} {σ : ST} {I : IM} (h : LR n σ I) {t l : Nat} {x y : Int32} (ht : t < 2) (hl : l < 2000) (h17 : σ 17 t = nI l) (hln : ∀ t, t < 2 → (σ 17 t).toNatClampNeg ≤ 2000) (hx : x = (-1) ∨ ∃ w, w < 7 ∧ x = nI w) : LR n (crn σ t l x y) (up2 (up2 I QM (10 + t) (x + nI 1)) QM (12 + t) (I QM (12 + t) + nI 1)) := by
  have eQ : ∀ j, up2 (up2 I QM (10 + t) (x + nI 1)) QM (12 + t) (I QM (12 + t) + nI 1) QM j = if j = 12 + t then I QM (12 + t) + nI 1 else if j = 10 + t then x + nI 1 else I QM j := fun j => by
    rw [up2_at]; unfold upd
    rw [up2_at]; rfl
  refine LR_T h (fun L hL => by rw [up2_ne hL, up2_ne hL]) (fun j hj => by rw [eQ, if_neg (by omega), if_neg (by omega)]) (fun k hk => crn_o2 hk) (fun t2 ht2 => ?_)
  have h8 := h.2.2.2.2.2.2.2.1
  by_cases e : t2 = t
  · subst e
    refine ⟨?_, ?_, ?_⟩
    · rw [eQ, if_neg (by omega), if_pos rfl, lnO_up hl]
    · rw [eQ, if_pos rfl, (h8 t2 ht2).2.1, h17]
      unfold crn
      rw [ups_at, upd_at]
      exact nI_add l 1
    · rw [lnO_up hl]; exact hx
  · refine ⟨?_, ?_, ?_⟩
    · rw [eQ, if_neg (by omega), if_neg (by omega), chO_crn_ne hl e (hln t2 ht2)]; exact (h8 t2 ht2).1
    · rw [eQ, if_neg (by omega), if_neg (by omega), (h8 t2 ht2).2.1]
      unfold crn
      rw [ups_at, upd_ne e, ups_ne (by decide), ups_ne (by decide)]
    · rw [chO_crn_ne hl e (hln t2 ht2)]; exact (h8 t2 ht2).2.2
/-- all that stands at a step of the law -/
def WQ (L n : Nat) (σ : ST) (K : KM) (I : IM) (R : RM) : Prop := CW n σ K I R ∧ LR n σ I ∧ KQ K ∧ K SC0 = some (14, L)
theorem KQ_K {K K' : KM} {R R' : RM} (h : KQ K) (hF : FrKR K K' R R') : KQ K' := by
  unfold KQ at *
  rw [(hF QW (by decide)).1, (hF QV (by decide)).1, (hF QC (by decide)).1, (hF QB (by decide)).1, (hF QK (by decide)).1, (hF QM (by decide)).1]
  exact h

theorem mn1 : ∀ v, v < 100 → ((nI 50 ≤ (-1) * nI v ↔ nI v ≤ (-50)) ∧ (nI 50 ≤ (-1) * (-nI v) ↔ -nI v ≤ (-50))) := by decide +kernel
theorem mul_neg {x : Int32} {v : Nat} (hv : v ≤ 99) (h : x = nI v ∨ x = -nI v) : nI 50 ≤ (-1) * x ↔ x ≤ (-50) := by
  have := mn1 v (by omega)
  rcases h with rfl | rfl
  · exact this.1
  · exact this.2
theorem trl_ok {n : Nat} {σ : ST} {I : IM} (h : LR n σ I) {i : Nat} (hi : i < 7) : trl (σ 3 i) (cnt (tuP I i (sgn (σ 3 i))) 4) = trn (σ 3 i) (cnt (fun t => nI 50 ≤ σ 4 (10 * t + i)) 4) (cnt (fun t => σ 4 (10 * t + i) ≤ (-50)) 4) := by
  have hr := (h.1 i hi).2.2.2.2.2.2.2.2.2.2
  have n1 : ¬ nI 0 = nI 1 := by decide
  rcases hr with e | e
  · rw [e]
    have e1 : cnt (tuP I i (sgn (nI 0))) 4 = cnt (fun t => σ 4 (10 * t + i) ≤ (-50)) 4 := cnt_congr (fun t ht => by
      obtain ⟨e4, v, hv, hv2⟩ := h.2.1 t ht i hi
      unfold tuP sgn
      rw [if_neg n1, e4]
      exact mul_neg hv hv2)
    rw [e1]
    unfold trl trn
    by_cases hc : 1 < cnt (fun t => σ 4 (10 * t + i) ≤ (-50)) 4
    · rw [if_pos hc, if_neg (fun q => n1 q.1), if_pos ⟨rfl, hc⟩]; rfl
    · rw [if_neg hc, if_neg (fun q => n1 q.1), if_neg (fun q => hc q.2)]
  · rw [e]
    have e1 : cnt (tuP I i (sgn (nI 1))) 4 = cnt (fun t => nI 50 ≤ σ 4 (10 * t + i)) 4 := cnt_congr (fun t ht => by
      obtain ⟨e4, v, hv, hv2⟩ := h.2.1 t ht i hi
      unfold tuP sgn
      rw [if_pos rfl, e4, show nI 1 = (1 : Int32) from rfl, Int32.one_mul])
    rw [e1]
    unfold trl trn
    by_cases hc : 1 < cnt (fun t => nI 50 ≤ σ 4 (10 * t + i)) 4
    · rw [if_pos hc, if_pos ⟨rfl, hc⟩]; rfl
    · rw [if_neg hc, if_neg (fun q => hc q.2), if_neg (fun q => n1 q.1.symm)]
