/-! more elementary changes -/
theorem smI_up {f g : Nat → Int32} {o n : Nat} (ho : o < n) (h1 : g o = f o + nI 1) (h : ∀ k, k ≠ o → g k = f k) : smI g n = smI f n + nI 1 := by
  induction n with
  | zero => exact absurd ho (Nat.not_lt_zero _)
  | succ n ih =>
    show smI g n + g n = smI f n + f n + nI 1
    by_cases e : o = n
    · subst e
      rw [smI_congr (g := f) (fun k hk => h k (by omega)), h1, Int32.add_assoc]
    · rw [ih (by omega), h n (Ne.symm e), Int32.add_assoc, Int32.add_assoc, Int32.add_comm (nI 1)]
theorem RC_love {σ : ST} {I : IM} {R : RM} (h : RC σ I R) {w t : Nat} (hw : w < 10) (v : Int32) : RC (ups σ 4 (10 * t + w) v) (up2 I (LV w) t v) R := by
  refine RC_W h (fun L hL => up2_ne (fun e => by subst e; revert hL; simp)) (fun q hq => ups_ne (by omega)) (fun q hq2 => ?_)
  have hq := h.2.2.1 q hq2
  by_cases e : q = w
  · subst e
    unfold RCw prO at hq ⊢
    rw [up2_ne (show WR q ≠ LV q by simp), up2_at, up2_ne (show CD q ≠ LV q by simp), up2_ne (show WA q ≠ LV q by simp)]
    obtain ⟨h3, h4, h5, h6, h7, h8, h9, h10, h11, h12, hl, hc, ha, hp⟩ := hq
    refine ⟨?_, ?_, ?_, ?_, ?_, ?_, ?_, ?_, ?_, ?_, ?_, ?_, ?_, ?_⟩
    · rw [ups_ne (by decide)]; exact h3
    · rw [ups_ne (by decide)]; exact h4
    · rw [ups_ne (by decide)]; exact h5
    · rw [ups_ne (by decide)]; exact h6
    · rw [ups_ne (by decide)]; exact h7
    · rw [ups_ne (by decide)]; exact h8
    · exact (show _ = smI (fun k => ups σ 4 (10 * t + q) v 13 (10 * q + k)) 10 by rw [ups_ne (by decide)]; exact h9)
    · rw [ups_ne (by decide)]; exact h10
    · rw [ups_ne (by decide)]; exact h11
    · rw [ups_ne (by decide)]; exact h12
    · intro s hs
      rw [ups_at]
      by_cases es : s = t
      · subst es
        rw [upd_at, upd_at]
      · rw [upd_ne es, upd_ne (by omega)]
        exact hl s hs
    · rw [ups_ne (by decide)]; exact hc
    · rw [ups_ne (by decide)]; exact ha
    · rw [ups_ne (by decide), ups_ne (by decide)]; exact hp
  · refine RCw_eq2 e (fun k hk => ?_) (up2_ne (by simp)) (up2_ne (by simp [e])) (up2_ne (by simp)) (up2_ne (by simp)) hq
    by_cases ek : k = 4
    · subst ek
      exact Or.inr (Or.inr (Or.inl ⟨rfl, fun s hs => by rw [ups_at, upd_ne (by omega)]⟩))
    · exact Or.inl (ups_ne ek)
theorem RC_clause {σ : ST} {I : IM} {R : RM} (h : RC σ I R) {w o : Nat} (ho : o < 10) (v : Int32) : RC (ups σ 11 (10 * w + o) (v + nI 1)) (up2 I (CD w) o v) R := by
  refine RC_W h (fun L hL => up2_ne (fun e => by subst e; revert hL; simp)) (fun q hq => ups_ne (by omega)) (fun q hq2 => ?_)
  have hq := h.2.2.1 q hq2
  by_cases e : q = w
  · subst e
    unfold RCw prO at hq ⊢
    rw [up2_ne (show WR q ≠ CD q by simp), up2_at, up2_ne (show LV q ≠ CD q by simp), up2_ne (show WA q ≠ CD q by simp)]
    obtain ⟨h3, h4, h5, h6, h7, h8, h9, h10, h11, h12, hl, hc, ha, hp⟩ := hq
    refine ⟨?_, ?_, ?_, ?_, ?_, ?_, ?_, ?_, ?_, ?_, ?_, ?_, ?_, ?_⟩
    · rw [ups_ne (by decide)]; exact h3
    · rw [ups_ne (by decide)]; exact h4
    · rw [ups_ne (by decide)]; exact h5
    · rw [ups_ne (by decide)]; exact h6
    · rw [ups_ne (by decide)]; exact h7
    · rw [ups_ne (by decide)]; exact h8
    · exact (show _ = smI (fun k => ups σ 11 (10 * q + o) (v + nI 1) 13 (10 * q + k)) 10 by rw [ups_ne (by decide)]; exact h9)
    · rw [ups_ne (by decide)]; exact h10
    · rw [ups_ne (by decide)]; exact h11
    · rw [ups_ne (by decide)]; exact h12
    · rw [ups_ne (by decide)]; exact hl
    · intro s hs
      rw [ups_at]
      by_cases es : s = o
      · subst es
        rw [upd_at, upd_at]
      · rw [upd_ne es, upd_ne (by omega)]
        exact hc s hs
    · rw [ups_ne (by decide)]; exact ha
    · rw [ups_ne (by decide), ups_ne (by decide)]; exact hp
  · refine RCw_eq2 e (fun k hk => ?_) (up2_ne (by simp)) (up2_ne (by simp)) (up2_ne (by simp [e])) (up2_ne (by simp)) hq
    by_cases ek : k = 11
    · subst ek
      exact Or.inr (Or.inr (Or.inr ⟨Or.inl rfl, fun s hs => by rw [ups_at, upd_ne (by omega)]⟩))
    · exact Or.inl (ups_ne ek)
theorem RC_beat {σ : ST} {I : IM} {R : RM} (h : RC σ I R) {w o : Nat} (hw : w < 10) (ho : o < 10) : RC (ups σ 13 (10 * w + o) (σ 13 (10 * w + o) + nI 1)) (up2 (up2 I (WR w) 9 (I (WR w) 9 + nI 1)) (WA w) o (I (WA w) o + nI 1)) R := by
  refine RC_W h (fun L hL => by rw [up2_ne (fun e => by subst e; revert hL; simp), up2_ne (fun e => by subst e; revert hL; simp)]) (fun q hq => ups_ne (by omega)) (fun q hq2 => ?_)
  have hq := h.2.2.1 q hq2
  by_cases e : q = w
  · subst e
    unfold RCw prO at hq ⊢
    rw [up2_ne (show WR q ≠ WA q by simp), up2_at, up2_ne (show LV q ≠ WA q by simp), up2_ne (show LV q ≠ WR q by simp), up2_ne (show CD q ≠ WA q by simp), up2_ne (show CD q ≠ WR q by simp), up2_at]
    obtain ⟨h3, h4, h5, h6, h7, h8, h9, h10, h11, h12, hl, hc, ha, hp⟩ := hq
    refine ⟨?_, ?_, ?_, ?_, ?_, ?_, ?_, ?_, ?_, ?_, ?_, ?_, ?_, ?_⟩
    · rw [upd_ne (by decide), ups_ne (by decide)]; exact h3
    · rw [upd_ne (by decide), ups_ne (by decide)]; exact h4
    · rw [upd_ne (by decide), ups_ne (by decide)]; exact h5
    · rw [upd_ne (by decide), ups_ne (by decide)]; exact h6
    · rw [upd_ne (by decide), ups_ne (by decide)]; exact h7
    · rw [upd_ne (by decide), ups_ne (by decide)]; exact h8
    · rw [upd_at, h9]
      exact (smI_up ho (by show ups σ 13 (10 * q + o) _ 13 (10 * q + o) = _; rw [ups_at, upd_at]) (fun k hk => by show ups σ 13 (10 * q + o) _ 13 (10 * q + k) = _; rw [ups_at, upd_ne (by omega)])).symm
    · rw [upd_ne (by decide), ups_ne (by decide)]; exact h10
    · rw [upd_ne (by decide), ups_ne (by decide)]; exact h11
    · rw [upd_ne (by decide), ups_ne (by decide)]; exact h12
    · rw [ups_ne (by decide)]; exact hl
    · rw [ups_ne (by decide)]; exact hc
    · intro s hs
      rw [ups_at]
      by_cases es : s = o
      · subst es
        rw [upd_at, upd_at, ha s hs]
      · rw [upd_ne es, upd_ne (by omega)]
        exact ha s hs
    · rw [upd_ne (by decide), ups_ne (by decide), ups_ne (by decide)]; exact hp
  · refine RCw_eq2 e (fun k hk => ?_) (by rw [up2_ne (by simp), up2_ne (by simp [e])]) (by rw [up2_ne (by simp), up2_ne (by simp)]) (by rw [up2_ne (by simp), up2_ne (by simp)]) (by rw [up2_ne (by simp [e]), up2_ne (by simp)]) hq
    by_cases ek : k = 13
    · subst ek
      exact Or.inr (Or.inr (Or.inr ⟨Or.inr rfl, fun s hs => by rw [ups_at, upd_ne (by omega)]⟩))
    · exact Or.inl (ups_ne ek)
theorem RC_promo {σ : ST} {I : IM} {R : RM} (h : RC σ I R) {w : Nat} : RC (ups σ 10 w (nI 1)) (up2 I (WR w) 13 (σ 0 0)) R := by
  refine RC_W h (fun L hL => up2_ne (fun e => by subst e; revert hL; simp)) (fun q hq => ups_ne (by omega)) (fun q hq2 => ?_)
  have hq := h.2.2.1 q hq2
  by_cases e : q = w
  · subst e
    unfold RCw prO at hq ⊢
    rw [up2_at, up2_ne (show CD q ≠ WR q by simp), up2_ne (show LV q ≠ WR q by simp), up2_ne (show WA q ≠ WR q by simp)]
    obtain ⟨h3, h4, h5, h6, h7, h8, h9, h10, h11, h12, hl, hc, ha, hp⟩ := hq
    refine ⟨?_, ?_, ?_, ?_, ?_, ?_, ?_, ?_, ?_, ?_, ?_, ?_, ?_, ?_⟩
    · rw [upd_ne (by decide), ups_ne (by decide)]; exact h3
    · rw [upd_ne (by decide), ups_ne (by decide)]; exact h4
    · rw [upd_ne (by decide), ups_ne (by decide)]; exact h5
    · rw [upd_ne (by decide), ups_ne (by decide)]; exact h6
    · rw [upd_ne (by decide), ups_ne (by decide)]; exact h7
    · rw [upd_ne (by decide), ups_ne (by decide)]; exact h8
    · rw [upd_ne (by decide)]; exact (show _ = smI (fun k => ups σ 10 q (nI 1) 13 (10 * q + k)) 10 by rw [ups_ne (by decide)]; exact h9)
    · rw [upd_ne (by decide), ups_ne (by decide)]; exact h10
    · rw [upd_ne (by decide), ups_ne (by decide)]; exact h11
    · rw [upd_ne (by decide), ups_ne (by decide)]; exact h12
    · rw [ups_ne (by decide)]; exact hl
    · rw [ups_ne (by decide)]; exact hc
    · rw [ups_ne (by decide)]; exact ha
    · rw [upd_at, ups_at, upd_at, ups_ne (by decide)]; exact Or.inr ⟨rfl, rfl⟩
  · refine RCw_eq2 e (fun k hk => ?_) (up2_ne (by simp [e])) (up2_ne (by simp)) (up2_ne (by simp)) (up2_ne (by simp)) hq
    by_cases ek : k = 10
    · subst ek
      exact Or.inr (Or.inl ⟨by decide, by rw [ups_at]; exact fun j hj => upd_ne hj⟩)
    · exact Or.inl (ups_ne ek)
/-- of the ring's own numbers -/
theorem RC_A {σ σ' : ST} {I I' : IM} {R : RM} (h : RC σ I R) (hI : ∀ L : Lb, L.1 ≠ 4 → L.1 ≠ 8 → I' L = I L) (hσ : ∀ k, k ≠ 14 → k ≠ 18 → k ≠ 23 → σ' k = σ k) (hA : I' RING 6 = σ' 14 0 ∧ I' RING 7 = σ' 18 0 ∧ I' RING 8 = σ' 0 0) (hG : ∀ t, t < 4 → I' GAT t = σ' 23 t) : RC σ' I' R := by
  obtain ⟨-, -, w, t, ⟨n1, n2⟩, c⟩ := h
  refine ⟨hA, hG, fun q hq => ?_, fun q hq => ?_, ⟨?_, ?_⟩, fun q hq => ?_⟩
  · exact RCw_eq (hI _ (by show 12 ≠ 4; decide) (by show 12 ≠ 8; decide)) (hI _ (by show 13 ≠ 4; decide) (by show 13 ≠ 8; decide)) (hI _ (by show 14 ≠ 4; decide) (by show 14 ≠ 8; decide)) (hI _ (by show 15 ≠ 4; decide) (by show 15 ≠ 8; decide)) (fun k hk => hσ k (by omega) (by omega) (by omega)) (w q hq)
  · exact RCt_eq (hI _ (by show 16 ≠ 4; decide) (by show 16 ≠ 8; decide)) (hI _ (by show 17 ≠ 4; decide) (by show 17 ≠ 8; decide)) (hI _ (by show 18 ≠ 4; decide) (by show 18 ≠ 8; decide)) (hσ 15 (by decide) (by decide) (by decide)) (hσ 16 (by decide) (by decide) (by decide)) (hσ 17 (by decide) (by decide) (by decide)) (t q hq)
  · rw [hI (CA 1000) (by decide) (by decide)]; exact n1
  · rw [hI (CA 1000) (by decide) (by decide)]; exact n2
  · exact RCc_eq (hI _ (by show 19 ≠ 4; decide) (by show 19 ≠ 8; decide)) (fun j => hI _ (by show 21 ≠ 4; decide) (by show 21 ≠ 8; decide)) (hσ 19 (by decide) (by decide) (by decide)) (hσ 20 (by decide) (by decide) (by decide)) (hσ 21 (by decide) (by decide) (by decide)) (hσ 22 (by decide) (by decide) (by decide)) (c q hq)
theorem RC_people {σ : ST} {I : IM} {R : RM} (h : RC σ I R) (v : Int32) : RC (sets σ 14 v) (up2 I RING 6 v) R := RC_A h (fun L h4 h8 => up2_ne (fun e => by subst e; exact h4 rfl)) (fun k a b c => sets_ne a) ⟨by rw [up2_at, upd_at, sets_at], by rw [up2_at, upd_ne (by decide), sets_ne (by decide)]; exact h.1.2.1, by rw [up2_at, upd_ne (by decide), sets_ne (by decide)]; exact h.1.2.2⟩ (fun t ht => by rw [up2_ne (by simp), sets_ne (by decide)]; exact h.2.1 t ht)
theorem RC_titles {σ : ST} {I : IM} {R : RM} (h : RC σ I R) (v : Int32) : RC (sets σ 18 v) (up2 I RING 7 v) R := RC_A h (fun L h4 h8 => up2_ne (fun e => by subst e; exact h4 rfl)) (fun k a b c => sets_ne b) ⟨by rw [up2_at, upd_ne (by decide), sets_ne (by decide)]; exact h.1.1, by rw [up2_at, upd_at, sets_at], by rw [up2_at, upd_ne (by decide), sets_ne (by decide)]; exact h.1.2.2⟩ (fun t ht => by rw [up2_ne (by simp), sets_ne (by decide)]; exact h.2.1 t ht)
theorem RC_gate {σ : ST} {I : IM} {R : RM} (h : RC σ I R) {t : Nat} (v : Int32) : RC (ups σ 23 t v) (up2 I GAT t v) R := RC_A h (fun L h4 h8 => up2_ne (fun e => by subst e; exact h8 rfl)) (fun k a b c => ups_ne c) ⟨by rw [up2_ne (by simp), ups_ne (by decide)]; exact h.1.1, by rw [up2_ne (by simp), ups_ne (by decide)]; exact h.1.2.1, by rw [up2_ne (by simp), ups_ne (by decide)]; exact h.1.2.2⟩ (fun q hq => by
  rw [up2_at, ups_at]
  by_cases e : q = t
  · subst e; rw [upd_at, upd_at]
  · rw [upd_ne e, upd_ne e]; exact h.2.1 q hq)
/-- a title gets one more row -/
def crn (σ : ST) (t l : Nat) (x y : Int32) : ST := ups (ups (ups σ 15 (2000 * t + l) x) 16 (2000 * t + l) y) 17 t (nI (l + 1))
theorem RC_crown {σ : ST} {I : IM} {R : RM} (h : RC σ I R) {t l : Nat} (ht : t < 4) (hl : σ 17 t = nI l) (hl5 : l < 512) (hall : ∀ q, q < 4 → (σ 17 q).toNatClampNeg ≤ 512) (x y : Int32) : RC (crn σ t l x y) (up2 (up2 (up2 (up2 I (TT t) 3 x) (TH t) l x) (TD t) l y) (TT t) 2 (nI (l + 1))) R := by
  refine RC_T h (fun L hL => by rw [up2_ne (fun e => by subst e; revert hL; simp), up2_ne (fun e => by subst e; revert hL; simp), up2_ne (fun e => by subst e; revert hL; simp), up2_ne (fun e => by subst e; revert hL; simp)]) (fun k hk => by unfold crn; rw [ups_ne (by omega), ups_ne (by omega), ups_ne (by omega)]) (fun q hq2 => ?_)
  have hq := h.2.2.2.1 q hq2
  by_cases e : q = t
  · subst e
    unfold RCt chO at hq ⊢
    obtain ⟨h1, h2, h3⟩ := hq
    have e17 : crn σ q l x y 17 q = nI (l + 1) := by unfold crn; rw [ups_at, upd_at]
    have e15 : crn σ q l x y 15 = upd (σ 15) (2000 * q + l) x := by unfold crn; rw [ups_ne (by decide), ups_ne (by decide), ups_at]
    have e16 : crn σ q l x y 16 = upd (σ 16) (2000 * q + l) y := by unfold crn; rw [ups_ne (by decide), ups_at, ups_ne (by decide)]
    rw [e17, e15, e16, nI_clamp (by omega)]
    rw [hl, nI_clamp (by omega)] at h3
    refine ⟨by rw [up2_at, upd_at], ?_, fun j hj => ⟨?_, ?_⟩⟩
    · rw [up2_at, upd_ne (by decide), up2_ne (by simp), up2_ne (by simp), up2_at, upd_at, if_neg (show ¬ nI (l + 1) = nI 0 from nI_ne0 (Nat.succ_pos l) (by omega)), show l + 1 - 1 = l by omega, upd_at]
    · rw [up2_ne (by simp), up2_ne (by simp), up2_at, up2_ne (by simp)]
      by_cases ej : j = l
      · subst ej; rw [upd_at, upd_at]
      · rw [upd_ne ej, upd_ne (by omega)]; exact (h3 j (by omega)).1
    · rw [up2_ne (by simp), up2_at, up2_ne (by simp), up2_ne (by simp)]
      by_cases ej : j = l
      · subst ej; rw [upd_at, upd_at]
      · rw [upd_ne ej, upd_ne (by omega)]; exact (h3 j (by omega)).2
  · have hb := hall q hq2
    unfold RCt chO at hq ⊢
    obtain ⟨h1, h2, h3⟩ := hq
    have e17 : crn σ t l x y 17 q = σ 17 q := by unfold crn; rw [ups_at, upd_ne e, ups_ne (by decide), ups_ne (by decide)]
    have e15 : ∀ j, j < 2000 → crn σ t l x y 15 (2000 * q + j) = σ 15 (2000 * q + j) := fun j hj => by unfold crn; rw [ups_ne (by decide), ups_ne (by decide), ups_at, upd_ne (by omega)]
    have e16 : ∀ j, j < 2000 → crn σ t l x y 16 (2000 * q + j) = σ 16 (2000 * q + j) := fun j hj => by unfold crn; rw [ups_ne (by decide), ups_at, upd_ne (by omega), ups_ne (by decide)]
    rw [e17, e15 _ (by omega)]
    have eT : ∀ k, up2 (up2 (up2 (up2 I (TT t) 3 x) (TH t) l x) (TD t) l y) (TT t) 2 (nI (l + 1)) (TT q) k = I (TT q) k := fun k => by rw [up2_ne (by simp [e]), up2_ne (by simp), up2_ne (by simp), up2_ne (by simp [e])]
    rw [eT, eT]
    refine ⟨h1, h2, fun j hj => ?_⟩
    rw [up2_ne (by simp), up2_ne (by simp), up2_ne (by simp [e]), up2_ne (by simp), e15 j (by omega), e16 j (by omega), up2_ne (by simp), up2_ne (by simp [e]), up2_ne (by simp), up2_ne (by simp)]
    exact h3 j hj

