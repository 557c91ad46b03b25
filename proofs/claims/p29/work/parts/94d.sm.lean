/-! sums of nothing -/
theorem smI_00 {f : Nat → Int32} : ∀ {n : Nat}, (∀ k, k < n → f k = nI 0) → smI f n = nI 0
  | 0, _ => rfl
  | n + 1, h => by
    show smI f n + f n = nI 0
    rw [smI_00 (fun k hk => h k (by omega)), h n (by omega)]; rfl
theorem smI_lt {f : Nat → Int32} {a : Nat} : ∀ {n : Nat}, a ≤ n → (∀ k, a ≤ k → k < n → f k = nI 0) → smI f n = smI f a
  | 0, h, _ => by rw [show a = 0 by omega]
  | n + 1, h, h0 => by
    by_cases e : a = n + 1
    · rw [e]
    · show smI f n + f n = smI f a
      rw [h0 n (by omega) (by omega), add0]
      exact smI_lt (by omega) (fun k h1 h2 => h0 k h1 (by omega))
theorem won10 {n : Nat} {σ : ST} (hV : IV n σ) {x : Nat} (hx : x < 10) : smI (fun k => σ 13 (10 * x + k)) (pn σ) = smI (fun k => σ 13 (10 * x + k)) 10 := by
  have hp := hV.1.2
  refine (smI_lt hp (fun o h1 h2 => ?_)).symm
  rw [hV.2.2.2.2.2.2 x o hx h2]
  refine smI_00 (fun d hd => ?_)
  split
  · refine smI_00 (fun j hj => if_neg (fun q => ?_))
    have hc := (hV.2.2.2.2.2.1 d hd).2.2.2.2.1 j hj
    obtain ⟨⟨f, hf, ef⟩, ⟨s, hs, es⟩, -⟩ := hc
    have h3 := q.2.2
    unfold lsr at h3
    split at h3
    · rw [es] at h3
      have := nI_inj h3 (by omega) (by omega)
      omega
    · rw [ef] at h3
      have := nI_inj h3 (by omega) (by omega)
      omega
  · rfl
theorem CW_up {n : Nat} {σ : ST} {K : KM} {I : IM} {R : RM} (h : CW n σ K I R) : CW (n + 1) σ K I R := ⟨h.1, h.2.1, IV_up h.2.2 (Nat.le_succ n)⟩
theorem day_x {σ : ST} {day : Int32} (hd : dn σ ≤ 999) : inr day (nI (dn σ)) (nI 999) ↔ ∃ x, dn σ ≤ x ∧ x < 1000 ∧ day = nI x := by
  constructor
  · intro h
    have a1 := Int32.le_iff_toInt_le.mp h.1
    have a2 := Int32.le_iff_toInt_le.mp h.2
    rw [nI_toInt (by omega)] at a1 a2
    obtain ⟨x, hx, ex⟩ := (isN_i (x := day) (n := 1000) (by decide)).mpr ⟨by omega, by omega⟩
    refine ⟨x, ?_, hx, ex⟩
    rw [ex, nI_toInt (by omega)] at a1
    omega
  · rintro ⟨x, h1, h2, rfl⟩
    exact ⟨nI_le h1 (by omega), nI_le (by omega) (by decide)⟩
