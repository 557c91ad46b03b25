/-! the class held against the reference's numbers -/
def chO (σ : ST) (t : Nat) : Int32 := if σ 17 t = nI 0 then (-1) else σ 15 (2000 * t + ((σ 17 t).toNatClampNeg - 1))
/-- said a promo today, or not -/
def prO (σ : ST) (I : IM) (w : Nat) : Prop := (σ 10 w = nI 0 ∧ (I (WR w) 13 = (-1) ∨ ∃ e, e < (σ 0 0).toNatClampNeg ∧ I (WR w) 13 = nI e)) ∨ (σ 10 w = nI 1 ∧ I (WR w) 13 = σ 0 0)
def RCw (σ : ST) (I : IM) (w : Nat) : Prop := I (WR w) 3 = σ 1 w ∧ I (WR w) 4 = σ 2 w ∧ I (WR w) 5 = σ 3 w ∧ I (WR w) 6 = σ 5 w ∧ I (WR w) 7 = σ 6 w ∧ I (WR w) 8 = σ 7 w ∧ I (WR w) 9 = smI (fun k => σ 13 (10 * w + k)) 10 ∧ I (WR w) 10 = σ 8 w ∧ I (WR w) 11 = σ 9 w ∧ I (WR w) 12 = σ 12 w ∧ (∀ t, t < 4 → I (LV w) t = σ 4 (10 * t + w)) ∧ (∀ o, o < 10 → I (CD w) o + nI 1 = σ 11 (10 * w + o)) ∧ (∀ o, o < 10 → I (WA w) o = σ 13 (10 * w + o)) ∧ prO σ I w
def RCt (σ : ST) (I : IM) (t : Nat) : Prop := I (TT t) 2 = σ 17 t ∧ I (TT t) 3 = chO σ t ∧ ∀ j, j < (σ 17 t).toNatClampNeg → I (TH t) j = σ 15 (2000 * t + j) ∧ I (TD t) j = σ 16 (2000 * t + j)
def pm (R : RM) (c j : Nat) : Nat := match R (MM c) j with
  | some L => L.2.2
  | none => 0
/-- a match of a card -/
def RCm (σ : ST) (I : IM) (d j : Nat) (L : Lb) : Prop := I L 0 = σ 19 (36 * d + 6 * j) ∧ I L 1 = σ 19 (36 * d + 6 * j + 1) ∧ ((I L 2 = nI 1 ∧ σ 19 (36 * d + 6 * j + 2) = nI 0) ∨ (I L 2 = nI 0 ∧ σ 19 (36 * d + 6 * j + 2) = nI 1)) ∧ I L 3 = σ 19 (36 * d + 6 * j + 3) ∧ I L 4 = σ 19 (36 * d + 6 * j + 4) ∧ I L 5 = σ 19 (36 * d + 6 * j + 5)
def mn (σ : ST) (d : Nat) : Nat := (σ 20 d).toNatClampNeg
def RCc (σ : ST) (I : IM) (R : RM) (d : Nat) : Prop := (R CRD d = none ∧ σ 20 d = nI 0 ∧ σ 22 d = nI 0) ∨ (R CRD d = some (CA d) ∧ I (CA d) 2 = σ 20 d ∧ I (CA d) 3 = σ 22 d ∧ (mn σ d ≠ 0 → I (CA d) 1 = σ 21 d) ∧ ∀ j, j < mn σ d → RCm σ I d j (MT d (pm R d j)))
def RC (σ : ST) (I : IM) (R : RM) : Prop := (I RING 6 = σ 14 0 ∧ I RING 7 = σ 18 0 ∧ I RING 8 = σ 0 0) ∧ (∀ t, t < 4 → I GAT t = σ 23 t) ∧ (∀ w, w < 10 → RCw σ I w) ∧ (∀ t, t < 4 → RCt σ I t) ∧ (I (CA 1000) 2 = nI 0 ∧ I (CA 1000) 3 = nI 0) ∧ ∀ d, d < 1000 → RCc σ I R d
theorem RCw_eq {σ σ' : ST} {I I' : IM} {w : Nat} (h12 : I' (WR w) = I (WR w)) (h13 : I' (LV w) = I (LV w)) (h14 : I' (CD w) = I (CD w)) (h15 : I' (WA w) = I (WA w)) (hσ : ∀ k, k < 14 → σ' k = σ k) (h : RCw σ I w) : RCw σ' I' w := by
  unfold RCw prO at *
  rw [h12, h13, h14, h15, hσ 0 (by decide), hσ 1 (by decide), hσ 2 (by decide), hσ 3 (by decide), hσ 4 (by decide), hσ 5 (by decide), hσ 6 (by decide), hσ 7 (by decide), hσ 8 (by decide), hσ 9 (by decide), hσ 10 (by decide), hσ 11 (by decide), hσ 12 (by decide), hσ 13 (by decide)]
  exact h
theorem RCt_eq {σ σ' : ST} {I I' : IM} {t : Nat} (h16 : I' (TT t) = I (TT t)) (h17 : I' (TH t) = I (TH t)) (h18 : I' (TD t) = I (TD t)) (e15 : σ' 15 = σ 15) (e16 : σ' 16 = σ 16) (e17 : σ' 17 = σ 17) (h : RCt σ I t) : RCt σ' I' t := by
  unfold RCt chO at *
  rw [h16, h17, h18, e15, e16, e17]
  exact h
theorem RCm_eq {σ σ' : ST} {I I' : IM} {d j : Nat} {L : Lb} (h : I' L = I L) (e19 : σ' 19 = σ 19) (q : RCm σ I d j L) : RCm σ' I' d j L := by
  unfold RCm at *
  rw [h, e19]
  exact q
theorem RCc_eq {σ σ' : ST} {I I' : IM} {R : RM} {d : Nat} (hC : I' (CA d) = I (CA d)) (hM : ∀ j, I' (MT d j) = I (MT d j)) (e19 : σ' 19 = σ 19) (e20 : σ' 20 = σ 20) (e21 : σ' 21 = σ 21) (e22 : σ' 22 = σ 22) (h : RCc σ I R d) : RCc σ' I' R d := by
  unfold RCc mn at *
  rw [hC, e20, e21, e22]
  rcases h with h | ⟨h1, h2, h3, h4, h5⟩
  · exact Or.inl h
  · exact Or.inr ⟨h1, h2, h3, h4, fun j hj => RCm_eq (hM _) e19 (h5 j hj)⟩
/-- only wrestlers change -/
theorem RC_W {σ σ' : ST} {I I' : IM} {R : RM} (h : RC σ I R) (hI : ∀ L : Lb, (L.1 < 12 ∨ 15 < L.1) → I' L = I L) (hσ : ∀ k, (k = 0 ∨ 14 ≤ k) → σ' k = σ k) (hW : ∀ w, w < 10 → RCw σ' I' w) : RC σ' I' R := by
  obtain ⟨⟨a1, a2, a3⟩, g, w, t, ⟨n1, n2⟩, c⟩ := h
  refine ⟨⟨?_, ?_, ?_⟩, fun q hq => ?_, hW, fun q hq => ?_, ⟨?_, ?_⟩, fun q hq => ?_⟩
  · rw [hI RING (by decide), hσ 14 (by decide)]; exact a1
  · rw [hI RING (by decide), hσ 18 (by decide)]; exact a2
  · rw [hI RING (by decide), hσ 0 (by decide)]; exact a3
  · rw [hI GAT (by decide), hσ 23 (by decide)]; exact g q hq
  · exact RCt_eq (hI _ (Or.inr (by show 15 < 16; decide))) (hI _ (Or.inr (by show 15 < 17; decide))) (hI _ (Or.inr (by show 15 < 18; decide))) (hσ 15 (by decide)) (hσ 16 (by decide)) (hσ 17 (by decide)) (t q hq)
  · rw [hI (CA 1000) (by decide)]; exact n1
  · rw [hI (CA 1000) (by decide)]; exact n2
  · exact RCc_eq (hI _ (Or.inr (by show 15 < 19; decide))) (fun j => hI _ (Or.inr (by show 15 < 21; decide))) (hσ 19 (by decide)) (hσ 20 (by decide)) (hσ 21 (by decide)) (hσ 22 (by decide)) (c q hq)
/-- only titles change -/
theorem RC_T {σ σ' : ST} {I I' : IM} {R : RM} (h : RC σ I R) (hI : ∀ L : Lb, (L.1 < 16 ∨ 18 < L.1) → I' L = I L) (hσ : ∀ k, (k < 15 ∨ 18 ≤ k) → σ' k = σ k) (hT : ∀ t, t < 4 → RCt σ' I' t) : RC σ' I' R := by
  obtain ⟨⟨a1, a2, a3⟩, g, w, t, ⟨n1, n2⟩, c⟩ := h
  refine ⟨⟨?_, ?_, ?_⟩, fun q hq => ?_, fun q hq => ?_, hT, ⟨?_, ?_⟩, fun q hq => ?_⟩
  · rw [hI RING (by decide), hσ 14 (by decide)]; exact a1
  · rw [hI RING (by decide), hσ 18 (by decide)]; exact a2
  · rw [hI RING (by decide), hσ 0 (by decide)]; exact a3
  · rw [hI GAT (by decide), hσ 23 (by decide)]; exact g q hq
  · exact RCw_eq (hI _ (Or.inl (by show 12 < 16; decide))) (hI _ (Or.inl (by show 13 < 16; decide))) (hI _ (Or.inl (by show 14 < 16; decide))) (hI _ (Or.inl (by show 15 < 16; decide))) (fun k hk => hσ k (by omega)) (w q hq)
  · rw [hI (CA 1000) (by decide)]; exact n1
  · rw [hI (CA 1000) (by decide)]; exact n2
  · exact RCc_eq (hI _ (Or.inr (by show 18 < 19; decide))) (fun j => hI _ (Or.inr (by show 18 < 21; decide))) (hσ 19 (by decide)) (hσ 20 (by decide)) (hσ 21 (by decide)) (hσ 22 (by decide)) (c q hq)
/-- only cards change -/
theorem RC_C {σ σ' : ST} {I I' : IM} {R R' : RM} (h : RC σ I R) (hI : ∀ L : Lb, L.1 < 19 → I' L = I L) (hσ : ∀ k, (k < 19 ∨ 23 ≤ k) → σ' k = σ k) (hN : I' (CA 1000) 2 = nI 0 ∧ I' (CA 1000) 3 = nI 0) (hC : ∀ d, d < 1000 → RCc σ' I' R' d) : RC σ' I' R' := by
  obtain ⟨⟨a1, a2, a3⟩, g, w, t, ⟨n1, n2⟩, c⟩ := h
  refine ⟨⟨?_, ?_, ?_⟩, fun q hq => ?_, fun q hq => ?_, fun q hq => ?_, hN, hC⟩
  · rw [hI RING (by decide), hσ 14 (by decide)]; exact a1
  · rw [hI RING (by decide), hσ 18 (by decide)]; exact a2
  · rw [hI RING (by decide), hσ 0 (by decide)]; exact a3
  · rw [hI GAT (by decide), hσ 23 (by decide)]; exact g q hq
  · exact RCw_eq (hI _ (by show 12 < 19; decide)) (hI _ (by show 13 < 19; decide)) (hI _ (by show 14 < 19; decide)) (hI _ (by show 15 < 19; decide)) (fun k hk => hσ k (by omega)) (w q hq)
  · exact RCt_eq (hI _ (by show 16 < 19; decide)) (hI _ (by show 17 < 19; decide)) (hI _ (by show 18 < 19; decide)) (hσ 15 (by decide)) (hσ 16 (by decide)) (hσ 17 (by decide)) (t q hq)
/-- the mender's cells, the law's and the reference's don't matter -/
theorem RC_F {σ : ST} {I I' : IM} {R : RM} (h : RC σ I R) (hI : ∀ L : Lb, L.1 ≠ 1 → L.1 ≠ 2 → L.1 ≠ 3 → L.1 ≠ 9 → L.1 ≠ 10 → I' L = I L) : RC σ I' R := by
  obtain ⟨⟨a1, a2, a3⟩, g, w, t, ⟨n1, n2⟩, c⟩ := h
  have e : ∀ L : Lb, (4 ≤ L.1 ∧ L.1 < 9) ∨ 10 < L.1 → I' L = I L := fun L hL => hI L (by omega) (by omega) (by omega) (by omega) (by omega)
  refine ⟨⟨?_, ?_, ?_⟩, fun q hq => ?_, fun q hq => ?_, fun q hq => ?_, ⟨?_, ?_⟩, fun q hq => ?_⟩
  · rw [e RING (by decide)]; exact a1
  · rw [e RING (by decide)]; exact a2
  · rw [e RING (by decide)]; exact a3
  · rw [e GAT (by decide)]; exact g q hq
  · exact RCw_eq (e _ (Or.inr (by show 10 < 12; decide))) (e _ (Or.inr (by show 10 < 13; decide))) (e _ (Or.inr (by show 10 < 14; decide))) (e _ (Or.inr (by show 10 < 15; decide))) (fun k hk => rfl) (w q hq)
  · exact RCt_eq (e _ (Or.inr (by show 10 < 16; decide))) (e _ (Or.inr (by show 10 < 17; decide))) (e _ (Or.inr (by show 10 < 18; decide))) rfl rfl rfl (t q hq)
  · rw [e (CA 1000) (by decide)]; exact n1
  · rw [e (CA 1000) (by decide)]; exact n2
  · exact RCc_eq (e _ (Or.inr (by show 10 < 19; decide))) (fun j => e _ (Or.inr (by show 10 < 21; decide))) rfl rfl rfl rfl (c q hq)
theorem up2_ne {I : IM} {L L2 : Lb} {k : Nat} {x : Int32} (h : L2 ≠ L) : up2 I L k x L2 = I L2 := if_neg h
theorem ups_ne {σ : ST} {k k2 j : Nat} {v : Int32} (h : k2 ≠ k) : ups σ k j v k2 = σ k2 := if_neg h
theorem sets_ne {σ : ST} {k k2 : Nat} {v : Int32} (h : k2 ≠ k) : sets σ k v k2 = σ k2 := if_neg h
theorem ups_at {σ : ST} {k j : Nat} {v : Int32} : ups σ k j v k = upd (σ k) j v := if_pos rfl
theorem sets_at {σ : ST} {k j : Nat} {v : Int32} : sets σ k v k j = v := by unfold sets; rw [if_pos rfl]
theorem upd_at {f : Nat → Int32} {k : Nat} {x : Int32} : upd f k x k = x := if_pos rfl
theorem upd_ne {f : Nat → Int32} {k j : Nat} {x : Int32} (h : j ≠ k) : upd f k x j = f j := if_neg h

theorem smI_congr {f g : Nat → Int32} {n : Nat} (h : ∀ k, k < n → f k = g k) : smI f n = smI g n := by
  induction n with
  | zero => rfl
  | succ n ih =>
    show smI f n + f n = smI g n + g n
    rw [ih (fun k hk => h k (by omega)), h n (by omega)]
/-- another wrestler's row, where a column changes at other places alone -/
theorem RCw_eq2 {σ σ' : ST} {I I' : IM} {q w : Nat} (e : ¬ q = w) (hσ : ∀ k, k < 14 → σ' k = σ k ∨ ((k = 1 ∨ k = 2 ∨ k = 3 ∨ k = 5 ∨ k = 6 ∨ k = 7 ∨ k = 8 ∨ k = 9 ∨ k = 10 ∨ k = 12) ∧ ∀ j, j ≠ w → σ' k j = σ k j) ∨ (k = 4 ∧ ∀ t, t < 4 → σ' 4 (10 * t + q) = σ 4 (10 * t + q)) ∨ ((k = 11 ∨ k = 13) ∧ ∀ o, o < 10 → σ' k (10 * q + o) = σ k (10 * q + o)))
    (h12 : I' (WR q) = I (WR q)) (h13 : I' (LV q) = I (LV q)) (h14 : I' (CD q) = I (CD q)) (h15 : I' (WA q) = I (WA q)) (h : RCw σ I q) : RCw σ' I' q := by
  have c : ∀ k, (k = 1 ∨ k = 2 ∨ k = 3 ∨ k = 5 ∨ k = 6 ∨ k = 7 ∨ k = 8 ∨ k = 9 ∨ k = 10 ∨ k = 12) → σ' k q = σ k q := fun k hk => by
    rcases hσ k (by omega) with a | ⟨-, a⟩ | ⟨a, -⟩ | ⟨a, -⟩
    · rw [a]
    · exact a q e
    · omega
    · omega
  have c0 : σ' 0 = σ 0 := by
    rcases hσ 0 (by decide) with a | ⟨a, -⟩ | ⟨a, -⟩ | ⟨a, -⟩
    · exact a
    · omega
    · omega
    · omega
  have c4 : ∀ t, t < 4 → σ' 4 (10 * t + q) = σ 4 (10 * t + q) := fun t ht => by
    rcases hσ 4 (by decide) with a | ⟨a, -⟩ | ⟨-, a⟩ | ⟨a, -⟩
    · rw [a]
    · omega
    · exact a t ht
    · omega
  have c11 : ∀ o, o < 10 → σ' 11 (10 * q + o) = σ 11 (10 * q + o) := fun o ho => by
    rcases hσ 11 (by decide) with a | ⟨a, -⟩ | ⟨a, -⟩ | ⟨-, a⟩
    · rw [a]
    · omega
    · omega
    · exact a o ho
  have c13 : ∀ o, o < 10 → σ' 13 (10 * q + o) = σ 13 (10 * q + o) := fun o ho => by
    rcases hσ 13 (by decide) with a | ⟨a, -⟩ | ⟨a, -⟩ | ⟨-, a⟩
    · rw [a]
    · omega
    · omega
    · exact a o ho
  unfold RCw prO at *
  rw [h12, h13, h14, h15, c 1 (by decide), c 2 (by decide), c 3 (by decide), c 5 (by decide), c 6 (by decide), c 7 (by decide), c 8 (by decide), c 9 (by decide), c 10 (by decide), c 12 (by decide), c0, smI_congr (fun k hk => c13 k hk)]
  obtain ⟨h3, h4, h5, h6, h7, h8, h9, h10, h11, h12, hl, hc, ha, hp⟩ := h
  exact ⟨h3, h4, h5, h6, h7, h8, h9, h10, h11, h12, fun t ht => by rw [c4 t ht]; exact hl t ht, fun o ho => by rw [c11 o ho]; exact hc o ho, fun o ho => by rw [c13 o ho]; exact ha o ho, hp⟩
theorem RC_skill {σ : ST} {I : IM} {R : RM} (h : RC σ I R) {w : Nat} (v : Int32) : RC (ups σ 1 w v) (up2 I (WR w) 3 v) R := by
  refine RC_W h (fun L hL => up2_ne (fun e => by subst e; revert hL; simp)) (fun q hq => ups_ne (by omega)) (fun q hq => ?_)
  have hq := h.2.2.1 q hq
  by_cases e : q = w
  · subst e
    unfold RCw prO at hq ⊢
    rw [up2_at, up2_ne (show LV q ≠ WR q by simp), up2_ne (show CD q ≠ WR q by simp), up2_ne (show WA q ≠ WR q by simp)]
    obtain ⟨h3, h4, h5, h6, h7, h8, h9, h10, h11, h12, hl, hc, ha, hp⟩ := hq
    refine ⟨?_, ?_, ?_, ?_, ?_, ?_, ?_, ?_, ?_, ?_, ?_, ?_, ?_, ?_⟩
    · rw [upd_at, ups_at, upd_at]
    · rw [upd_ne (by decide), ups_ne (by decide)]; exact h4
    · rw [upd_ne (by decide), ups_ne (by decide)]; exact h5
    · rw [upd_ne (by decide), ups_ne (by decide)]; exact h6
    · rw [upd_ne (by decide), ups_ne (by decide)]; exact h7
    · rw [upd_ne (by decide), ups_ne (by decide)]; exact h8
    · rw [upd_ne (by decide), ups_ne (by decide)]; exact h9
    · rw [upd_ne (by decide), ups_ne (by decide)]; exact h10
    · rw [upd_ne (by decide), ups_ne (by decide)]; exact h11
    · rw [upd_ne (by decide), ups_ne (by decide)]; exact h12
    · rw [ups_ne (by decide)]; exact hl
    · rw [ups_ne (by decide)]; exact hc
    · rw [ups_ne (by decide)]; exact ha
    · rw [ups_ne (by decide), ups_ne (by decide), upd_ne (by decide)]; exact hp
  · refine RCw_eq2 e (fun k hk => ?_) (up2_ne (by simp [e])) (up2_ne (by simp)) (up2_ne (by simp)) (up2_ne (by simp)) hq
    by_cases ek : k = 1
    · subst ek
      exact Or.inr (Or.inl ⟨by decide, by rw [ups_at]; exact fun j hj => upd_ne hj⟩)
    · exact Or.inl (ups_ne ek)
theorem RC_mic {σ : ST} {I : IM} {R : RM} (h : RC σ I R) {w : Nat} (v : Int32) : RC (ups σ 2 w v) (up2 I (WR w) 4 v) R := by
  refine RC_W h (fun L hL => up2_ne (fun e => by subst e; revert hL; simp)) (fun q hq => ups_ne (by omega)) (fun q hq => ?_)
  have hq := h.2.2.1 q hq
  by_cases e : q = w
  · subst e
    unfold RCw prO at hq ⊢
    rw [up2_at, up2_ne (show LV q ≠ WR q by simp), up2_ne (show CD q ≠ WR q by simp), up2_ne (show WA q ≠ WR q by simp)]
    obtain ⟨h3, h4, h5, h6, h7, h8, h9, h10, h11, h12, hl, hc, ha, hp⟩ := hq
    refine ⟨?_, ?_, ?_, ?_, ?_, ?_, ?_, ?_, ?_, ?_, ?_, ?_, ?_, ?_⟩
    · rw [upd_ne (by decide), ups_ne (by decide)]; exact h3
    · rw [upd_at, ups_at, upd_at]
    · rw [upd_ne (by decide), ups_ne (by decide)]; exact h5
    · rw [upd_ne (by decide), ups_ne (by decide)]; exact h6
    · rw [upd_ne (by decide), ups_ne (by decide)]; exact h7
    · rw [upd_ne (by decide), ups_ne (by decide)]; exact h8
    · rw [upd_ne (by decide), ups_ne (by decide)]; exact h9
    · rw [upd_ne (by decide), ups_ne (by decide)]; exact h10
    · rw [upd_ne (by decide), ups_ne (by decide)]; exact h11
    · rw [upd_ne (by decide), ups_ne (by decide)]; exact h12
    · rw [ups_ne (by decide)]; exact hl
    · rw [ups_ne (by decide)]; exact hc
    · rw [ups_ne (by decide)]; exact ha
    · rw [ups_ne (by decide), ups_ne (by decide), upd_ne (by decide)]; exact hp
  · refine RCw_eq2 e (fun k hk => ?_) (up2_ne (by simp [e])) (up2_ne (by simp)) (up2_ne (by simp)) (up2_ne (by simp)) hq
    by_cases ek : k = 2
    · subst ek
      exact Or.inr (Or.inl ⟨by decide, by rw [ups_at]; exact fun j hj => upd_ne hj⟩)
    · exact Or.inl (ups_ne ek)
theorem RC_role {σ : ST} {I : IM} {R : RM} (h : RC σ I R) {w : Nat} (v : Int32) : RC (ups σ 3 w v) (up2 I (WR w) 5 v) R := by
  refine RC_W h (fun L hL => up2_ne (fun e => by subst e; revert hL; simp)) (fun q hq => ups_ne (by omega)) (fun q hq => ?_)
  have hq := h.2.2.1 q hq
  by_cases e : q = w
  · subst e
    unfold RCw prO at hq ⊢
    rw [up2_at, up2_ne (show LV q ≠ WR q by simp), up2_ne (show CD q ≠ WR q by simp), up2_ne (show WA q ≠ WR q by simp)]
    obtain ⟨h3, h4, h5, h6, h7, h8, h9, h10, h11, h12, hl, hc, ha, hp⟩ := hq
    refine ⟨?_, ?_, ?_, ?_, ?_, ?_, ?_, ?_, ?_, ?_, ?_, ?_, ?_, ?_⟩
    · rw [upd_ne (by decide), ups_ne (by decide)]; exact h3
    · rw [upd_ne (by decide), ups_ne (by decide)]; exact h4
    · rw [upd_at, ups_at, upd_at]
    · rw [upd_ne (by decide), ups_ne (by decide)]; exact h6
    · rw [upd_ne (by decide), ups_ne (by decide)]; exact h7
    · rw [upd_ne (by decide), ups_ne (by decide)]; exact h8
    · rw [upd_ne (by decide), ups_ne (by decide)]; exact h9
    · rw [upd_ne (by decide), ups_ne (by decide)]; exact h10
    · rw [upd_ne (by decide), ups_ne (by decide)]; exact h11
    · rw [upd_ne (by decide), ups_ne (by decide)]; exact h12
    · rw [ups_ne (by decide)]; exact hl
    · rw [ups_ne (by decide)]; exact hc
    · rw [ups_ne (by decide)]; exact ha
    · rw [ups_ne (by decide), ups_ne (by decide), upd_ne (by decide)]; exact hp
  · refine RCw_eq2 e (fun k hk => ?_) (up2_ne (by simp [e])) (up2_ne (by simp)) (up2_ne (by simp)) (up2_ne (by simp)) hq
    by_cases ek : k = 3
    · subst ek
      exact Or.inr (Or.inl ⟨by decide, by rw [ups_at]; exact fun j hj => upd_ne hj⟩)
    · exact Or.inl (ups_ne ek)
theorem RC_strain {σ : ST} {I : IM} {R : RM} (h : RC σ I R) {w : Nat} (v : Int32) : RC (ups σ 5 w v) (up2 I (WR w) 6 v) R := by
  refine RC_W h (fun L hL => up2_ne (fun e => by subst e; revert hL; simp)) (fun q hq => ups_ne (by omega)) (fun q hq => ?_)
  have hq := h.2.2.1 q hq
  by_cases e : q = w
  · subst e
    unfold RCw prO at hq ⊢
    rw [up2_at, up2_ne (show LV q ≠ WR q by simp), up2_ne (show CD q ≠ WR q by simp), up2_ne (show WA q ≠ WR q by simp)]
    obtain ⟨h3, h4, h5, h6, h7, h8, h9, h10, h11, h12, hl, hc, ha, hp⟩ := hq
    refine ⟨?_, ?_, ?_, ?_, ?_, ?_, ?_, ?_, ?_, ?_, ?_, ?_, ?_, ?_⟩
    · rw [upd_ne (by decide), ups_ne (by decide)]; exact h3
    · rw [upd_ne (by decide), ups_ne (by decide)]; exact h4
    · rw [upd_ne (by decide), ups_ne (by decide)]; exact h5
    · rw [upd_at, ups_at, upd_at]
    · rw [upd_ne (by decide), ups_ne (by decide)]; exact h7
    · rw [upd_ne (by decide), ups_ne (by decide)]; exact h8
    · rw [upd_ne (by decide), ups_ne (by decide)]; exact h9
    · rw [upd_ne (by decide), ups_ne (by decide)]; exact h10
    · rw [upd_ne (by decide), ups_ne (by decide)]; exact h11
    · rw [upd_ne (by decide), ups_ne (by decide)]; exact h12
    · rw [ups_ne (by decide)]; exact hl
    · rw [ups_ne (by decide)]; exact hc
    · rw [ups_ne (by decide)]; exact ha
    · rw [ups_ne (by decide), ups_ne (by decide), upd_ne (by decide)]; exact hp
  · refine RCw_eq2 e (fun k hk => ?_) (up2_ne (by simp [e])) (up2_ne (by simp)) (up2_ne (by simp)) (up2_ne (by simp)) hq
    by_cases ek : k = 5
    · subst ek
      exact Or.inr (Or.inl ⟨by decide, by rw [ups_at]; exact fun j hj => upd_ne hj⟩)
    · exact Or.inl (ups_ne ek)
theorem RC_until {σ : ST} {I : IM} {R : RM} (h : RC σ I R) {w : Nat} (v : Int32) : RC (ups σ 6 w v) (up2 I (WR w) 7 v) R := by
  refine RC_W h (fun L hL => up2_ne (fun e => by subst e; revert hL; simp)) (fun q hq => ups_ne (by omega)) (fun q hq => ?_)
  have hq := h.2.2.1 q hq
  by_cases e : q = w
  · subst e
    unfold RCw prO at hq ⊢
    rw [up2_at, up2_ne (show LV q ≠ WR q by simp), up2_ne (show CD q ≠ WR q by simp), up2_ne (show WA q ≠ WR q by simp)]
    obtain ⟨h3, h4, h5, h6, h7, h8, h9, h10, h11, h12, hl, hc, ha, hp⟩ := hq
    refine ⟨?_, ?_, ?_, ?_, ?_, ?_, ?_, ?_, ?_, ?_, ?_, ?_, ?_, ?_⟩
    · rw [upd_ne (by decide), ups_ne (by decide)]; exact h3
    · rw [upd_ne (by decide), ups_ne (by decide)]; exact h4
    · rw [upd_ne (by decide), ups_ne (by decide)]; exact h5
    · rw [upd_ne (by decide), ups_ne (by decide)]; exact h6
    · rw [upd_at, ups_at, upd_at]
    · rw [upd_ne (by decide), ups_ne (by decide)]; exact h8
    · rw [upd_ne (by decide), ups_ne (by decide)]; exact h9
    · rw [upd_ne (by decide), ups_ne (by decide)]; exact h10
    · rw [upd_ne (by decide), ups_ne (by decide)]; exact h11
    · rw [upd_ne (by decide), ups_ne (by decide)]; exact h12
    · rw [ups_ne (by decide)]; exact hl
    · rw [ups_ne (by decide)]; exact hc
    · rw [ups_ne (by decide)]; exact ha
    · rw [ups_ne (by decide), ups_ne (by decide), upd_ne (by decide)]; exact hp
  · refine RCw_eq2 e (fun k hk => ?_) (up2_ne (by simp [e])) (up2_ne (by simp)) (up2_ne (by simp)) (up2_ne (by simp)) hq
    by_cases ek : k = 6
    · subst ek
      exact Or.inr (Or.inl ⟨by decide, by rw [ups_at]; exact fun j hj => upd_ne hj⟩)
    · exact Or.inl (ups_ne ek)
theorem RC_heads {σ : ST} {I : IM} {R : RM} (h : RC σ I R) {w : Nat} (v : Int32) : RC (ups σ 7 w v) (up2 I (WR w) 8 v) R := by
  refine RC_W h (fun L hL => up2_ne (fun e => by subst e; revert hL; simp)) (fun q hq => ups_ne (by omega)) (fun q hq => ?_)
  have hq := h.2.2.1 q hq
  by_cases e : q = w
  · subst e
    unfold RCw prO at hq ⊢
    rw [up2_at, up2_ne (show LV q ≠ WR q by simp), up2_ne (show CD q ≠ WR q by simp), up2_ne (show WA q ≠ WR q by simp)]
    obtain ⟨h3, h4, h5, h6, h7, h8, h9, h10, h11, h12, hl, hc, ha, hp⟩ := hq
    refine ⟨?_, ?_, ?_, ?_, ?_, ?_, ?_, ?_, ?_, ?_, ?_, ?_, ?_, ?_⟩
    · rw [upd_ne (by decide), ups_ne (by decide)]; exact h3
    · rw [upd_ne (by decide), ups_ne (by decide)]; exact h4
    · rw [upd_ne (by decide), ups_ne (by decide)]; exact h5
    · rw [upd_ne (by decide), ups_ne (by decide)]; exact h6
    · rw [upd_ne (by decide), ups_ne (by decide)]; exact h7
    · rw [upd_at, ups_at, upd_at]
    · rw [upd_ne (by decide), ups_ne (by decide)]; exact h9
    · rw [upd_ne (by decide), ups_ne (by decide)]; exact h10
    · rw [upd_ne (by decide), ups_ne (by decide)]; exact h11
    · rw [upd_ne (by decide), ups_ne (by decide)]; exact h12
    · rw [ups_ne (by decide)]; exact hl
    · rw [ups_ne (by decide)]; exact hc
    · rw [ups_ne (by decide)]; exact ha
    · rw [ups_ne (by decide), ups_ne (by decide), upd_ne (by decide)]; exact hp
  · refine RCw_eq2 e (fun k hk => ?_) (up2_ne (by simp [e])) (up2_ne (by simp)) (up2_ne (by simp)) (up2_ne (by simp)) hq
    by_cases ek : k = 7
    · subst ek
      exact Or.inr (Or.inl ⟨by decide, by rw [ups_at]; exact fun j hj => upd_ne hj⟩)
    · exact Or.inl (ups_ne ek)
theorem RC_lost {σ : ST} {I : IM} {R : RM} (h : RC σ I R) {w : Nat} (v : Int32) : RC (ups σ 8 w v) (up2 I (WR w) 10 v) R := by
  refine RC_W h (fun L hL => up2_ne (fun e => by subst e; revert hL; simp)) (fun q hq => ups_ne (by omega)) (fun q hq => ?_)
  have hq := h.2.2.1 q hq
  by_cases e : q = w
  · subst e
    unfold RCw prO at hq ⊢
    rw [up2_at, up2_ne (show LV q ≠ WR q by simp), up2_ne (show CD q ≠ WR q by simp), up2_ne (show WA q ≠ WR q by simp)]
    obtain ⟨h3, h4, h5, h6, h7, h8, h9, h10, h11, h12, hl, hc, ha, hp⟩ := hq
    refine ⟨?_, ?_, ?_, ?_, ?_, ?_, ?_, ?_, ?_, ?_, ?_, ?_, ?_, ?_⟩
    · rw [upd_ne (by decide), ups_ne (by decide)]; exact h3
    · rw [upd_ne (by decide), ups_ne (by decide)]; exact h4
    · rw [upd_ne (by decide), ups_ne (by decide)]; exact h5
    · rw [upd_ne (by decide), ups_ne (by decide)]; exact h6
    · rw [upd_ne (by decide), ups_ne (by decide)]; exact h7
    · rw [upd_ne (by decide), ups_ne (by decide)]; exact h8
    · rw [upd_ne (by decide), ups_ne (by decide)]; exact h9
    · rw [upd_at, ups_at, upd_at]
    · rw [upd_ne (by decide), ups_ne (by decide)]; exact h11
    · rw [upd_ne (by decide), ups_ne (by decide)]; exact h12
    · rw [ups_ne (by decide)]; exact hl
    · rw [ups_ne (by decide)]; exact hc
    · rw [ups_ne (by decide)]; exact ha
    · rw [ups_ne (by decide), ups_ne (by decide), upd_ne (by decide)]; exact hp
  · refine RCw_eq2 e (fun k hk => ?_) (up2_ne (by simp [e])) (up2_ne (by simp)) (up2_ne (by simp)) (up2_ne (by simp)) hq
    by_cases ek : k = 8
    · subst ek
      exact Or.inr (Or.inl ⟨by decide, by rw [ups_at]; exact fun j hj => upd_ne hj⟩)
    · exact Or.inl (ups_ne ek)
theorem RC_real {σ : ST} {I : IM} {R : RM} (h : RC σ I R) {w : Nat} (v : Int32) : RC (ups σ 9 w v) (up2 I (WR w) 11 v) R := by
  refine RC_W h (fun L hL => up2_ne (fun e => by subst e; revert hL; simp)) (fun q hq => ups_ne (by omega)) (fun q hq => ?_)
  have hq := h.2.2.1 q hq
  by_cases e : q = w
  · subst e
    unfold RCw prO at hq ⊢
    rw [up2_at, up2_ne (show LV q ≠ WR q by simp), up2_ne (show CD q ≠ WR q by simp), up2_ne (show WA q ≠ WR q by simp)]
    obtain ⟨h3, h4, h5, h6, h7, h8, h9, h10, h11, h12, hl, hc, ha, hp⟩ := hq
    refine ⟨?_, ?_, ?_, ?_, ?_, ?_, ?_, ?_, ?_, ?_, ?_, ?_, ?_, ?_⟩
    · rw [upd_ne (by decide), ups_ne (by decide)]; exact h3
    · rw [upd_ne (by decide), ups_ne (by decide)]; exact h4
    · rw [upd_ne (by decide), ups_ne (by decide)]; exact h5
    · rw [upd_ne (by decide), ups_ne (by decide)]; exact h6
    · rw [upd_ne (by decide), ups_ne (by decide)]; exact h7
    · rw [upd_ne (by decide), ups_ne (by decide)]; exact h8
    · rw [upd_ne (by decide), ups_ne (by decide)]; exact h9
    · rw [upd_ne (by decide), ups_ne (by decide)]; exact h10
    · rw [upd_at, ups_at, upd_at]
    · rw [upd_ne (by decide), ups_ne (by decide)]; exact h12
    · rw [ups_ne (by decide)]; exact hl
    · rw [ups_ne (by decide)]; exact hc
    · rw [ups_ne (by decide)]; exact ha
    · rw [ups_ne (by decide), ups_ne (by decide), upd_ne (by decide)]; exact hp
  · refine RCw_eq2 e (fun k hk => ?_) (up2_ne (by simp [e])) (up2_ne (by simp)) (up2_ne (by simp)) (up2_ne (by simp)) hq
    by_cases ek : k = 9
    · subst ek
      exact Or.inr (Or.inl ⟨by decide, by rw [ups_at]; exact fun j hj => upd_ne hj⟩)
    · exact Or.inl (ups_ne ek)
theorem RC_prot {σ : ST} {I : IM} {R : RM} (h : RC σ I R) {w : Nat} (v : Int32) : RC (ups σ 12 w v) (up2 I (WR w) 12 v) R := by
  refine RC_W h (fun L hL => up2_ne (fun e => by subst e; revert hL; simp)) (fun q hq => ups_ne (by omega)) (fun q hq => ?_)
  have hq := h.2.2.1 q hq
  by_cases e : q = w
  · subst e
    unfold RCw prO at hq ⊢
    rw [up2_at, up2_ne (show LV q ≠ WR q by simp), up2_ne (show CD q ≠ WR q by simp), up2_ne (show WA q ≠ WR q by simp)]
    obtain ⟨h3, h4, h5, h6, h7, h8, h9, h10, h11, h12, hl, hc, ha, hp⟩ := hq
    refine ⟨?_, ?_, ?_, ?_, ?_, ?_, ?_, ?_, ?_, ?_, ?_, ?_, ?_, ?_⟩
    · rw [upd_ne (by decide), ups_ne (by decide)]; exact h3
    · rw [upd_ne (by decide), ups_ne (by decide)]; exact h4
    · rw [upd_ne (by decide), ups_ne (by decide)]; exact h5
    · rw [upd_ne (by decide), ups_ne (by decide)]; exact h6
    · rw [upd_ne (by decide), ups_ne (by decide)]; exact h7
    · rw [upd_ne (by decide), ups_ne (by decide)]; exact h8
    · rw [upd_ne (by decide), ups_ne (by decide)]; exact h9
    · rw [upd_ne (by decide), ups_ne (by decide)]; exact h10
    · rw [upd_ne (by decide), ups_ne (by decide)]; exact h11
    · rw [upd_at, ups_at, upd_at]
    · rw [ups_ne (by decide)]; exact hl
    · rw [ups_ne (by decide)]; exact hc
    · rw [ups_ne (by decide)]; exact ha
    · rw [ups_ne (by decide), ups_ne (by decide), upd_ne (by decide)]; exact hp
  · refine RCw_eq2 e (fun k hk => ?_) (up2_ne (by simp [e])) (up2_ne (by simp)) (up2_ne (by simp)) (up2_ne (by simp)) hq
    by_cases ek : k = 12
    · subst ek
      exact Or.inr (Or.inl ⟨by decide, by rw [ups_at]; exact fun j hj => upd_ne hj⟩)
    · exact Or.inl (ups_ne ek)
