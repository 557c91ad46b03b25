/-! what the numbers keep, kept by a played card -/
noncomputable def pmB (σ : ST) (t f s wi lo : Nat) (m re : Int32) : ST := adS (adS (if re = nI 0 then win σ t wi lo else adS (adS σ 9 f (nI 1)) 9 s (nI 1)) 5 f m) 5 s m
noncomputable def pmC (σ : ST) (t f s wi lo : Nat) (m ti re : Int32) : ST := if re = nI 0 then hndI (pmB σ t f s wi lo m re) ti (nI f) (nI s) (nI wi) else pmB σ t f s wi lo m re
theorem pm_C {σ : ST} {t f s wi lo : Nat} {m ti re : Int32} : pmS σ t f s wi lo m ti re = trS (trS (pmC σ t f s wi lo m ti re) f) s := rfl
theorem pmC_B {σ : ST} {t f s wi lo : Nat} {m ti re : Int32} {k : Nat} (h : k ≠ 15 ∧ k ≠ 16 ∧ k ≠ 17) : pmC σ t f s wi lo m ti re k = pmB σ t f s wi lo m re k := by
  unfold pmC
  split
  · exact hndI_o h.1 h.2.1 h.2.2
  · rfl
theorem pmB_o {σ : ST} {t f s wi lo : Nat} {m re : Int32} {k : Nat} (h : k ≠ 4 ∧ k ≠ 5 ∧ k ≠ 8 ∧ k ≠ 9 ∧ k ≠ 13) : pmB σ t f s wi lo m re k = σ k := by
  unfold pmB
  split
  · unfold adS
    rw [ups_ne (by omega), ups_ne (by omega), win_o (by omega) (by omega) (by omega)]
  · unfold adS
    rw [ups_ne (by omega), ups_ne (by omega), ups_ne (by omega), ups_ne (by omega)]
theorem trS_3 {σ : ST} {w x : Nat} (h : ∀ q, q < 10 → σ 3 q = nI 0 ∨ σ 3 q = nI 1) (hw : w < 10) (hx : x < 10) : trS σ x 3 w = nI 0 ∨ trS σ x 3 w = nI 1 := by
  unfold trS
  rw [ups_at]
  by_cases e : w = x
  · rw [e, upd_at]; exact trn_b (h x hx)
  · rw [upd_ne e]; exact h w hw
theorem pm_3 {σ : ST} {t f s wi lo w : Nat} {m ti re : Int32} (h : ∀ q, q < 10 → σ 3 q = nI 0 ∨ σ 3 q = nI 1) (hw : w < 10) (hf : f < 10) (hs : s < 10) : pmS σ t f s wi lo m ti re 3 w = nI 0 ∨ pmS σ t f s wi lo m ti re 3 w = nI 1 := by
  rw [pm_C]
  exact trS_3 (fun q hq => trS_3 (fun r hr => by rw [pmC_B (by omega), pmB_o (by omega)]; exact h r hr) hq hf) hw hs
def L99 (x : Int32) : Prop := ∃ v, v ≤ 99 ∧ (x = nI v ∨ x = -nI v)
theorem lov_4 {σ : ST} {t w j : Nat} {x : Int32} (h : L99 (σ 4 j)) : L99 (lov σ t w x 4 j) := by
  unfold lov
  rw [ups_at]
  by_cases e : j = 10 * t + w
  · rw [e, upd_at]; exact cl99_b _
  · rw [upd_ne e]; exact h
theorem win_4 {σ : ST} {t wi lo j : Nat} (h : L99 (σ 4 j)) : L99 (win σ t wi lo 4 j) := by
  have h0 : L99 (win0 σ wi lo 4 j) := by unfold win0; rw [ups_ne (by decide), ups_ne (by decide)]; exact h
  unfold win
  split
  · exact lov_4 (lov_4 h0)
  · exact lov_4 (lov_4 h0)
theorem pm_4 {σ : ST} {t f s wi lo j : Nat} {m ti re : Int32} (h : L99 (σ 4 j)) : L99 (pmS σ t f s wi lo m ti re 4 j) := by
  rw [pm_C]
  unfold trS
  rw [ups_ne (by decide), ups_ne (by decide), pmC_B (by omega)]
  unfold pmB adS
  rw [ups_ne (by decide), ups_ne (by decide)]
  split
  · exact win_4 h
  · rw [ups_ne (by decide), ups_ne (by decide)]; exact h
theorem pm_5 {σ : ST} {t f s wi lo : Nat} {m ti re : Int32} : pmS σ t f s wi lo m ti re 5 = upd (upd (σ 5) f (σ 5 f + m)) s (upd (σ 5) f (σ 5 f + m) s + m) := by
  rw [pm_C]
  unfold trS
  rw [ups_ne (by decide), ups_ne (by decide), pmC_B (by omega)]
  unfold pmB adS
  rw [ups_at, ups_at]
  split
  · rw [win_o (by decide) (by decide) (by decide)]
  · rw [ups_ne (by decide), ups_ne (by decide)]
def S9 (B : Nat) (x : Int32) : Prop := ∃ v, v ≤ B ∧ x = nI v
theorem S9_add {B k : Nat} {x : Int32} (h : S9 B x) : S9 (B + k) (x + nI k) := by
  obtain ⟨v, hv, e⟩ := h
  exact ⟨v + k, by omega, by rw [e]; exact nI_add _ _⟩
theorem S9_le {B C : Nat} {x : Int32} (h : S9 B x) (hc : B ≤ C) : S9 C x := by
  obtain ⟨v, hv, e⟩ := h
  exact ⟨v, by omega, e⟩
theorem pm_5b {σ : ST} {t f s wi lo w k B : Nat} {ti re : Int32} (hk : k ≤ 60) (h : ∀ q, q < 10 → S9 B (σ 5 q)) (hw : w < 10) (hf : f < 10) (hs : s < 10) : S9 (B + 120) (pmS σ t f s wi lo (nI k) ti re 5 w) := by
  rw [pm_5]
  have h1 : ∀ q, q < 10 → S9 (B + k) (upd (σ 5) f (σ 5 f + nI k) q) := fun q hq => by
    by_cases e : q = f
    · rw [e, upd_at]; exact S9_add (h f hf)
    · rw [upd_ne e]; exact S9_le (h q hq) (by omega)
  by_cases e : w = s
  · rw [e, upd_at]; exact S9_le (S9_add (h1 s hs)) (by omega)
  · rw [upd_ne e]; exact S9_le (h1 w hw) (by omega)
theorem win_13 {σ : ST} {t wi lo : Nat} : win σ t wi lo 13 = upd (σ 13) (10 * wi + lo) (σ 13 (10 * wi + lo) + nI 1) := by
  unfold win lov win0
  split
  · rw [ups_ne (by decide), ups_ne (by decide), ups_ne (by decide), ups_at]
  · rw [ups_ne (by decide), ups_ne (by decide), ups_ne (by decide), ups_at]
theorem pm_13 {σ : ST} {t f s wi lo : Nat} {m ti re : Int32} : pmS σ t f s wi lo m ti re 13 = if re = nI 0 then upd (σ 13) (10 * wi + lo) (σ 13 (10 * wi + lo) + nI 1) else σ 13 := by
  rw [pm_C]
  unfold trS
  rw [ups_ne (by decide), ups_ne (by decide), pmC_B (by omega)]
  unfold pmB adS
  rw [ups_ne (by decide), ups_ne (by decide)]
  split
  · exact win_13
  · rw [ups_ne (by decide), ups_ne (by decide)]
/-- who wins and who loses, as numbers -/
theorem row_wl {n : Nat} {σ : ST} (hV : IV n σ) {x i : Nat} (hx : x < 1000) (hi : i < mn σ x) : rF σ x i < 10 ∧ rS σ x i < 10 ∧ rW σ x i < 10 ∧ rL σ x i < 10 ∧ wnr σ x i = nI (rW σ x i) ∧ lsr σ x i = nI (rL σ x i) := by
  have hp := hV.1.2
  obtain ⟨⟨f, hf, ef⟩, ⟨s, hs, es⟩, h3, h4, -⟩ := (hV.2.2.2.2.2.1 x hx).2.2.2.2.1 i hi
  have e1 : rF σ x i = f := by unfold rF; rw [ef]; exact nI_clamp (by omega)
  have e2 : rS σ x i = s := by unfold rS; rw [es]; exact nI_clamp (by omega)
  rw [e1, e2]
  unfold rW rL wnr lsr
  rcases h4 with h4 | h4
  · rw [if_pos h4, if_pos h4, ef, es, nI_clamp (by omega), nI_clamp (by omega)]
    exact ⟨by omega, by omega, by omega, by omega, rfl, rfl⟩
  · rw [if_neg (by rw [h4]; decide), if_neg (by rw [h4]; decide), ef, es, nI_clamp (by omega), nI_clamp (by omega)]
    exact ⟨by omega, by omega, by omega, by omega, rfl, rfl⟩
/-- what holds while a card is played -/
def PI (n : Nat) (σ τ : ST) (x i : Nat) : Prop := (∀ w, w < 10 → τ 3 w = nI 0 ∨ τ 3 w = nI 1) ∧ (∀ w, w < 10 → S9 (720 * n + 120 * i) (τ 5 w)) ∧ (∀ w t, w < 10 → t < 4 → L99 (τ 4 (10 * t + w))) ∧ ∀ w o, w < 10 → o < 10 → τ 13 (10 * w + o) = σ 13 (10 * w + o) + wcn σ x w o i
theorem PI_all {n : Nat} {σ : ST} (hV : IV n σ) {x tw : Nat} (hx : x < 1000) : ∀ i, i ≤ mn σ x → PI n σ (plK σ x tw i) x i
  | 0, _ => ⟨fun w hw => (hV.2.2.2.1 w hw).2.2.1, fun w hw => (hV.2.2.2.1 w hw).2.2.2.1, fun w t hw ht => (hV.2.2.2.1 w hw).2.2.2.2.2.1 t ht, fun w o hw ho => (add0 _).symm⟩
  | i + 1, hi => by
    obtain ⟨h3, h5, h4, h13⟩ := PI_all (tw := tw) hV hx i (by omega)
    obtain ⟨rf, rs, rw_, rl, ew, el⟩ := row_wl hV hx (i := i) (by omega)
    obtain ⟨k, hk, ek⟩ := ((hV.2.2.2.2.2.1 x hx).2.2.2.2.1 i (by omega)).2.2.2.2.1
    have g : ∀ v j, j ≠ 23 → adS (plK σ x tw i) 23 tw v j = plK σ x tw i j := fun v j hj => by unfold adS; rw [ups_ne hj]
    unfold plK
    refine ⟨fun w hw => pm_3 (fun q hq => by rw [g _ _ (by decide)]; exact h3 q hq) hw rf rs, fun w hw => ?_, fun w t hw ht => pm_4 (by rw [g _ _ (by decide)]; exact h4 w t hw ht), fun w o hw ho => ?_⟩
    · rw [ek]
      exact S9_le (pm_5b hk (fun q hq => by rw [g _ _ (by decide)]; exact h5 q hq) hw rf rs) (by omega)
    · rw [pm_13, g _ _ (by decide)]
      show _ = σ 13 (10 * w + o) + (wcn σ x w o i + (if σ 19 (36 * x + 6 * i + 5) = nI 0 ∧ wnr σ x i = nI w ∧ lsr σ x i = nI o then nI 1 else nI 0))
      by_cases er : σ 19 (36 * x + 6 * i + 5) = nI 0
      · rw [if_pos er]
        by_cases e : 10 * w + o = 10 * rW σ x i + rL σ x i
        · rw [← e, upd_at, h13 w o hw ho, if_pos ⟨er, by rw [ew]; congr 1; omega, by rw [el]; congr 1; omega⟩, Int32.add_assoc]
        · rw [upd_ne e, h13 w o hw ho, if_neg (fun q => e (by
            have a := q.2.1
            have b := q.2.2
            rw [ew] at a
            rw [el] at b
            have a2 := nI_inj a (by omega) (by omega)
            have b2 := nI_inj b (by omega) (by omega)
            omega)), add0]
      · rw [if_neg er, if_neg (fun q => er q.1), h13 w o hw ho, add0]
theorem smI_one {f f' : Nat → Int32} {x : Nat} {v : Int32} (h : ∀ d, d ≠ x → f' d = f d) (h0 : f x = nI 0) (h1 : f' x = v) : ∀ {n : Nat}, x < n → smI f' n = smI f n + v
  | 0, hn => absurd hn (Nat.not_lt_zero _)
  | n + 1, hn => by
    show smI f' n + f' n = smI f n + f n + v
    by_cases e : x = n
    · rw [← e, h0, h1, add0]
      rw [smI_congr (g := f) (fun k hk => h k (by omega))]
    · rw [smI_one h h0 h1 (n := n) (by omega), h n (Ne.symm e), Int32.add_assoc, Int32.add_assoc, Int32.add_comm v]
theorem pl_o {σ : ST} {k : Nat} (h : k ≠ 3 ∧ k ≠ 4 ∧ k ≠ 5 ∧ k ≠ 8 ∧ k ≠ 9 ∧ k ≠ 13 ∧ k ≠ 15 ∧ k ≠ 16 ∧ k ≠ 17 ∧ k ≠ 22 ∧ k ≠ 23) : plS σ k = σ k := by
  unfold plS
  rw [ups_ne (by omega), plK_o (by omega)]
theorem IV_pl {n : Nat} {σ : ST} (h : IV n σ) (hn : n < 512) (hOK : pOK σ) : IV (n + 1) (plS σ) := by
  have hd := h.2.2.1.2
  have hdx : dn σ < 1000 := by omega
  obtain ⟨c1, c2, c3, c4, c5, c6⟩ := h.2.2.2.2.2.1 (dn σ) hdx
  have hP := PI_all (tw := twn σ (dn σ)) h hdx (mn σ (dn σ)) (Nat.le_refl _)
  have g : ∀ k, k ≠ 22 → plS σ k = plK σ (dn σ) (twn σ (dn σ)) (mn σ (dn σ)) k := fun k hk => by unfold plS; rw [ups_ne hk]
  have e22 : plS σ 22 = upd (σ 22) (dn σ) (nI 1) := by unfold plS; rw [ups_at, plK_o (by omega)]
  have em : ∀ d, mn (plS σ) d = mn σ d := fun d => by unfold mn; rw [pl_o (by omega)]
  have ep : pn (plS σ) = pn σ := by unfold pn; rw [pl_o (by omega)]
  have ed : dn (plS σ) = dn σ := by unfold dn; rw [pl_o (by omega)]
  refine IV_mk h (fun k hk => pl_o (by omega)) (fun w hw => ?_) ?_ (fun d hd9 => ?_) ?_
  · have a := h.2.2.2.1 w hw
    refine IVw_mk a (by omega) (Or.inl (by rw [pl_o (by omega)])) (Or.inl (by rw [pl_o (by omega)])) (Or.inr (by rw [g 3 (by omega)]; exact hP.1 w hw)) (Or.inr (by rw [g 5 (by omega)]; exact S9_le (hP.2.1 w hw) (by omega))) (Or.inl (by rw [pl_o (by omega)])) (fun t ht => Or.inr (by rw [g 4 (by omega)]; exact hP.2.2.1 w t hw ht)) (fun o _ => Or.inl (by rw [pl_o (by omega)])) (fun q => by rw [pl_o (by omega)]; exact a.2.2.2.2.2.2.2 (by omega))
  · intro t ht
    have := pl_ln (tw := twn σ (dn σ)) hn h hdx (Nat.le_refl (mn σ (dn σ))) t ht
    unfold lnO at *
    rw [g 17 (by omega)]
    exact this
  · obtain ⟨a1, a2, a3, a4, a5, a6⟩ := h.2.2.2.2.2.1 d hd9
    unfold IVc
    rw [em, pl_o (k := 20) (by omega), pl_o (k := 21) (by omega), pl_o (k := 19) (by omega), e22, ed]
    refine ⟨a1, a2, ?_, a4, fun j hj => ?_, a6⟩
    · by_cases e : d = dn σ
      · rw [e, upd_at]; exact Or.inr ⟨rfl, Nat.le_refl _⟩
      · rw [upd_ne e]; exact a3
    · exact IVm_eq (fun k hk => pl_o (by omega)) (a5 j hj)
  · intro w o hw ho
    have ewc : ∀ d k, wcn (plS σ) d w o k = wcn σ d w o k := fun d k => by
      unfold wcn wnr lsr
      rw [pl_o (k := 19) (by omega)]
    rw [g 13 (by omega), hP.2.2.2 w o hw ho, h.2.2.2.2.2.2 w o hw ho]
    refine (smI_one (x := dn σ) (fun d hd9 => ?_) ?_ ?_ (by omega)).symm
    · rw [e22, upd_ne hd9, em, ewc]
    · rw [hOK.2.1, if_neg (by decide)]
    · rw [e22, upd_at, if_pos rfl, em, ewc]
