/-! a card played; a day passes -/
theorem bs_0 {p : Nat → Prop} {n : Nat} (h : bs p n = 0) : ∀ s, s < n → ¬ p s := fun s hs hp => by
  have := bs_div (p := p) hs
  rw [h, if_pos hp, Nat.zero_div] at this
  exact absurd this (by decide)
theorem no_hO {σ : ST} (h : ∀ s, s < 2 * mn σ (dn σ) → ¬ opn σ s) : ¬ hO σ (dn σ) := fun ⟨j, hj, hp⟩ => by
  rcases hp with hp | hp
  · refine h (2 * j) (by omega) ?_
    unfold opn hu
    rw [sw_0]
    exact hp
  · refine h (2 * j + 1) (by omega) ?_
    unfold opn hu
    rw [sw_1]
    exact hp
theorem b_played {d b : Nat} {K : KM} {I : IM} {R : RM} {Q : QT} {n n0 j : Nat} {σ : ST} (hd : 4 ≤ d) (hQ : KQ K) (hL : LR n (plK σ (dn σ) (twn σ (dn σ)) j) I) (hV : IV n0 σ) (hn : n0 < 512) (hj : j < mn σ (dn σ)) (h10 : pn σ = 7) (htn : tn σ = 2) (q : ∀ I', FrQ I I' → LR n (plK σ (dn σ) (twn σ (dn σ)) (j + 1)) I' → Q (.inl (some (pI (wrt (plK σ (dn σ) (twn σ (dn σ)) j) (twn σ (dn σ)) (rF σ (dn σ) j) + wrt (plK σ (dn σ) (twn σ (dn σ)) j) (twn σ (dn σ)) (rS σ (dn σ) j))))) K I' R) : Mw d b N_L_played 0 [some (pR (some QW)), some (pR (some QV)), some (pR (some QB)), some (pR (some QK)), some (pR (some QM)), some (pI (nI j)), none, none, none, none, none, none, none, none] [] K I R Q := by
  have hdd := hV.2.2.1.2
  have po : ∀ k, (k = 0 ∨ k = 19 ∨ k = 20 ∨ k = 21 ∨ k = 22) → plK σ (dn σ) (twn σ (dn σ)) j k = σ k := fun k hk => plK_o (by omega) j
  have e0 : dn (plK σ (dn σ) (twn σ (dn σ)) j) = dn σ := dn_eq (po 0 (by omega))
  have e20 : mn (plK σ (dn σ) (twn σ (dn σ)) j) = mn σ := funext (mn_eq (po 20 (by omega)))
  have hC := hV.2.2.2.2.2.1 (dn σ) (by omega)
  obtain ⟨⟨f, hf, ef⟩, ⟨s, hs, es⟩, hne, hw, -, hti, hre⟩ := hC.2.2.2.2.1 j hj
  have hcd := LR_card hL (x := dn σ) (by rw [e0]; exact Nat.le_refl _) (by rw [e0]; omega)
  have hj3 : j < 3 := by have := hcd.2.1; rw [e20] at this; omega
  have rf : rF σ (dn σ) j = f := by unfold rF; rw [ef]; exact nI_clamp (by omega)
  have rs : rS σ (dn σ) j = s := by unfold rS; rw [es]; exact nI_clamp (by omega)
  have hfs : f ≠ s := fun e => hne (by rw [ef, es, e])
  obtain ⟨t, ht, et⟩ := hC.2.2.2.1 (by omega)
  have tw : twn σ (dn σ) = t := by unfold twn; rw [et]; exact nI_clamp (by omega)
  have hln := pl_ln hn hV (x := dn σ) (tw := twn σ (dn σ)) (i := j) (by omega) (by omega)
  have htw : I QM (4 + dn σ % 3) = nI (twn σ (dn σ)) := by
    rw [hcd.2.2.1 (by rw [e20]; omega), po 21 (by omega), et, tw]
  refine c_played (f := f) (s := s) (t := twn σ (dn σ)) (wi := rW σ (dn σ) j) (lo := rL σ (dn σ) j) (m := σ 19 (36 * dn σ + 6 * j + 3)) (ti := σ 19 (36 * dn σ + 6 * j + 4)) (re := σ 19 (36 * dn σ + 6 * j + 5)) hd hQ hL hj3 (by rw [e0, e20]; exact hj) (by rw [e0]; exact hdd) (by rw [e0, po 0 (by omega)]; exact hV.2.2.1.1) (by rw [e0, po 19 (by omega)]; exact ef) (by rw [e0, po 19 (by omega)]; exact es) (by omega) (by omega) hfs ?_ (by rw [e0, po 19 (by omega)]) (by rw [e0, po 19 (by omega)]) (by rw [e0, po 19 (by omega)]) hre ?_ (by omega) (by rw [e0]; exact htw) (fun t9 ht9 => ⟨(hln t9 (by omega)).1, by have := (hln t9 (by omega)).2; omega⟩) (fun I' hF hL' => ?_)
  · rw [e0, po 19 (by omega)]
    rcases hw with hw | hw
    · refine Or.inl ⟨hw, ?_, ?_⟩
      · unfold rW wnr; rw [if_pos hw, ef]; exact nI_clamp (by omega)
      · unfold rL lsr; rw [if_pos hw, es]; exact nI_clamp (by omega)
    · have hw0 : ¬ σ 19 (36 * dn σ + 6 * j + 2) = nI 0 := by rw [hw]; decide
      refine Or.inr ⟨hw, ?_, ?_⟩
      · unfold rW wnr; rw [if_neg hw0, es]; exact nI_clamp (by omega)
      · unfold rL lsr; rw [if_neg hw0, ef]; exact nI_clamp (by omega)
  · rcases hti with h | ⟨tt, htt, h⟩
    · exact Or.inl h
    · exact Or.inr ⟨tt, by omega, h⟩
  · have := q I' hF (by
      show LR n (pmS (adS (plK σ (dn σ) (twn σ (dn σ)) j) 23 (twn σ (dn σ)) (wrt (plK σ (dn σ) (twn σ (dn σ)) j) (twn σ (dn σ)) (rF σ (dn σ) j) + wrt (plK σ (dn σ) (twn σ (dn σ)) j) (twn σ (dn σ)) (rS σ (dn σ) j))) (twn σ (dn σ)) (rF σ (dn σ) j) (rS σ (dn σ) j) (rW σ (dn σ) j) (rL σ (dn σ) j) (σ 19 (36 * dn σ + 6 * j + 3)) (σ 19 (36 * dn σ + 6 * j + 4)) (σ 19 (36 * dn σ + 6 * j + 5))) I'
      rw [rf, rs]; exact hL')
    rw [rf, rs] at this
    exact this
/-- today's card away -/
def z0S (σ : ST) : ST := ups (ups σ 20 (dn σ) (nI 0)) 22 (dn σ) (nI 0)
theorem z0_o {σ : ST} {k : Nat} (h : k ≠ 20) (h2 : k ≠ 22) : z0S σ k = σ k := by
  unfold z0S
  rw [ups_ne h2, ups_ne h]
theorem z0_20 {σ : ST} {x : Nat} (h : x ≠ dn σ) : z0S σ 20 x = σ 20 x ∧ z0S σ 22 x = σ 22 x := by
  unfold z0S
  rw [ups_ne (by decide), ups_at, upd_ne h, ups_at, upd_ne h, ups_ne (by decide)]
  exact ⟨rfl, rfl⟩
theorem z0_d {σ : ST} : z0S σ 20 (dn σ) = nI 0 ∧ z0S σ 22 (dn σ) = nI 0 := by
  unfold z0S
  rw [ups_ne (by decide), ups_at, upd_at, ups_at, upd_at]
  exact ⟨rfl, rfl⟩
theorem LR_z0 {n : Nat} {σ : ST} {I : IM} (h : LR n σ I) : LR n (z0S σ) (up2 (up2 I QM (1 + dn σ % 3) (nI 0)) QM (7 + dn σ % 3) (nI 0)) := by
  have eQ : ∀ j, up2 (up2 I QM (1 + dn σ % 3) (nI 0)) QM (7 + dn σ % 3) (nI 0) QM j = if j = 7 + dn σ % 3 then nI 0 else if j = 1 + dn σ % 3 then nI 0 else I QM j := fun j => by
    rw [up2_at]; unfold upd
    rw [up2_at]; rfl
  refine LR_K h (fun L a b => by rw [up2_ne a, up2_ne a]) (fun j hj => by rw [eQ, if_neg (by omega), if_neg (by omega)]) (fun k hk => z0_o (by omega) (by omega)) (fun y hy1 hy2 => ?_) (fun y hy1 hy2 => z0_20 (by omega))
  by_cases e : y = dn σ
  · subst e
    have em : mn (z0S σ) (dn σ) = 0 := by unfold mn; rw [z0_d.1]; rfl
    refine ⟨?_, ?_, fun h0 => absurd em h0, ?_, fun j hj => absurd hj (by rw [em]; exact Nat.not_lt_zero _)⟩
    · rw [eQ, if_neg (by omega), if_pos rfl, em]
    · rw [em]; exact Nat.zero_le _
    · rw [eQ, if_pos rfl, z0_d.2]
  · have hy3 : y % 3 ≠ dn σ % 3 := by omega
    refine LK_o (LR_card h hy1 hy2) (z0_20 e).1 (by rw [z0_o (by decide) (by decide)]) (z0_20 e).2 (fun q hq => by rw [z0_o (by decide) (by decide)]) (fun q hq => by rw [up2_ne (by decide), up2_ne (by decide)]) ⟨?_, ?_, ?_⟩
    · rw [eQ, if_neg (by omega), if_neg (by omega)]
    · rw [eQ, if_neg (by omega), if_neg (by omega)]
    · rw [eQ, if_neg (by omega), if_neg (by omega)]
/-- the first i are rested -/
def rzS (σ : ST) (i : Nat) : ST := fun k w => if k = 5 then (if w < i then rst (σ 5 w) else σ 5 w) else if k = 10 then (if w < i then nI 0 else σ 10 w) else σ k w
theorem rz_o {σ : ST} {i k : Nat} (h : k ≠ 5) (h2 : k ≠ 10) : rzS σ i k = σ k := by
  funext w
  unfold rzS
  rw [if_neg h, if_neg h2]
theorem rz_0 {σ : ST} : rzS σ 0 = σ := by
  funext k w
  unfold rzS
  by_cases h : k = 5
  · subst h; rw [if_pos rfl, if_neg (Nat.not_lt_zero _)]
  · rw [if_neg h]
    by_cases h2 : k = 10
    · subst h2; rw [if_pos rfl, if_neg (Nat.not_lt_zero _)]
    · rw [if_neg h2]
theorem rz_5 {σ : ST} {i w : Nat} : rzS σ i 5 w = if w < i then rst (σ 5 w) else σ 5 w := if_pos rfl
theorem rz_10 {σ : ST} {i w : Nat} : rzS σ i 10 w = if w < i then nI 0 else σ 10 w := by
  unfold rzS
  rw [if_neg (by decide), if_pos rfl]
theorem rz_s {σ : ST} {i : Nat} : ups (ups (rzS σ i) 5 i (rst (σ 5 i))) 10 i (nI 0) = rzS σ (i + 1) := by
  funext k w
  by_cases h : k = 5
  · subst h
    rw [ups_ne (by decide), ups_at, rz_5]
    unfold upd
    by_cases e : w = i
    · subst e; rw [if_pos rfl, if_pos (Nat.lt_succ_self _)]
    · rw [if_neg e, rz_5]
      by_cases e2 : w < i
      · rw [if_pos e2, if_pos (by omega)]
      · rw [if_neg e2, if_neg (by omega)]
  · by_cases h2 : k = 10
    · subst h2
      rw [ups_at, ups_ne (by decide), rz_10]
      unfold upd
      by_cases e : w = i
      · subst e; rw [if_pos rfl, if_pos (Nat.lt_succ_self _)]
      · rw [if_neg e, rz_10]
        by_cases e2 : w < i
        · rw [if_pos e2, if_pos (by omega)]
        · rw [if_neg e2, if_neg (by omega)]
    · rw [ups_ne h2, ups_ne h, rz_o h h2, rz_o h h2]
theorem LA_v {σ σ' : ST} {f : Nat → Int32} {i : Nat} (e : ∀ k, (k = 1 ∨ k = 2 ∨ k = 3 ∨ k = 5 ∨ k = 6 ∨ k = 7 ∨ k = 8 ∨ k = 9 ∨ k = 10 ∨ k = 12) → σ' k i = σ k i) (h : LA σ f i) : LA σ' f i := by
  unfold LA at *
  rw [e 1 (by omega), e 2 (by omega), e 3 (by omega), e 5 (by omega), e 6 (by omega), e 7 (by omega), e 8 (by omega), e 9 (by omega), e 10 (by omega), e 12 (by omega)]
  exact h
theorem ps_k {σ : ST} {k : Nat} (h0 : k ≠ 0) (h5 : k ≠ 5) (h10 : k ≠ 10) (h20 : k ≠ 20) : psS σ k = σ k := by
  unfold psS
  rw [dyS_o h0 h10, reS_o h5, cd_o h20]
theorem LR_ps {n n0 : Nat} {σ : ST} {I I0 : IM} (hV : IV n0 σ) (hd : dn σ ≤ 900) (h0 : LR n σ I0) (h : LR n (rzS (z0S σ) 7) I) : LR (n + 1) (psS σ) (up2 I QM 0 (nI (dn σ + 1))) := by
  have hp := h0.2.2.2.2.2.2.2.2.2.1
  have hpn : pn (cdS σ) = 7 := by rw [ps_pn]; exact hp
  have hz : ∀ k, k ≠ 5 → k ≠ 10 → k ≠ 20 → k ≠ 22 → rzS (z0S σ) 7 k = σ k := fun k a b c e => (rz_o a b).trans (z0_o c e)
  have ps0 : psS σ 0 0 = nI (dn σ + 1) := by
    show nI (dn (reS (cdS σ) (pn (cdS σ))) + 1) = _
    rw [ps_dn]
  have dps : dn (psS σ) = dn σ + 1 := by unfold dn; rw [ps0]; exact nI_clamp (by have : dn σ ≤ 900 := hd; unfold dn at this; omega)
  have p20 : ∀ x, x ≠ dn σ → psS σ 20 x = σ 20 x := fun x hx => by
    unfold psS
    rw [dyS_o (by decide) (by decide), reS_o (by decide)]
    unfold cdS
    split
    · rw [ups_at, upd_ne hx]
    · rfl
  have p22 : psS σ 22 = σ 22 := ps_k (by decide) (by decide) (by decide) (by decide)
  have dz : dn (rzS (z0S σ) 7) = dn σ := dn_eq (hz 0 (by decide) (by decide) (by decide) (by decide))
  obtain ⟨h1, h2, h3, h4, h5, h6, h7, h8, h9, h10, h11, h12⟩ := h
  have nQ : ∀ j, j ≠ 0 → up2 I QM 0 (nI (dn σ + 1)) QM j = I QM j := fun j hj => by rw [up2_at, upd_ne hj]
  refine ⟨fun i hi => ?_, fun t ht i hi => ?_, fun i hi j hj => ?_, fun i hi j hj => ?_, ?_, fun x hx1 hx2 => ?_, fun x hx1 hx2 => ?_, fun t ht => ?_, fun t ht => ?_, ?_, ?_, ?_⟩
  · rw [up2_ne (by decide)]
    refine LA_v (fun k hk => ?_) (h1 i hi)
    by_cases e5 : k = 5
    · subst e5
      rw [rz_5, if_pos hi, z0_o (by decide) (by decide)]
      unfold psS
      rw [dyS_o (by decide) (by decide)]
      show (if i < pn (cdS σ) then rst (cdS σ 5 i) else cdS σ 5 i) = _
      rw [hpn, if_pos hi, cd_o (by decide)]
    · by_cases e10 : k = 10
      · subst e10
        rw [rz_10, if_pos hi]
        show (if i < pn (reS (cdS σ) (pn (cdS σ))) then nI 0 else _) = _
        rw [ps_pn2, hp, if_pos hi]
      · rw [hz k e5 e10 (by omega) (by omega), ps_k (by omega) e5 e10 (by omega)]
  · rw [up2_ne (by decide), ps_k (by decide) (by decide) (by decide) (by decide), ← hz 4 (by decide) (by decide) (by decide) (by decide)]; exact h2 t ht i hi
  · rw [up2_ne (by decide), ps_k (by decide) (by decide) (by decide) (by decide), ← hz 11 (by decide) (by decide) (by decide) (by decide)]; exact h3 i hi j hj
  · rw [up2_ne (by decide), ps_k (by decide) (by decide) (by decide) (by decide), ← hz 13 (by decide) (by decide) (by decide) (by decide)]; exact h4 i hi j hj
  · rw [up2_at, upd_at, ps0]
  · rw [dps] at hx1 hx2
    by_cases e : x = dn σ + 3
    · subst e
      have hc := h6 (dn σ) (by rw [dz]; exact Nat.le_refl _) (by rw [dz]; omega)
      obtain ⟨o1, o2⟩ := h0.2.2.2.2.2.2.1 (dn σ + 3) (Nat.le_refl _) (by omega)
      have em : mn (psS σ) (dn σ + 3) = 0 := by unfold mn; rw [p20 _ (by omega), o1]; rfl
      have em2 : mn (rzS (z0S σ) 7) (dn σ) = 0 := by unfold mn; rw [rz_o (by decide) (by decide), z0_d.1]; rfl
      have e3 : (dn σ + 3) % 3 = dn σ % 3 := by omega
      refine ⟨?_, ?_, fun q => absurd em q, ?_, fun j hj => absurd hj (by rw [em]; exact Nat.not_lt_zero _)⟩
      · rw [nQ _ (by omega), e3, em, hc.1, em2]
      · rw [em]; exact Nat.zero_le _
      · rw [nQ _ (by omega), e3, hc.2.2.2.1, rz_o (by decide) (by decide), z0_d.2, p22, o2]
    · have hc := h6 x (by rw [dz]; omega) (by rw [dz]; omega)
      refine LK_o hc ?_ ?_ ?_ (fun q hq => ?_) (fun q hq => by rw [up2_ne (by decide)]) ⟨nQ _ (by omega), nQ _ (by omega), nQ _ (by omega)⟩
      · rw [p20 x (by omega), rz_o (by decide) (by decide), (z0_20 (by omega)).1]
      · rw [ps_k (by decide) (by decide) (by decide) (by decide), hz 21 (by decide) (by decide) (by decide) (by decide)]
      · rw [p22, rz_o (by decide) (by decide), (z0_20 (by omega)).2]
      · rw [ps_k (by decide) (by decide) (by decide) (by decide), hz 19 (by decide) (by decide) (by decide) (by decide)]
  · rw [dps] at hx1
    rw [p20 x (by omega), p22]
    exact h0.2.2.2.2.2.2.1 x (by omega) hx2
  · have := LT_eq (fun k hk => (ps_k (by omega) (by omega) (by omega) (by omega)).trans (hz k (by omega) (by omega) (by omega) (by omega)).symm) (h8 t ht)
    unfold LT at *
    rw [nQ _ (by omega), nQ _ (by omega)]
    exact this
  · rw [nQ _ (by omega), ps_k (by decide) (by decide) (by decide) (by decide), ← hz 23 (by decide) (by decide) (by decide) (by decide)]; exact h9 t ht
  · rw [pn_eq (ps_k (by decide) (by decide) (by decide) (by decide))]; exact hp
  · rw [tn_eq (ps_k (by decide) (by decide) (by decide) (by decide))]; exact h0.2.2.2.2.2.2.2.2.2.2.1
  · rw [dps]; have := h0.2.2.2.2.2.2.2.2.2.2.2; omega
theorem rst_0 {x : Int32} {s : Nat} (e : x = nI s) (h : ¬ 10 ≤ s) : nI 0 = rst x := by
  unfold rst
  rw [e, if_neg]
  rw [Int32.lt_iff_toInt_lt, pk_sub_toInt (by omega) (by decide), nI_toInt (by decide)]
  omega
theorem rst_1 {x : Int32} {s : Nat} (e : x = nI s) (hs : s < 1000000) (h : 10 ≤ s) : nI (s - 10) = rst x := by
  unfold rst
  rw [e, pk_sub h]
  by_cases h10 : s = 10
  · subst h10; decide
  · rw [if_pos]
    rw [nI_ltI (by decide) (by omega)]
    omega
set_option maxRecDepth 20000 in
set_option maxHeartbeats 400000 in
theorem c_play_lp {d : Nat} {b : Nat} {K : KM} {R : RM} {Q : QT} {nn n0 : Nat} {σ : ST} {I0 : IM} (hd : 5 ≤ d) (hQ : KQ K) (hV : IV n0 σ) (hn5 : n0 < 512) (h10 : pn σ = 7) (htn : tn σ = 2) (q : ∀ I', FrQ I0 I' → LR nn (plK σ (dn σ) (twn σ (dn σ)) (mn σ (dn σ))) I' → Mw d b N_L_isPassed 51 [some (pR (some RING)), some (pR (some QW)), some (pR (some QV)), some (pR (some QB)), some (pR (some QK)), some (pR (some QM)), some (pI (nI 1)), some (pI (nI ((dn σ) % 3))), some (pI (tkK σ (dn σ) (twn σ (dn σ)) (mn σ (dn σ)))), some (pI (nI (mn σ (dn σ))))] [] K I' R Q) : ∀ (n j : Nat) (I : IM), mn σ (dn σ) - j < n → j ≤ mn σ (dn σ) → (FrQ I0 I) → (LR nn (plK σ (dn σ) (twn σ (dn σ)) j) I) → Mw d b N_L_isPassed 32 [some (pR (some RING)), some (pR (some QW)), some (pR (some QV)), some (pR (some QB)), some (pR (some QK)), some (pR (some QM)), some (pI (nI 1)), some (pI (nI ((dn σ) % 3))), some (pI (tkK σ (dn σ) (twn σ (dn σ)) j)), some (pI (nI j))] [] K I R Q := by
  obtain ⟨d9, rfl⟩ : ∃ d9, d = d9 + 1 := ⟨d - 1, by omega⟩
  intro n
  induction n with
  | zero => intro j I  hn; exact absurd hn (Nat.not_lt_zero _)
  | succ n ih =>
    intro j I  hn hi hF hL
    have hdd := hV.2.2.1.2
    have hc6 := (hV.2.2.2.2.2.1 (dn σ) (by omega)).2.1
    have e0 : dn (plK σ (dn σ) (twn σ (dn σ)) j) = dn σ := dn_eq (plK_o (by decide) j)
    have hmj : I QM (1 + dn σ % 3) = nI (mn σ (dn σ)) := by
      have := (LR_card hL (x := dn σ) (by rw [e0]; exact Nat.le_refl _) (by rw [e0]; omega)).1
      rw [mn_eq (plK_o (by decide) j)] at this
      exact this
    refine mw_iload i_99_32 (x := nI j) rfl ?_
    refine mw_aload i_99_33 (L := QM) rfl ?_
    refine mw_const i_99_34 (v := nI 1) (by decide) ?_
    refine mw_iload i_99_35 (x := nI ((dn σ) % 3)) rfl ?_
    refine mw_iadd i_99_36 (w := nI (1 + ((dn σ) % 3))) (nI_add _ _) ?_
    refine mw_iald i_99_37 (jn := 1 + ((dn σ) % 3)) (n := 18) (by omega) (by omega) hQ.2.2.2.2.2 (by decide) (v := nI (mn σ (dn σ))) hmj ?_
    refine mw_ic i_99_38 (p := (mn σ (dn σ)) ≤ j) (nI_leI (by omega) (by omega)) (fun c1 => ?_) (fun c1 => ?_)
    · skip
      obtain rfl : j = mn σ (dn σ) := by omega
      exact q _ hF hL
    · skip
      refine mw_iload i_99_39 (x := tkK σ (dn σ) (twn σ (dn σ)) j) rfl ?_
      refine mw_aload i_99_40 (L := QW) rfl ?_
      refine mw_aload i_99_41 (L := QV) rfl ?_
      refine mw_aload i_99_42 (L := QB) rfl ?_
      refine mw_aload i_99_43 (L := QK) rfl ?_
      refine mw_aload i_99_44 (L := QM) rfl ?_
      refine mw_iload i_99_45 (x := nI j) rfl ?_
      refine mw_callS i_99_46 mf_95 (as := [pR (some QW), pR (some QV), pR (some QB), pR (some QK), pR (some QM), pI (nI j)]) (rest := [pI (tkK σ (dn σ) (twn σ (dn σ)) j)]) (d' := d9) (b' := b) (ls0 := [some (pR (some QW)), some (pR (some QV)), some (pR (some QB)), some (pR (some QK)), some (pR (some QM)), some (pI (nI j)), none, none, none, none, none, none, none, none]) rfl rfl rfl (Nat.le_of_ble_eq_true rfl) rfl rfl rfl ?_
      refine b_played (by omega) hQ hL hV hn5 (by omega) h10 htn ?_
      intro I9 hF9 hL9
      refine aft_v ?_
      refine mw_iadd i_99_47 (w := tkK σ (dn σ) (twn σ (dn σ)) (j + 1)) rfl ?_
      refine mw_istore i_99_48 (ls' := [some (pR (some RING)), some (pR (some QW)), some (pR (some QV)), some (pR (some QB)), some (pR (some QK)), some (pR (some QM)), some (pI (nI 1)), some (pI (nI ((dn σ) % 3))), some (pI (tkK σ (dn σ) (twn σ (dn σ)) (j + 1))), some (pI (nI j))]) rfl (Nat.le_of_ble_eq_true rfl) ?_
      refine mw_iinc i_99_49 (x := nI j) (v := nI (j + 1)) (ls' := [some (pR (some RING)), some (pR (some QW)), some (pR (some QV)), some (pR (some QB)), some (pR (some QK)), some (pR (some QM)), some (pI (nI 1)), some (pI (nI ((dn σ) % 3))), some (pI (tkK σ (dn σ) (twn σ (dn σ)) (j + 1))), some (pI (nI (j + 1)))]) rfl (nI_add _ _) rfl ?_
      refine mw_goto i_99_50 ?_
      exact ih (j + 1) I9 (by omega) (by omega) (FrQ_tr hF hF9) hL9
set_option maxRecDepth 20000 in
set_option maxHeartbeats 400000 in
theorem c_play {d b : Nat} {K : KM} {I : IM} {R : RM} {Q : QT} {L n : Nat} {σ : ST} (hd : 20 ≤ d) (hW9 : WQ L n σ K I R) (hn : n < 512)  (q : ∀ σ' K' I' R', WQ L (n + 1) σ' K' I' R' → Q (.inl (some (pI (nI 1)))) K' I' R') : Mw d (b + 14) N_L_isPassed 0 [some (pR (some RING)), some (pR (some QW)), some (pR (some QV)), some (pR (some QB)), some (pR (some QK)), some (pR (some QM)), some (pI (nI 1)), none, none, none] [] K I R Q := by
  obtain ⟨d9, rfl⟩ : ∃ d9, d = d9 + 1 := ⟨d - 1, by omega⟩
  obtain ⟨hW, hL, hQ, hK0⟩ := hW9
  have hV := hW.2.2
  have hdd9 := hV.2.2.1.2
  have h10 := hL.2.2.2.2.2.2.2.2.2.1
  have hd0 := hV.2.2.1.1
  have hdn := hL.2.2.2.2.2.2.2.2.2.2.2
  have htn := hL.2.2.2.2.2.2.2.2.2.2.1
  obtain ⟨g1, g2, g3, g4, g5⟩ := LR_card hL (x := dn σ) (Nat.le_refl _) (by omega)
  refine mw_aload i_99_0 (L := QM) rfl ?_
  refine mw_const i_99_1 (v := nI 0) (by decide) ?_
  refine mw_iald i_99_2 (jn := 0) (n := 18) (by omega) (by omega) hQ.2.2.2.2.2 (by decide) (v := nI (dn σ)) (hL.2.2.2.2.1.trans hd0) ?_
  refine mw_const i_99_3 (v := nI 3) (by decide) ?_
  refine mw_irem i_99_4 (by decide) (w := nI ((dn σ) % 3)) (pk_rem (by omega) (by omega) (by omega)) ?_
  refine mw_istore i_99_5 (ls' := [some (pR (some RING)), some (pR (some QW)), some (pR (some QV)), some (pR (some QB)), some (pR (some QK)), some (pR (some QM)), some (pI (nI 1)), some (pI (nI ((dn σ) % 3))), none, none]) rfl (Nat.le_of_ble_eq_true rfl) ?_
  refine mw_iload i_99_6 (x := nI 1) rfl ?_
  refine mw_ifF i_99_7 (show ¬ (nI 1 = 0) by decide) ?_
  refine mw_aload i_99_8 (L := QM) rfl ?_
  refine mw_const i_99_9 (v := nI 1) (by decide) ?_
  refine mw_iload i_99_10 (x := nI ((dn σ) % 3)) rfl ?_
  refine mw_iadd i_99_11 (w := nI (1 + ((dn σ) % 3))) (nI_add _ _) ?_
  refine mw_iald i_99_12 (jn := 1 + ((dn σ) % 3)) (n := 18) (by omega) (by omega) hQ.2.2.2.2.2 (by decide) (v := nI (mn σ (dn σ))) g1 ?_
  refine mw_if i_99_13 (p := (nI (mn σ (dn σ))) = nI 0) Iff.rfl (fun c1 => ?_) (fun c1 => ?_)
  · skip
    refine mw_const i_99_26 (v := nI 1) (by decide) ?_
    refine mw_iret i_99_27 (x := nI 1) (fun _ => (by decide)) ?_
    exact q σ K I R ⟨CW_up hW, LR_n hL (Nat.le_succ n), hQ, hK0⟩
  · skip
    refine mw_aload i_99_14 (L := QM) rfl ?_
    refine mw_const i_99_15 (v := nI 7) (by decide) ?_
    refine mw_iload i_99_16 (x := nI ((dn σ) % 3)) rfl ?_
    refine mw_iadd i_99_17 (w := nI (7 + ((dn σ) % 3))) (nI_add _ _) ?_
    refine mw_iald i_99_18 (jn := 7 + ((dn σ) % 3)) (n := 18) (by omega) (by omega) hQ.2.2.2.2.2 (by decide) (v := σ 22 (dn σ)) g4 ?_
    refine mw_const i_99_19 (v := nI 1) (by decide) ?_
    refine mw_ic i_99_20 (p := (σ 22 (dn σ)) = (nI 1)) Iff.rfl (fun c2 => ?_) (fun c2 => ?_)
    · skip
      refine mw_const i_99_26 (v := nI 1) (by decide) ?_
      refine mw_iret i_99_27 (x := nI 1) (fun _ => (by decide)) ?_
      exact q σ K I R ⟨CW_up hW, LR_n hL (Nat.le_succ n), hQ, hK0⟩
    · skip
      refine mw_aload i_99_21 (L := QW) rfl ?_
      refine mw_aload i_99_22 (L := QK) rfl ?_
      refine mw_aload i_99_23 (L := QM) rfl ?_
      refine mw_callS i_99_24 mf_87 (as := [pR (some QW), pR (some QK), pR (some QM)]) (rest := []) (d' := d9) (b' := b + 14) (ls0 := [some (pR (some QW)), some (pR (some QK)), some (pR (some QM)), none, none, none]) rfl rfl rfl (Nat.le_of_ble_eq_true rfl) rfl rfl rfl ?_
      refine b_opens (by omega) hQ hL hV ?_
      refine aft_v ?_
      refine mw_if i_99_25 (p := (nI (bs (oP σ) 6)) ≤ nI 0) Iff.rfl (fun c3 => ?_) (fun c3 => ?_)
      · skip
        refine mw_const i_99_28 (v := nI 0) (by decide) ?_
        refine mw_istore i_99_29 (ls' := [some (pR (some RING)), some (pR (some QW)), some (pR (some QV)), some (pR (some QB)), some (pR (some QK)), some (pR (some QM)), some (pI (nI 1)), some (pI (nI ((dn σ) % 3))), some (pI (nI 0)), none]) rfl (Nat.le_of_ble_eq_true rfl) ?_
        refine mw_const i_99_30 (v := nI 0) (by decide) ?_
        refine mw_istore i_99_31 (ls' := [some (pR (some RING)), some (pR (some QW)), some (pR (some QV)), some (pR (some QB)), some (pR (some QK)), some (pR (some QM)), some (pI (nI 1)), some (pI (nI ((dn σ) % 3))), some (pI (nI 0)), some (pI (nI 0))]) rfl (Nat.le_of_ble_eq_true rfl) ?_
        have hno := bs_0 (p := oP σ) (n := 6) (by have := (nI_leI (by have := bs_lt (oP σ) 6; omega) (by decide)).mp c3; omega)
        have hmn0 : ¬ mn σ (dn σ) = 0 := fun h => c1 (by rw [h])
        have h22 : σ 22 (dn σ) = nI 0 := (hV.2.2.2.2.2.1 (dn σ) (by omega)).2.2.1.resolve_right (fun h => c2 h.1)
        have hOK : pOK σ := ⟨hmn0, h22, no_hO (fun s hs ho => hno s (by omega) ⟨hs, ho⟩)⟩
        refine c_play_lp (I0 := I) (by omega) hQ hV hn h10 htn (fun I1 hF1 hL1 => ?_) (mn σ (dn σ) + 1) 0 I (by omega) (by omega) FrQ_rfl hL
        have e0 : dn (plK σ (dn σ) (twn σ (dn σ)) (mn σ (dn σ))) = dn σ := dn_eq (plK_o (by decide) _)
        refine mw_aload i_99_51 (L := QM) rfl ?_
        refine mw_const i_99_52 (v := nI 7) (by decide) ?_
        refine mw_iload i_99_53 (x := nI ((dn σ) % 3)) rfl ?_
        refine mw_iadd i_99_54 (w := nI (7 + ((dn σ) % 3))) (nI_add _ _) ?_
        refine mw_const i_99_55 (v := nI 1) (by decide) ?_
        obtain ⟨I24, e24⟩ : ∃ I24, I24 = up2 I1 QM (7 + ((dn σ) % 3)) (nI 1) := ⟨_, rfl⟩
        refine mw_iast i_99_56 (jn := 7 + ((dn σ) % 3)) (n := 18) (by omega) (by omega) (x := nI 1) hQ.2.2.2.2.2 (I' := I24) e24.symm ?_
        have hL5 : LR n (ups (plK σ (dn σ) (twn σ (dn σ)) (mn σ (dn σ))) 22 (dn σ) (nI 1)) I24 := by rw [e24]; exact LR_pld hL1 (by rw [e0]; exact Nat.le_refl _) (by rw [e0]; omega)
        refine mw_aload i_99_57 (L := RING) rfl ?_
        have hW1 : CW n σ K I24 R := CW_Q hW (show FrQ I I24 from by rw [e24]; exact FrQ_up (FrQ_tr FrQ_rfl hF1) rfl)
        refine mw_callV i_99_58 mf_43 (as := []) (rest := []) (d' := d9) (b' := b + 7) (ls0 := [some (pR (some RING)), none, none, none]) rfl rfl rfl (Nat.le_of_ble_eq_true rfl) hW.1.1.1.1 rfl (by omega) rfl ?_
        refine k_play (by omega) hW1 (by omega) hn (fun h => absurd hOK h) (fun hOK9 I9 hF9 hR9 v hv => ?_)
        refine aft_v ?_
        refine mw_iload i_99_59 (x := tkK σ (dn σ) (twn σ (dn σ)) (mn σ (dn σ))) rfl ?_
        refine mw_icF i_99_60 (fun h => h hv) ?_
        refine mw_const i_99_61 (v := nI 1) (by decide) ?_
        refine mw_goto i_99_62 ?_
        refine mw_iret i_99_64 (x := nI 1) (fun _ => (by decide)) ?_
        exact q _ K I9 R ⟨⟨hW.1, hR9, IV_pl hV hn hOK⟩, LR_n (LR_C0 (show LR n (plS σ) _ from hL5) hF9) (Nat.le_succ n), hQ, hK0⟩
      · skip
        refine mw_const i_99_26 (v := nI 1) (by decide) ?_
        refine mw_iret i_99_27 (x := nI 1) (fun _ => (by decide)) ?_
        exact q σ K I R ⟨CW_up hW, LR_n hL (Nat.le_succ n), hQ, hK0⟩
set_option maxRecDepth 20000 in
set_option maxHeartbeats 400000 in
theorem c_pass_lp {d : Nat} {b : Nat} {K : KM} {R : RM} {Q : QT} {nn n0 : Nat} {σ : ST} {I0 : IM} {u9 : Option PV} (hQ : KQ K) (hV : IV n0 σ) (hn : n0 < 512) (q : ∀ I', FrQ I0 I' → LR nn (rzS (z0S σ) 7) I' → Mw d b N_L_isPassed 130 [some (pR (some RING)), some (pR (some QW)), some (pR (some QV)), some (pR (some QB)), some (pR (some QK)), some (pR (some QM)), some (pI (nI 0)), some (pI (nI ((dn σ) % 3))), some (pI (nI 7)), u9] [] K I' R Q) : ∀ (n j : Nat) (I : IM), 7 - j < n → j ≤ 7 → (FrQ I0 I) → (LR nn (rzS (z0S σ) j) I) → Mw d b N_L_isPassed 79 [some (pR (some RING)), some (pR (some QW)), some (pR (some QV)), some (pR (some QB)), some (pR (some QK)), some (pR (some QM)), some (pI (nI 0)), some (pI (nI ((dn σ) % 3))), some (pI (nI j)), u9] [] K I R Q := by
  intro n
  induction n with
  | zero => intro j I  hn; exact absurd hn (Nat.not_lt_zero _)
  | succ n ih =>
    intro j I  hn hi hF hLj
    refine mw_iload i_99_79 (x := nI j) rfl ?_
    refine mw_const i_99_80 (v := nI 7) (by decide) ?_
    refine mw_ic i_99_81 (p := 7 ≤ j) (nI_leI (by omega) (by omega)) (fun c1 => ?_) (fun c1 => ?_)
    · skip
      obtain rfl : j = 7 := by omega
      exact q _ hF hLj
    · skip
      obtain ⟨s5, hs5, e5⟩ := (hV.2.2.2.1 j (by omega)).2.2.2.1
      obtain ⟨p, z0, hp, hz0, e12, e10, e8⟩ := (hLj.1 j (by omega)).2.2.2.2.2.2.2.2.1
      refine mw_aload i_99_82 (L := QW) rfl ?_
      refine mw_const i_99_83 (v := nI 9) (by decide) ?_
      refine mw_iload i_99_84 (x := nI j) rfl ?_
      refine mw_imul i_99_85 (w := nI (9 * j)) (pk_mul _ _) ?_
      refine mw_const i_99_86 (v := nI 3) (by decide) ?_
      refine mw_iadd i_99_87 (w := nI (9 * j + 3)) (nI_add _ _) ?_
      have J2 : Mw d b 99 108 [some (pR (some RING)), some (pR (some QW)), some (pR (some QV)), some (pR (some QB)), some (pR (some QK)), some (pR (some QM)), some (pI (nI 0)), some (pI (nI ((dn σ) % 3))), some (pI (nI j)), u9] [pI (rst (σ 5 j)), pI (nI (9 * j + 3)), pR (some QW)] K I R Q := by
        obtain ⟨I23, e23⟩ : ∃ I23, I23 = up2 I QW (9 * j + 3) (rst (σ 5 j)) := ⟨_, rfl⟩
        refine mw_iast i_99_108 (jn := 9 * j + 3) (n := 63) (by omega) (by omega) (x := rst (σ 5 j)) hQ.1 (I' := I23) e23.symm ?_
        obtain ⟨S4, eS4⟩ : ∃ S4, S4 = ups (rzS (z0S σ) j) 5 j (rst (σ 5 j)) := ⟨_, rfl⟩
        have hL4 : LR nn S4 I23 := by rw [e23, eS4]; exact LR_fld hLj (Or.inr (Or.inl ⟨rfl, rfl⟩)) (fun h => absurd h (by decide))
        refine mw_aload i_99_109 (L := QW) rfl ?_
        refine mw_const i_99_110 (v := nI 9) (by decide) ?_
        refine mw_iload i_99_111 (x := nI j) rfl ?_
        refine mw_imul i_99_112 (w := nI (9 * j)) (pk_mul _ _) ?_
        refine mw_const i_99_113 (v := nI 8) (by decide) ?_
        refine mw_iadd i_99_114 (w := nI (9 * j + 8)) (nI_add _ _) ?_
        refine mw_dup2 i_99_115 trivial trivial ?_
        refine mw_iald i_99_116 (jn := 9 * j + 8) (n := 63) (by omega) (by omega) hQ.1 (by decide) (v := nI (2 * p + z0)) (by rw [e23, up2_at, upd_ne (by omega)]; exact e8) ?_
        refine mw_aload i_99_117 (L := QW) rfl ?_
        refine mw_const i_99_118 (v := nI 9) (by decide) ?_
        refine mw_iload i_99_119 (x := nI j) rfl ?_
        refine mw_imul i_99_120 (w := nI (9 * j)) (pk_mul _ _) ?_
        refine mw_const i_99_121 (v := nI 8) (by decide) ?_
        refine mw_iadd i_99_122 (w := nI (9 * j + 8)) (nI_add _ _) ?_
        refine mw_iald i_99_123 (jn := 9 * j + 8) (n := 63) (by omega) (by omega) hQ.1 (by decide) (v := nI (2 * p + z0)) (by rw [e23, up2_at, upd_ne (by omega)]; exact e8) ?_
        refine mw_const i_99_124 (v := nI 2) (by decide) ?_
        refine mw_irem i_99_125 (by decide) (w := nI ((2 * p + z0) % 2)) (pk_rem (by omega) (by omega) (by omega)) ?_
        refine mw_isub i_99_126 (w := nI ((2 * p + z0) - ((2 * p + z0) % 2))) (pk_sub (by omega)) ?_
        obtain ⟨I25, e25⟩ : ∃ I25, I25 = up2 I23 QW (9 * j + 8) (nI ((2 * p + z0) - ((2 * p + z0) % 2))) := ⟨_, rfl⟩
        refine mw_iast i_99_127 (jn := 9 * j + 8) (n := 63) (by omega) (by omega) (x := nI ((2 * p + z0) - ((2 * p + z0) % 2))) hQ.1 (I' := I25) e25.symm ?_
        obtain ⟨S6, eS6⟩ : ∃ S6, S6 = ups S4 10 j (nI 0) := ⟨_, rfl⟩
        have hL6 : LR nn S6 I25 := by rw [e25, eS6]; exact LR_w8 hL4 (p := p) (z := 0) (Or.inl rfl) hp (by decide) (by rw [ups_ne (by decide), eS4, ups_ne (by decide)]; exact e12) (by rw [ups_at, upd_at]) (congrArg nI (by omega))
        refine mw_iinc i_99_128 (x := nI j) (v := nI (j + 1)) (ls' := [some (pR (some RING)), some (pR (some QW)), some (pR (some QV)), some (pR (some QB)), some (pR (some QK)), some (pR (some QM)), some (pI (nI 0)), some (pI (nI ((dn σ) % 3))), some (pI (nI (j + 1))), u9]) rfl (nI_add _ _) rfl ?_
        refine mw_goto i_99_129 ?_
        exact ih (j + 1) I25 (by omega) (by omega) (FrQ_tr hF (show FrQ I I25 from by rw [e25]; exact FrQ_up (show FrQ I I23 from by rw [e23]; exact FrQ_up FrQ_rfl rfl) rfl)) (by rw [← rz_s, z0_o (show 5 ≠ 20 by decide) (by decide)]; rw [← eS4]; rw [← eS6];  exact hL6)
      refine mw_aload i_99_88 (L := QW) rfl ?_
      refine mw_const i_99_89 (v := nI 9) (by decide) ?_
      refine mw_iload i_99_90 (x := nI j) rfl ?_
      refine mw_imul i_99_91 (w := nI (9 * j)) (pk_mul _ _) ?_
      refine mw_const i_99_92 (v := nI 3) (by decide) ?_
      refine mw_iadd i_99_93 (w := nI (9 * j + 3)) (nI_add _ _) ?_
      refine mw_iald i_99_94 (jn := 9 * j + 3) (n := 63) (by omega) (by omega) hQ.1 (by decide) (v := nI s5) ((hLj.1 j (by omega)).2.2.2.1.trans (by rw [rz_5, if_neg (Nat.lt_irrefl _), z0_o (by decide) (by decide)]; exact e5)) ?_
      refine mw_const i_99_95 (v := nI 10) (by decide) ?_
      refine mw_ic i_99_96 (p := 10 ≤ s5) (nI_leI (by omega) (by omega)) (fun c7 => ?_) (fun c7 => ?_)
      · skip
        refine mw_aload i_99_99 (L := QW) rfl ?_
        refine mw_const i_99_100 (v := nI 9) (by decide) ?_
        refine mw_iload i_99_101 (x := nI j) rfl ?_
        refine mw_imul i_99_102 (w := nI (9 * j)) (pk_mul _ _) ?_
        refine mw_const i_99_103 (v := nI 3) (by decide) ?_
        refine mw_iadd i_99_104 (w := nI (9 * j + 3)) (nI_add _ _) ?_
        refine mw_iald i_99_105 (jn := 9 * j + 3) (n := 63) (by omega) (by omega) hQ.1 (by decide) (v := nI s5) ((hLj.1 j (by omega)).2.2.2.1.trans (by rw [rz_5, if_neg (Nat.lt_irrefl _), z0_o (by decide) (by decide)]; exact e5)) ?_
        refine mw_const i_99_106 (v := nI 10) (by decide) ?_
        refine mw_isub i_99_107 (w := nI (s5 - 10)) (pk_sub (by omega)) ?_
        exact mw_top (show nI (s5 - 10) = rst (σ 5 j) from rst_1 e5 (by omega) c7) J2
      · skip
        refine mw_const i_99_97 (v := nI 0) (by decide) ?_
        refine mw_goto i_99_98 ?_
        exact mw_top (show nI 0 = rst (σ 5 j) from rst_0 e5 c7) J2
set_option maxRecDepth 20000 in
set_option maxHeartbeats 400000 in
theorem c_pass {d b : Nat} {K : KM} {I : IM} {R : RM} {Q : QT} {L n : Nat} {σ : ST} (hd : 20 ≤ d) (hW9 : WQ L n σ K I R) (hn : n < 512) (hn9 : n ≤ 900)  (q : ∀ σ' K' I' R', WQ L (n + 1) σ' K' I' R' → Q (.inl (some (pI (nI 1)))) K' I' R') : Mw d (b + 14) N_L_isPassed 0 [some (pR (some RING)), some (pR (some QW)), some (pR (some QV)), some (pR (some QB)), some (pR (some QK)), some (pR (some QM)), some (pI (nI 0)), none, none, none] [] K I R Q := by
  obtain ⟨d9, rfl⟩ : ∃ d9, d = d9 + 1 := ⟨d - 1, by omega⟩
  obtain ⟨hW, hL, hQ, hK0⟩ := hW9
  have hV := hW.2.2
  have hdd9 := hV.2.2.1.2
  have h10 := hL.2.2.2.2.2.2.2.2.2.1
  have hd0 := hV.2.2.1.1
  have hdn := hL.2.2.2.2.2.2.2.2.2.2.2
  have htn := hL.2.2.2.2.2.2.2.2.2.2.1
  obtain ⟨g1, g2, g3, g4, g5⟩ := LR_card hL (x := dn σ) (Nat.le_refl _) (by omega)
  refine mw_aload i_99_0 (L := QM) rfl ?_
  refine mw_const i_99_1 (v := nI 0) (by decide) ?_
  refine mw_iald i_99_2 (jn := 0) (n := 18) (by omega) (by omega) hQ.2.2.2.2.2 (by decide) (v := nI (dn σ)) (hL.2.2.2.2.1.trans hd0) ?_
  refine mw_const i_99_3 (v := nI 3) (by decide) ?_
  refine mw_irem i_99_4 (by decide) (w := nI ((dn σ) % 3)) (pk_rem (by omega) (by omega) (by omega)) ?_
  refine mw_istore i_99_5 (ls' := [some (pR (some RING)), some (pR (some QW)), some (pR (some QV)), some (pR (some QB)), some (pR (some QK)), some (pR (some QM)), some (pI (nI 0)), some (pI (nI ((dn σ) % 3))), none, none]) rfl (Nat.le_of_ble_eq_true rfl) ?_
  refine mw_iload i_99_6 (x := nI 0) rfl ?_
  refine mw_ifT i_99_7 (show nI 0 = 0 by decide) ?_
  refine mw_aload i_99_65 (L := QM) rfl ?_
  refine mw_const i_99_66 (v := nI 1) (by decide) ?_
  refine mw_iload i_99_67 (x := nI ((dn σ) % 3)) rfl ?_
  refine mw_iadd i_99_68 (w := nI (1 + ((dn σ) % 3))) (nI_add _ _) ?_
  refine mw_const i_99_69 (v := nI 0) (by decide) ?_
  obtain ⟨I21, e21⟩ : ∃ I21, I21 = up2 I QM (1 + ((dn σ) % 3)) (nI 0) := ⟨_, rfl⟩
  refine mw_iast i_99_70 (jn := 1 + ((dn σ) % 3)) (n := 18) (by omega) (by omega) (x := nI 0) hQ.2.2.2.2.2 (I' := I21) e21.symm ?_
  refine mw_aload i_99_71 (L := QM) rfl ?_
  refine mw_const i_99_72 (v := nI 7) (by decide) ?_
  refine mw_iload i_99_73 (x := nI ((dn σ) % 3)) rfl ?_
  refine mw_iadd i_99_74 (w := nI (7 + ((dn σ) % 3))) (nI_add _ _) ?_
  refine mw_const i_99_75 (v := nI 0) (by decide) ?_
  obtain ⟨I22, e22⟩ : ∃ I22, I22 = up2 I21 QM (7 + ((dn σ) % 3)) (nI 0) := ⟨_, rfl⟩
  refine mw_iast i_99_76 (jn := 7 + ((dn σ) % 3)) (n := 18) (by omega) (by omega) (x := nI 0) hQ.2.2.2.2.2 (I' := I22) e22.symm ?_
  have hLz : LR n (z0S σ) I22 := by rw [e22, e21]; exact LR_z0 hL
  refine mw_const i_99_77 (v := nI 0) (by decide) ?_
  refine mw_istore i_99_78 (ls' := [some (pR (some RING)), some (pR (some QW)), some (pR (some QV)), some (pR (some QB)), some (pR (some QK)), some (pR (some QM)), some (pI (nI 0)), some (pI (nI ((dn σ) % 3))), some (pI (nI 0)), none]) rfl (Nat.le_of_ble_eq_true rfl) ?_
  refine c_pass_lp (I0 := I22) hQ hV hn (fun I1 hF1 hL1 => ?_) 8 0 I22 (by omega) (by omega) FrQ_rfl (by rw [rz_0]; exact hLz)
  refine mw_aload i_99_130 (L := QM) rfl ?_
  refine mw_const i_99_131 (v := nI 0) (by decide) ?_
  refine mw_dup2 i_99_132 trivial trivial ?_
  refine mw_iald i_99_133 (jn := 0) (n := 18) (by omega) (by omega) hQ.2.2.2.2.2 (by decide) (v := nI (dn σ)) (hL1.2.2.2.2.1.trans (by rw [rz_o (by decide) (by decide), z0_o (by decide) (by decide)]; exact hd0)) ?_
  refine mw_const i_99_134 (v := nI 1) (by decide) ?_
  refine mw_iadd i_99_135 (w := nI (dn σ + 1)) (nI_add _ _) ?_
  obtain ⟨I23, e23⟩ : ∃ I23, I23 = up2 I1 QM 0 (nI (dn σ + 1)) := ⟨_, rfl⟩
  refine mw_iast i_99_136 (jn := 0) (n := 18) (by omega) (by omega) (x := nI (dn σ + 1)) hQ.2.2.2.2.2 (I' := I23) e23.symm ?_
  refine mw_aload i_99_137 (L := RING) rfl ?_
  have hW1 : CW n σ K I23 R := CW_Q hW (show FrQ I I23 from by rw [e23]; exact FrQ_up (FrQ_tr (show FrQ I I22 from by rw [e22]; exact FrQ_up (show FrQ I I21 from by rw [e21]; exact FrQ_up FrQ_rfl rfl) rfl) hF1) rfl)
  refine mw_callV i_99_138 mf_45 (as := []) (rest := []) (d' := d9) (b' := b + 7) (ls0 := [some (pR (some RING)), none, none]) rfl rfl rfl (Nat.le_of_ble_eq_true rfl) hW.1.1.1.1 rfl (by omega) rfl ?_
  refine k_pass (by omega) hW1 (by omega) hn (fun h => absurd (show dn σ < 999 by omega) h) (fun h I9 hF9 hR9 v hv => ?_)
  refine aft_v ?_
  refine mw_aload i_99_139 (L := QM) rfl ?_
  refine mw_const i_99_140 (v := nI 0) (by decide) ?_
  refine mw_iald i_99_141 (jn := 0) (n := 18) (by omega) (by omega) hQ.2.2.2.2.2 (by decide) (v := nI (dn σ + 1)) ((congrFun (hF9 QM (by decide)) _).trans (by rw [e23, up2_at, upd_at])) ?_
  refine mw_icF i_99_142 (fun h => h hv) ?_
  refine mw_const i_99_143 (v := nI 1) (by decide) ?_
  refine mw_goto i_99_144 ?_
  refine mw_iret i_99_146 (x := nI 1) (fun _ => (by decide)) ?_
  exact q _ K I9 R ⟨⟨hW.1, hR9, IV_ps hV hn (by omega)⟩, LR_C0 (by rw [e23]; exact LR_ps hV (by omega) hL hL1) hF9, hQ, hK0⟩
