/-! the law plays a match: the states of both orders are one -/
theorem ups_cm {σ : ST} {k j k2 j2 : Nat} {v v2 : Int32} (h : k ≠ k2 ∨ j ≠ j2) : ups (ups σ k j v) k2 j2 v2 = ups (ups σ k2 j2 v2) k j v := by
  funext q r
  by_cases h1 : q = k
  · by_cases h2 : q = k2
    · have e : k = k2 := h1.symm.trans h2
      subst e
      have hj := h.resolve_left (fun q => q rfl)
      subst h1
      rw [ups_at, ups_at, ups_at, ups_at]
      unfold upd
      by_cases r1 : r = j
      · rw [if_neg (fun e => hj (r1.symm.trans e)), if_pos r1, if_pos r1]
      · rw [if_neg r1, if_neg r1]
    · subst h1
      rw [ups_ne h2, ups_at, ups_at, ups_ne h2]
  · by_cases h2 : q = k2
    · subst h2
      rw [ups_at, ups_ne h1, ups_ne h1, ups_at]
    · rw [ups_ne h2, ups_ne h1, ups_ne h1, ups_ne h2]
theorem ad_cm {σ : ST} {k f s : Nat} {x y : Int32} (h : f ≠ s) : adS (adS σ k f x) k s y = adS (adS σ k s y) k f x := by
  unfold adS
  rw [ups_at, ups_at, upd_ne (Ne.symm h), upd_ne h]
  exact ups_cm (Or.inr h)
theorem tr_cm {σ : ST} {f s : Nat} (h : f ≠ s) : trS (trS σ f) s = trS (trS σ s) f := by
  unfold trS
  have e : ∀ w v, ups σ 3 w v 4 = σ 4 := fun w v => ups_ne (by decide)
  rw [e, e, ups_at, ups_at, upd_ne (Ne.symm h), upd_ne h]
  exact ups_cm (Or.inr h)
/-- a gate's change goes behind all else -/
theorem U_rd {σ : ST} {t k : Nat} {v : Int32} (h : k ≠ 23) : ups σ 23 t v k = σ k := ups_ne h
theorem U_ups {σ : ST} {t k j : Nat} {v w : Int32} (h : k ≠ 23) : ups (ups σ 23 t v) k j w = ups (ups σ k j w) 23 t v := ups_cm (Or.inl (Ne.symm h))
theorem U_ad {σ : ST} {t k j : Nat} {v w : Int32} (h : k ≠ 23) : adS (ups σ 23 t v) k j w = ups (adS σ k j w) 23 t v := by
  unfold adS
  rw [U_rd h, U_ups h]
theorem U_lov {σ : ST} {t t2 w : Nat} {v x : Int32} : lov (ups σ 23 t v) t2 w x = ups (lov σ t2 w x) 23 t v := by
  unfold lov
  rw [U_rd (by decide), U_ups (by decide)]
theorem U_win {σ : ST} {t t2 wi lo : Nat} {v : Int32} : win (ups σ 23 t v) t2 wi lo = ups (win σ t2 wi lo) 23 t v := by
  unfold win
  have e0 : win0 (ups σ 23 t v) wi lo = ups (win0 σ wi lo) 23 t v := by
    unfold win0
    rw [U_rd (by decide), U_rd (by decide), U_ups (by decide), U_ups (by decide)]
  rw [U_rd (by decide), e0]
  split
  · rw [U_lov, U_lov]
  · rw [U_lov, U_lov]
theorem U_hndI {σ : ST} {t : Nat} {v ti x0 x1 wn : Int32} : hndI (ups σ 23 t v) ti x0 x1 wn = ups (hndI σ ti x0 x1 wn) 23 t v := by
  unfold hndI hnd
  have e1 : chO (ups σ 23 t v) = chO σ := funext (chO_eq (U_rd (by decide)) (U_rd (by decide)))
  have e2 : lnO (ups σ 23 t v) = lnO σ := by funext q; unfold lnO; rw [U_rd (by decide)]
  rw [e1, e2, U_rd (by decide)]
  split
  · rfl
  · split
    · unfold crn
      rw [U_ups (by decide), U_ups (by decide), U_ups (by decide)]
    · rfl
theorem U_tr {σ : ST} {t w : Nat} {v : Int32} : trS (ups σ 23 t v) w = ups (trS σ w) 23 t v := by
  unfold trS
  rw [U_rd (by decide), U_rd (by decide), U_ups (by decide)]
theorem U_pm {σ : ST} {t t2 f s wi lo : Nat} {v m ti re : Int32} : pmS (ups σ 23 t v) t2 f s wi lo m ti re = ups (pmS σ t2 f s wi lo m ti re) 23 t v := by
  unfold pmS
  dsimp only
  by_cases h : re = nI 0
  · rw [if_pos h, if_pos h, if_pos h, if_pos h, U_win, U_ad (by decide), U_ad (by decide), U_hndI, U_tr, U_tr]
  · rw [if_neg h, if_neg h, if_neg h, if_neg h, U_ad (by decide), U_ad (by decide), U_ad (by decide), U_ad (by decide), U_tr, U_tr]
theorem hnd_ad {σ : ST} {w : Nat} {x ti x0 x1 wn : Int32} : hndI (adS σ 5 w x) ti x0 x1 wn = adS (hndI σ ti x0 x1 wn) 5 w x := by
  have e5 : hndI σ ti x0 x1 wn 5 = σ 5 := by
    unfold hndI hnd
    split
    · rfl
    · split
      · exact crn_o2 (by decide)
      · rfl
  have e1 : chO (adS σ 5 w x) = chO σ := funext (chO_eq (ups_ne (by decide)) (ups_ne (by decide)))
  have e2 : lnO (adS σ 5 w x) = lnO σ := by funext q; unfold lnO adS; rw [ups_ne (by decide)]
  unfold adS
  rw [e5]
  unfold hndI hnd
  unfold adS at e1 e2
  rw [e1, e2, ups_ne (show 0 ≠ 5 by decide)]
  split
  · rfl
  · split
    · unfold crn
      rw [ups_cm (Or.inl (show 5 ≠ 15 by decide)), ups_cm (Or.inl (show 5 ≠ 16 by decide)), ups_cm (Or.inl (show 5 ≠ 17 by decide))]
    · rfl
/-- the law's order behind the crown -/
noncomputable def lwS (H : ST) (t wi lo : Nat) (m g : Int32) : ST := adS (trS (trS (adS (adS H 5 wi m) 5 lo m) wi) lo) 23 t g
theorem tr_23 {σ : ST} {w : Nat} : trS σ w 23 = σ 23 := ups_ne (by decide)
theorem ad_23 {σ : ST} {w : Nat} {x : Int32} : adS σ 5 w x 23 = σ 23 := ups_ne (by decide)
theorem lw_pm {τ H : ST} {t f s wi lo : Nat} {m ti re g : Int32} (hfs : f ≠ s) (hw : (wi = f ∧ lo = s) ∨ (wi = s ∧ lo = f)) (hH : H = if re = nI 0 then hndI (win τ t wi lo) ti (nI f) (nI s) (nI wi) else adS (adS τ 9 f (nI 1)) 9 s (nI 1)) (h23 : H 23 = τ 23) : lwS H t wi lo m g = pmS (adS τ 23 t g) t f s wi lo m ti re := by
  have e1 : pmS (adS τ 23 t g) t f s wi lo m ti re = ups (pmS τ t f s wi lo m ti re) 23 t (τ 23 t + g) := U_pm
  have e2 : trS (trS (adS (adS H 5 wi m) 5 lo m) wi) lo = trS (trS (adS (adS H 5 f m) 5 s m) f) s := by
    rcases hw with ⟨rfl, rfl⟩ | ⟨rfl, rfl⟩
    · rfl
    · rw [ad_cm (Ne.symm hfs), tr_cm (Ne.symm hfs)]
  have e3 : trS (trS (adS (adS H 5 f m) 5 s m) f) s = pmS τ t f s wi lo m ti re := by
    unfold pmS
    dsimp only
    by_cases h : re = nI 0
    · rw [if_pos h] at hH
      rw [if_pos h, if_pos h, hnd_ad, hnd_ad, hH]
    · rw [if_neg h] at hH
      rw [if_neg h, if_neg h, hH]
  unfold lwS
  rw [e2, e1, ← e3]
  unfold adS
  rw [show trS (trS (ups (ups H 5 f (H 5 f + m)) 5 s (ups H 5 f (H 5 f + m) 5 s + m)) f) s 23 = τ 23 by rw [tr_23, tr_23, ups_ne (by decide), ups_ne (by decide)]; exact h23]
theorem win_23 {σ : ST} {t wi lo : Nat} : win σ t wi lo 23 = σ 23 := win_o (by decide) (by decide) (by decide)
theorem hndI_23 {σ : ST} {ti x0 x1 wn : Int32} : hndI σ ti x0 x1 wn 23 = σ 23 := hndI_o (by decide) (by decide) (by decide)
theorem LR_pld {n : Nat} {σ : ST} {I : IM} (h : LR n σ I) {x : Nat} (h1 : dn σ ≤ x) (h2 : x < dn σ + 3) : LR n (ups σ 22 x (nI 1)) (up2 I QM (7 + x % 3) (nI 1)) := by
  have g20 : mn (ups σ 22 x (nI 1)) = mn σ := funext (fun q => mn_eq (ups_ne (by decide)) q)
  refine LR_K h (fun L a b => up2_ne a) (fun j hj => by rw [up2_at, upd_ne (by omega)]) (fun k hk => ups_ne (by omega)) (fun y hy1 hy2 => ?_) (fun y hy1 _ => ⟨by rw [ups_ne (by decide)], by rw [ups_at, upd_ne (by omega)]⟩)
  have hK := LR_card h hy1 hy2
  by_cases e : y = x
  · subst e
    obtain ⟨g1, g2, g3, g4, g5⟩ := hK
    refine ⟨?_, ?_, fun h0 => ?_, ?_, fun j hj => ?_⟩
    · rw [up2_at, upd_ne (by omega), g20]; exact g1
    · rw [g20]; exact g2
    · rw [g20] at h0; rw [up2_at, upd_ne (by omega), ups_ne (by decide)]; exact g3 h0
    · rw [up2_at, upd_at, ups_at, upd_at]
    · rw [g20] at hj
      have := g5 j hj
      unfold LKj at *
      rw [up2_ne (by decide), ups_ne (by decide)]
      exact this
  · have hy3 : y % 3 ≠ x % 3 := by omega
    refine LK_o hK (by rw [ups_ne (by decide)]) (by rw [ups_ne (by decide)]) (by rw [ups_at, upd_ne e]) (fun q hq => by rw [ups_ne (by decide)]) (fun q hq => by rw [up2_ne (by decide)]) ⟨?_, ?_, ?_⟩
    · rw [up2_at, upd_ne (by omega)]
    · rw [up2_at, upd_ne (by omega)]
    · rw [up2_at, upd_ne (by omega)]
set_option maxRecDepth 20000 in
set_option maxHeartbeats 400000 in
theorem c_played2 {d b : Nat} {K : KM} {I : IM} {R : RM} {Q : QT} {n t wi lo a0 : Nat} {τ : ST} {m g : Int32} {u2 u5 u11 u12 u13 : Option PV} (hd : 3 ≤ d) (hQ : KQ K) (hL : LR n τ I) (hw7 : wi < 7) (hl7 : lo < 7) (ht : t < 4) (hwl : wi ≠ lo) (ha : a0 + 5 < 54) (hk3 : I QK (a0 + 3) = m)  (q : ∀ I', FrQ I I' → LR n (lwS τ t wi lo m g) I' → Q (.inl (some (pI g))) K I' R) : Mw d b N_L_played 197 [some (pR (some QW)), some (pR (some QV)), u2, some (pR (some QK)), some (pR (some QM)), u5, some (pI (nI a0)), some (pI (nI t)), some (pI (nI wi)), some (pI (nI lo)), some (pI g), u11, u12, u13] [] K I R Q := by
  obtain ⟨d9, rfl⟩ : ∃ d9, d = d9 + 1 := ⟨d - 1, by omega⟩
  refine mw_aload i_95_197 (L := QW) rfl ?_
  refine mw_const i_95_198 (v := nI 9) (by decide) ?_
  refine mw_iload i_95_199 (x := nI wi) rfl ?_
  refine mw_imul i_95_200 (w := nI (9 * wi)) (pk_mul _ _) ?_
  refine mw_const i_95_201 (v := nI 3) (by decide) ?_
  refine mw_iadd i_95_202 (w := nI (9 * wi + 3)) (nI_add _ _) ?_
  refine mw_dup2 i_95_203 trivial trivial ?_
  refine mw_iald i_95_204 (jn := 9 * wi + 3) (n := 63) (by omega) (by omega) hQ.1 (by decide) (v := τ 5 wi) (hL.1 wi (by omega)).2.2.2.1 ?_
  refine mw_aload i_95_205 (L := QK) rfl ?_
  refine mw_iload i_95_206 (x := nI a0) rfl ?_
  refine mw_const i_95_207 (v := nI 3) (by decide) ?_
  refine mw_iadd i_95_208 (w := nI (a0 + 3)) (nI_add _ _) ?_
  refine mw_iald i_95_209 (jn := a0 + 3) (n := 54) (by omega) (by omega) hQ.2.2.2.2.1 (by decide) (v := m) hk3 ?_
  refine mw_iadd i_95_210 (w := ((τ 5 wi) + m)) rfl ?_
  obtain ⟨I21, e21⟩ : ∃ I21, I21 = up2 I QW (9 * wi + 3) ((τ 5 wi) + m) := ⟨_, rfl⟩
  refine mw_iast i_95_211 (jn := 9 * wi + 3) (n := 63) (by omega) (by omega) (x := ((τ 5 wi) + m)) hQ.1 (I' := I21) e21.symm ?_
  obtain ⟨S2, eS2⟩ : ∃ S2, S2 = adS τ 5 wi m := ⟨_, rfl⟩
  have hL2 : LR n S2 I21 := by rw [e21, eS2]; exact LR_fld hL (Or.inr (Or.inl ⟨rfl, rfl⟩)) (fun h => absurd h (by decide))
  refine mw_aload i_95_212 (L := QW) rfl ?_
  refine mw_const i_95_213 (v := nI 9) (by decide) ?_
  refine mw_iload i_95_214 (x := nI lo) rfl ?_
  refine mw_imul i_95_215 (w := nI (9 * lo)) (pk_mul _ _) ?_
  refine mw_const i_95_216 (v := nI 3) (by decide) ?_
  refine mw_iadd i_95_217 (w := nI (9 * lo + 3)) (nI_add _ _) ?_
  refine mw_dup2 i_95_218 trivial trivial ?_
  refine mw_iald i_95_219 (jn := 9 * lo + 3) (n := 63) (by omega) (by omega) hQ.1 (by decide) (v := S2 5 lo) (hL2.1 lo (by omega)).2.2.2.1 ?_
  refine mw_aload i_95_220 (L := QK) rfl ?_
  refine mw_iload i_95_221 (x := nI a0) rfl ?_
  refine mw_const i_95_222 (v := nI 3) (by decide) ?_
  refine mw_iadd i_95_223 (w := nI (a0 + 3)) (nI_add _ _) ?_
  refine mw_iald i_95_224 (jn := a0 + 3) (n := 54) (by omega) (by omega) hQ.2.2.2.2.1 (by decide) (v := m) (by rw [e21, up2_ne (by decide)]; exact hk3) ?_
  refine mw_iadd i_95_225 (w := ((S2 5 lo) + m)) rfl ?_
  obtain ⟨I23, e23⟩ : ∃ I23, I23 = up2 I21 QW (9 * lo + 3) ((S2 5 lo) + m) := ⟨_, rfl⟩
  refine mw_iast i_95_226 (jn := 9 * lo + 3) (n := 63) (by omega) (by omega) (x := ((S2 5 lo) + m)) hQ.1 (I' := I23) e23.symm ?_
  obtain ⟨S4, eS4⟩ : ∃ S4, S4 = adS S2 5 lo m := ⟨_, rfl⟩
  have hL4 : LR n S4 I23 := by rw [e23, eS4]; exact LR_fld hL2 (Or.inr (Or.inl ⟨rfl, rfl⟩)) (fun h => absurd h (by decide))
  refine mw_aload i_95_227 (L := QW) rfl ?_
  refine mw_aload i_95_228 (L := QV) rfl ?_
  refine mw_iload i_95_229 (x := nI wi) rfl ?_
  refine mw_callS i_95_230 mf_94 (as := [pR (some QW), pR (some QV), pI (nI wi)]) (rest := []) (d' := d9) (b' := b) (ls0 := [some (pR (some QW)), some (pR (some QV)), some (pI (nI wi)), none, none, none]) rfl rfl rfl (Nat.le_of_ble_eq_true rfl) rfl rfl rfl ?_
  refine b_turn hQ hL4 (by omega) ?_
  intro I35 hF5 hL5
  refine aft_n ?_
  refine mw_aload i_95_231 (L := QW) rfl ?_
  refine mw_aload i_95_232 (L := QV) rfl ?_
  refine mw_iload i_95_233 (x := nI lo) rfl ?_
  refine mw_callS i_95_234 mf_94 (as := [pR (some QW), pR (some QV), pI (nI lo)]) (rest := []) (d' := d9) (b' := b) (ls0 := [some (pR (some QW)), some (pR (some QV)), some (pI (nI lo)), none, none, none]) rfl rfl rfl (Nat.le_of_ble_eq_true rfl) rfl rfl rfl ?_
  refine b_turn hQ hL5 (by omega) ?_
  intro I36 hF6 hL6
  refine aft_n ?_
  refine mw_aload i_95_235 (L := QM) rfl ?_
  refine mw_const i_95_236 (v := nI 14) (by decide) ?_
  refine mw_iload i_95_237 (x := nI t) rfl ?_
  refine mw_iadd i_95_238 (w := nI (14 + t)) (nI_add _ _) ?_
  refine mw_dup2 i_95_239 trivial trivial ?_
  refine mw_iald i_95_240 (jn := 14 + t) (n := 18) (by omega) (by omega) hQ.2.2.2.2.2 (by decide) (v := (trS (trS S4 wi) lo) 23 t) (hL6.2.2.2.2.2.2.2.2.1 t (by omega)) ?_
  refine mw_iload i_95_241 (x := g) rfl ?_
  refine mw_iadd i_95_242 (w := (((trS (trS S4 wi) lo) 23 t) + g)) rfl ?_
  obtain ⟨I27, e27⟩ : ∃ I27, I27 = up2 I36 QM (14 + t) (((trS (trS S4 wi) lo) 23 t) + g) := ⟨_, rfl⟩
  refine mw_iast i_95_243 (jn := 14 + t) (n := 18) (by omega) (by omega) (x := (((trS (trS S4 wi) lo) 23 t) + g)) hQ.2.2.2.2.2 (I' := I27) e27.symm ?_
  have hLz : LR n (adS (trS (trS S4 wi) lo) 23 t g) I27 := by rw [e27]; exact LR_gt hL6
  refine mw_iload i_95_244 (x := g) rfl ?_
  refine mw_iretI i_95_245 (x := g) rt_95 ?_
  exact q _ (show FrQ I I27 from by rw [e27]; exact FrQ_up (FrQ_tr (FrQ_tr (show FrQ I I23 from by rw [e23]; exact FrQ_up (show FrQ I I21 from by rw [e21]; exact FrQ_up FrQ_rfl rfl) rfl) hF5) hF6) rfl) (by have := hLz; rw [eS4] at this; rw [eS2] at this;  exact this)
theorem neg_ch {x : Int32} (h : x = (-1) ∨ ∃ w, w < 7 ∧ x = nI w) (hn : x < nI 0) : x = (-1) := by
  rcases h with h | ⟨w, hw, h⟩
  · exact h
  · rw [h, nI_ltI (by omega) (by decide)] at hn
    exact absurd hn (Nat.not_lt_zero _)
theorem chw {x : Int32} {f s wi lo : Nat} (h : x = (-1) ∨ x = nI lo) (hfs : (wi = f ∧ lo = s) ∨ (wi = s ∧ lo = f)) : x = (-1) ∨ x = nI f ∨ x = nI s := by
  rcases h with h | h
  · exact Or.inl h
  · rcases hfs with ⟨-, rfl⟩ | ⟨-, rfl⟩
    · exact Or.inr (Or.inr h)
    · exact Or.inr (Or.inl h)
theorem chn {x : Int32} {f s wi lo : Nat} (h : x = (-1) ∨ x = nI f ∨ x = nI s) (hfs : (wi = f ∧ lo = s) ∨ (wi = s ∧ lo = f)) (h1 : ¬ x = nI wi) (h2 : ¬ x = (-1)) (h3 : ¬ x = nI lo) : False := by
  rcases h with h | h | h
  · exact h2 h
  · rcases hfs with ⟨rfl, rfl⟩ | ⟨rfl, rfl⟩
    · exact h1 h
    · exact h3 h
  · rcases hfs with ⟨rfl, rfl⟩ | ⟨rfl, rfl⟩
    · exact h3 h
    · exact h1 h
set_option maxRecDepth 20000 in
set_option maxHeartbeats 400000 in
theorem c_played1 {d b : Nat} {K : KM} {I : IM} {R : RM} {Q : QT} {n t wi lo a0 f s : Nat} {τ : ST} {ti g : Int32} {u2 u5 u11 u12 u13 : Option PV} (hd : 3 ≤ d) (hQ : KQ K) (hL : LR n τ I) (hw7 : wi < 7) (hl7 : lo < 7) (ht : t < 4) (hwl : wi ≠ lo) (hti : ti = (-1) ∨ ∃ tt, tt < 2 ∧ ti = nI tt) (ha : a0 + 5 < 54) (hk4 : I QK (a0 + 4) = ti + nI 1) (hfs : (wi = f ∧ lo = s) ∨ (wi = s ∧ lo = f)) (hln : ∀ t, t < 2 → τ 17 t = nI (lnO τ t) ∧ lnO τ t ≤ 1000)  (q : ∀ I' u11 u12 u13, FrQ I I' → LR n (hndI τ ti (nI f) (nI s) (nI wi)) I' → Mw d b N_L_played 197 [some (pR (some QW)), some (pR (some QV)), u2, some (pR (some QK)), some (pR (some QM)), u5, some (pI (nI a0)), some (pI (nI t)), some (pI (nI wi)), some (pI (nI lo)), some (pI g), u11, u12, u13] [] K I' R Q) : Mw d b N_L_played 163 [some (pR (some QW)), some (pR (some QV)), u2, some (pR (some QK)), some (pR (some QM)), u5, some (pI (nI a0)), some (pI (nI t)), some (pI (nI wi)), some (pI (nI lo)), some (pI g), u11, u12, u13] [] K I R Q := by
  obtain ⟨d9, rfl⟩ : ∃ d9, d = d9 + 1 := ⟨d - 1, by omega⟩
  rcases hti with rfl | ⟨tt, htt, rfl⟩
  · skip
    refine mw_aload i_95_163 (L := QK) rfl ?_
    refine mw_iload i_95_164 (x := nI a0) rfl ?_
    refine mw_const i_95_165 (v := nI 4) (by decide) ?_
    refine mw_iadd i_95_166 (w := nI (a0 + 4)) (nI_add _ _) ?_
    refine mw_iald i_95_167 (jn := a0 + 4) (n := 54) (by omega) (by omega) hQ.2.2.2.2.1 (by decide) (v := ((-1) + nI 1)) hk4 ?_
    refine mw_const i_95_168 (v := nI 1) (by decide) ?_
    refine mw_isub i_95_169 (w := (-1)) (Int32.add_sub_cancel _ _) ?_
    refine mw_istore i_95_170 (ls' := [some (pR (some QW)), some (pR (some QV)), u2, some (pR (some QK)), some (pR (some QM)), u5, some (pI (nI a0)), some (pI (nI t)), some (pI (nI wi)), some (pI (nI lo)), some (pI g), u11, some (pI (-1)), u13]) rfl (Nat.le_of_ble_eq_true rfl) ?_
    refine mw_iload i_95_171 (x := (-1)) rfl ?_
    refine mw_ifF i_95_172 (show ¬ nI 0 ≤ ((-1) : Int32) by decide) ?_
    refine mw_const i_95_173 (v := (-1)) (by decide) ?_
    refine mw_goto i_95_174 ?_
    refine mw_istore i_95_182 (ls' := [some (pR (some QW)), some (pR (some QV)), u2, some (pR (some QK)), some (pR (some QM)), u5, some (pI (nI a0)), some (pI (nI t)), some (pI (nI wi)), some (pI (nI lo)), some (pI g), u11, some (pI (-1)), some (pI (-1))]) rfl (Nat.le_of_ble_eq_true rfl) ?_
    refine mw_iload i_95_183 (x := (-1)) rfl ?_
    refine mw_ifT i_95_184 (show ((-1) : Int32) < nI 0 by decide) ?_
    exact q I _ _ _ FrQ_rfl (by rw [show hndI τ (-1) (nI f) (nI s) (nI wi) = τ from by unfold hndI; rw [if_pos rfl]]; exact hL)
  · skip
    have hne : ¬ nI tt = (-1) := fun e => by have := congrArg Int32.toInt e; rw [nI_toInt (by omega)] at this; revert this; show ¬ ((tt : Int) = -1); omega
    have hcl : (nI tt).toNatClampNeg = tt := nI_clamp (by omega)
    have hch := (hL.2.2.2.2.2.2.2.1 tt htt).2.2
    refine mw_aload i_95_163 (L := QK) rfl ?_
    refine mw_iload i_95_164 (x := nI a0) rfl ?_
    refine mw_const i_95_165 (v := nI 4) (by decide) ?_
    refine mw_iadd i_95_166 (w := nI (a0 + 4)) (nI_add _ _) ?_
    refine mw_iald i_95_167 (jn := a0 + 4) (n := 54) (by omega) (by omega) hQ.2.2.2.2.1 (by decide) (v := (nI tt + nI 1)) hk4 ?_
    refine mw_const i_95_168 (v := nI 1) (by decide) ?_
    refine mw_isub i_95_169 (w := nI tt) (Int32.add_sub_cancel _ _) ?_
    refine mw_istore i_95_170 (ls' := [some (pR (some QW)), some (pR (some QV)), u2, some (pR (some QK)), some (pR (some QM)), u5, some (pI (nI a0)), some (pI (nI t)), some (pI (nI wi)), some (pI (nI lo)), some (pI g), u11, some (pI (nI tt)), u13]) rfl (Nat.le_of_ble_eq_true rfl) ?_
    refine mw_iload i_95_171 (x := nI tt) rfl ?_
    refine mw_ifT i_95_172 (nI_le (Nat.zero_le _) (by omega)) ?_
    refine mw_aload i_95_175 (L := QM) rfl ?_
    refine mw_const i_95_176 (v := nI 10) (by decide) ?_
    refine mw_iload i_95_177 (x := nI tt) rfl ?_
    refine mw_iadd i_95_178 (w := nI (10 + tt)) (nI_add _ _) ?_
    refine mw_iald i_95_179 (jn := 10 + tt) (n := 18) (by omega) (by omega) hQ.2.2.2.2.2 (by decide) (v := (chO τ tt + nI 1)) (hL.2.2.2.2.2.2.2.1 tt (by omega)).1 ?_
    refine mw_const i_95_180 (v := nI 1) (by decide) ?_
    refine mw_isub i_95_181 (w := chO τ tt) (Int32.add_sub_cancel _ _) ?_
    refine mw_istore i_95_182 (ls' := [some (pR (some QW)), some (pR (some QV)), u2, some (pR (some QK)), some (pR (some QM)), u5, some (pI (nI a0)), some (pI (nI t)), some (pI (nI wi)), some (pI (nI lo)), some (pI g), u11, some (pI (nI tt)), some (pI (chO τ tt))]) rfl (Nat.le_of_ble_eq_true rfl) ?_
    refine mw_iload i_95_183 (x := nI tt) rfl ?_
    refine mw_ifF i_95_184 (Int32.not_lt.mpr (nI_le (Nat.zero_le _) (by omega))) ?_
    refine mw_iload i_95_185 (x := chO τ tt) rfl ?_
    refine mw_iload i_95_186 (x := nI wi) rfl ?_
    refine mw_ic i_95_187 (p := (chO τ tt) = (nI wi)) Iff.rfl (fun c1 => ?_) (fun c1 => ?_)
    · skip
      exact q I _ _ _ FrQ_rfl (by rw [show hndI τ (nI tt) (nI f) (nI s) (nI wi) = τ from by unfold hndI hnd; rw [if_neg hne, hcl, if_neg (fun h => h.2 c1)]]; exact hL)
    · skip
      refine mw_iload i_95_188 (x := chO τ tt) rfl ?_
      refine mw_if i_95_189 (p := (chO τ tt) < nI 0) Iff.rfl (fun c2 => ?_) (fun c2 => ?_)
      · skip
        refine mw_aload i_95_193 (L := QM) rfl ?_
        refine mw_iload i_95_194 (x := nI tt) rfl ?_
        refine mw_iload i_95_195 (x := nI wi) rfl ?_
        refine mw_callS i_95_196 mf_84 (as := [pR (some QM), pI (nI tt), pI (nI wi)]) (rest := []) (d' := d9) (b' := b) (ls0 := [some (pR (some QM)), some (pI (nI tt)), some (pI (nI wi))]) rfl rfl rfl (Nat.le_of_ble_eq_true rfl) rfl rfl rfl ?_
        refine b_crown (l := lnO τ tt) (y := τ 0 0) hQ hL (by omega) (by have := (hln tt htt).2; omega) (hln tt htt).1 (fun t ht => by have := (hln t ht).2; unfold lnO at this; omega) (Or.inr ⟨wi, hw7, rfl⟩) ?_
        intro I9 hF9 hL9
        refine aft_n ?_
        exact q I9 _ _ _ (FrQ_tr FrQ_rfl hF9) (by rw [show hndI τ (nI tt) (nI f) (nI s) (nI wi) = crn τ tt (lnO τ tt) (nI wi) (τ 0 0) from by unfold hndI hnd; rw [if_neg hne, hcl, if_pos ⟨chw (Or.inl (neg_ch hch c2)) hfs, c1⟩]]; exact hL9)
      · skip
        refine mw_iload i_95_190 (x := chO τ tt) rfl ?_
        refine mw_iload i_95_191 (x := nI lo) rfl ?_
        refine mw_ic i_95_192 (p := ¬ (chO τ tt) = (nI lo)) Iff.rfl (fun c3 => ?_) (fun c3 => ?_)
        · skip
          exact q I _ _ _ FrQ_rfl (by rw [show hndI τ (nI tt) (nI f) (nI s) (nI wi) = τ from by unfold hndI hnd; rw [if_neg hne, hcl, if_neg (fun h => chn h.1 hfs c1 (fun e => c2 (by rw [e]; decide)) c3)]]; exact hL)
        · skip
          refine mw_aload i_95_193 (L := QM) rfl ?_
          refine mw_iload i_95_194 (x := nI tt) rfl ?_
          refine mw_iload i_95_195 (x := nI wi) rfl ?_
          refine mw_callS i_95_196 mf_84 (as := [pR (some QM), pI (nI tt), pI (nI wi)]) (rest := []) (d' := d9) (b' := b) (ls0 := [some (pR (some QM)), some (pI (nI tt)), some (pI (nI wi))]) rfl rfl rfl (Nat.le_of_ble_eq_true rfl) rfl rfl rfl ?_
          refine b_crown (l := lnO τ tt) (y := τ 0 0) hQ hL (by omega) (by have := (hln tt htt).2; omega) (hln tt htt).1 (fun t ht => by have := (hln t ht).2; unfold lnO at this; omega) (Or.inr ⟨wi, hw7, rfl⟩) ?_
          intro I9 hF9 hL9
          refine aft_n ?_
          exact q I9 _ _ _ (FrQ_tr FrQ_rfl hF9) (by rw [show hndI τ (nI tt) (nI f) (nI s) (nI wi) = crn τ tt (lnO τ tt) (nI wi) (τ 0 0) from by unfold hndI hnd; rw [if_neg hne, hcl, if_pos ⟨chw (Or.inr (Classical.not_not.mp c3)) hfs, c1⟩]]; exact hL9)
theorem LR_k {n : Nat} {S τ : ST} {I : IM} (h : LR n S I) (e19 : S 19 = τ 19) (e20 : S 20 = τ 20) (e0 : S 0 = τ 0) {j : Nat} (hj : j < mn τ (dn τ)) : LKj τ (I QK) (dn τ) j := by
  have h1 := (LR_card h (x := dn τ) (by rw [dn_eq e0]; exact Nat.le_refl _) (by rw [dn_eq e0]; omega)).2.2.2.2 j (by rw [mn_eq e20]; exact hj)
  unfold LKj at *
  rw [e19] at h1
  exact h1
theorem al_win {τ : ST} {t wi lo : Nat} : lov (lov (win0 τ wi lo) t wi (if τ 3 wi = τ 3 lo then nI 3 else if τ 3 wi = nI 0 then nI 6 else (-6))) t lo (if τ 3 wi = τ 3 lo then (-1) else if τ 3 lo = nI 0 then nI 2 else (-2)) = win τ t wi lo := by
  unfold win
  by_cases h : τ 3 wi = τ 3 lo
  · rw [if_pos h, if_pos h, if_pos h]
  · rw [if_neg h, if_neg h, if_neg h]
set_option maxRecDepth 20000 in
set_option maxHeartbeats 1000000 in
theorem c_played {d b : Nat} {K : KM} {I : IM} {R : RM} {Q : QT} {n t wi lo j f s : Nat} {τ : ST} {m ti re : Int32} (hd : 4 ≤ d) (hQ : KQ K) (hL : LR n τ I) (hj3 : j < 3) (hjm : j < mn τ (dn τ)) (hdd : dn τ ≤ 999) (h00 : τ 0 0 = nI (dn τ)) (hf : τ 19 (36 * dn τ + 6 * j) = nI f) (hs : τ 19 (36 * dn τ + 6 * j + 1) = nI s) (hf7 : f < 7) (hs7 : s < 7) (hfs : f ≠ s) (hw : (τ 19 (36 * dn τ + 6 * j + 2) = nI 0 ∧ wi = f ∧ lo = s) ∨ (τ 19 (36 * dn τ + 6 * j + 2) = nI 1 ∧ wi = s ∧ lo = f)) (h3 : τ 19 (36 * dn τ + 6 * j + 3) = m) (h4 : τ 19 (36 * dn τ + 6 * j + 4) = ti) (h5 : τ 19 (36 * dn τ + 6 * j + 5) = re) (hre : re = nI 0 ∨ re = nI 1) (hti : ti = (-1) ∨ ∃ tt, tt < 2 ∧ ti = nI tt) (ht : t < 4) (htw : I QM (4 + dn τ % 3) = nI t) (hln : ∀ t, t < 2 → τ 17 t = nI (lnO τ t) ∧ lnO τ t ≤ 1000)  (q : ∀ I', FrQ I I' → LR n (pmS (adS τ 23 t (wrt τ t f + wrt τ t s)) t f s wi lo m ti re) I' → Q (.inl (some (pI (wrt τ t f + wrt τ t s)))) K I' R) : Mw d b N_L_played 0 [some (pR (some QW)), some (pR (some QV)), some (pR (some QB)), some (pR (some QK)), some (pR (some QM)), some (pI (nI j)), none, none, none, none, none, none, none, none] [] K I R Q := by
  obtain ⟨d9, rfl⟩ : ∃ d9, d = d9 + 1 := ⟨d - 1, by omega⟩
  have hk := LR_k hL (τ := τ) rfl rfl rfl hjm
  have hwl2 : (wi = f ∧ lo = s) ∨ (wi = s ∧ lo = f) := hw.elim (fun h => Or.inl h.2) (fun h => Or.inr h.2)
  have hwi7 : wi < 7 ∧ lo < 7 ∧ wi ≠ lo := by omega
  rcases hw with ⟨hw9, ew, el⟩ | ⟨hw9, ew, el⟩
  · skip
    refine mw_aload i_95_0 (L := QM) rfl ?_
    refine mw_aload i_95_1 (L := QM) rfl ?_
    refine mw_const i_95_2 (v := nI 0) (by decide) ?_
    refine mw_iald i_95_3 (jn := 0) (n := 18) (by omega) (by omega) hQ.2.2.2.2.2 (by decide) (v := nI (dn τ)) (hL.2.2.2.2.1.trans h00) ?_
    refine mw_callS i_95_4 mf_78 (as := [pR (some QM), pI (nI (dn τ))]) (rest := []) (d' := d9) (b' := b) (ls0 := [some (pR (some QM)), some (pI (nI (dn τ)))]) rfl rfl rfl (Nat.le_of_ble_eq_true rfl) rfl rfl rfl ?_
    refine a_slot (by omega) ?_
    refine aft_v ?_
    refine mw_const i_95_5 (v := nI 6) (by decide) ?_
    refine mw_iload i_95_6 (x := nI j) rfl ?_
    refine mw_imul i_95_7 (w := nI (6 * j)) (pk_mul _ _) ?_
    refine mw_iadd i_95_8 (w := nI (18 * ((dn τ) % 3) + (6 * j))) (nI_add _ _) ?_
    refine mw_istore i_95_9 (ls' := [some (pR (some QW)), some (pR (some QV)), some (pR (some QB)), some (pR (some QK)), some (pR (some QM)), some (pI (nI j)), some (pI (nI (18 * ((dn τ) % 3) + (6 * j)))), none, none, none, none, none, none, none]) rfl (Nat.le_of_ble_eq_true rfl) ?_
    refine mw_aload i_95_10 (L := QM) rfl ?_
    refine mw_const i_95_11 (v := nI 4) (by decide) ?_
    refine mw_aload i_95_12 (L := QM) rfl ?_
    refine mw_const i_95_13 (v := nI 0) (by decide) ?_
    refine mw_iald i_95_14 (jn := 0) (n := 18) (by omega) (by omega) hQ.2.2.2.2.2 (by decide) (v := nI (dn τ)) (hL.2.2.2.2.1.trans h00) ?_
    refine mw_const i_95_15 (v := nI 3) (by decide) ?_
    refine mw_irem i_95_16 (by decide) (w := nI ((dn τ) % 3)) (pk_rem (by omega) (by omega) (by omega)) ?_
    refine mw_iadd i_95_17 (w := nI (4 + ((dn τ) % 3))) (nI_add _ _) ?_
    refine mw_iald i_95_18 (jn := 4 + ((dn τ) % 3)) (n := 18) (by omega) (by omega) hQ.2.2.2.2.2 (by decide) (v := nI t) htw ?_
    refine mw_istore i_95_19 (ls' := [some (pR (some QW)), some (pR (some QV)), some (pR (some QB)), some (pR (some QK)), some (pR (some QM)), some (pI (nI j)), some (pI (nI (18 * ((dn τ) % 3) + (6 * j)))), some (pI (nI t)), none, none, none, none, none, none]) rfl (Nat.le_of_ble_eq_true rfl) ?_
    refine mw_aload i_95_20 (L := QK) rfl ?_
    refine mw_iload i_95_21 (x := nI (18 * ((dn τ) % 3) + (6 * j))) rfl ?_
    refine mw_aload i_95_22 (L := QK) rfl ?_
    refine mw_iload i_95_23 (x := nI (18 * ((dn τ) % 3) + (6 * j))) rfl ?_
    refine mw_const i_95_24 (v := nI 2) (by decide) ?_
    refine mw_iadd i_95_25 (w := nI (18 * ((dn τ) % 3) + (6 * j) + 2)) (nI_add _ _) ?_
    refine mw_iald i_95_26 (jn := 18 * ((dn τ) % 3) + (6 * j) + 2) (n := 54) (by omega) (by omega) hQ.2.2.2.2.1 (by decide) (v := nI 0) (hk.2.2.1.trans hw9) ?_
    refine mw_iadd i_95_27 (w := nI (18 * ((dn τ) % 3) + (6 * j))) (nI_add _ _) ?_
    refine mw_iald i_95_28 (jn := 18 * ((dn τ) % 3) + (6 * j)) (n := 54) (by omega) (by omega) hQ.2.2.2.2.1 (by decide) (v := nI wi) (hk.1.trans (hf.trans (by rw [ew]))) ?_
    refine mw_istore i_95_29 (ls' := [some (pR (some QW)), some (pR (some QV)), some (pR (some QB)), some (pR (some QK)), some (pR (some QM)), some (pI (nI j)), some (pI (nI (18 * ((dn τ) % 3) + (6 * j)))), some (pI (nI t)), some (pI (nI wi)), none, none, none, none, none]) rfl (Nat.le_of_ble_eq_true rfl) ?_
    refine mw_aload i_95_30 (L := QK) rfl ?_
    refine mw_iload i_95_31 (x := nI (18 * ((dn τ) % 3) + (6 * j))) rfl ?_
    refine mw_const i_95_32 (v := nI 1) (by decide) ?_
    refine mw_iadd i_95_33 (w := nI (18 * ((dn τ) % 3) + (6 * j) + 1)) (nI_add _ _) ?_
    refine mw_aload i_95_34 (L := QK) rfl ?_
    refine mw_iload i_95_35 (x := nI (18 * ((dn τ) % 3) + (6 * j))) rfl ?_
    refine mw_const i_95_36 (v := nI 2) (by decide) ?_
    refine mw_iadd i_95_37 (w := nI (18 * ((dn τ) % 3) + (6 * j) + 2)) (nI_add _ _) ?_
    refine mw_iald i_95_38 (jn := 18 * ((dn τ) % 3) + (6 * j) + 2) (n := 54) (by omega) (by omega) hQ.2.2.2.2.1 (by decide) (v := nI 0) (hk.2.2.1.trans hw9) ?_
    refine mw_isub i_95_39 (w := nI (18 * ((dn τ) % 3) + (6 * j) + 1)) (pk_sub (Nat.zero_le _)) ?_
    refine mw_iald i_95_40 (jn := 18 * ((dn τ) % 3) + (6 * j) + 1) (n := 54) (by omega) (by omega) hQ.2.2.2.2.1 (by decide) (v := nI lo) (hk.2.1.trans (hs.trans (by rw [el]))) ?_
    refine mw_istore i_95_41 (ls' := [some (pR (some QW)), some (pR (some QV)), some (pR (some QB)), some (pR (some QK)), some (pR (some QM)), some (pI (nI j)), some (pI (nI (18 * ((dn τ) % 3) + (6 * j)))), some (pI (nI t)), some (pI (nI wi)), some (pI (nI lo)), none, none, none, none]) rfl (Nat.le_of_ble_eq_true rfl) ?_
    refine mw_aload i_95_42 (L := QW) rfl ?_
    refine mw_aload i_95_43 (L := QV) rfl ?_
    refine mw_iload i_95_44 (x := nI t) rfl ?_
    refine mw_iload i_95_45 (x := nI wi) rfl ?_
    refine mw_callS i_95_46 mf_81 (as := [pR (some QW), pR (some QV), pI (nI t), pI (nI wi)]) (rest := []) (d' := d9) (b' := b) (ls0 := [some (pR (some QW)), some (pR (some QV)), some (pI (nI t)), some (pI (nI wi)), none, none]) rfl rfl rfl (Nat.le_of_ble_eq_true rfl) rfl rfl rfl ?_
    refine b_worth hQ hL (by omega) (by omega) ?_
    refine aft_v ?_
    refine mw_aload i_95_47 (L := QW) rfl ?_
    refine mw_aload i_95_48 (L := QV) rfl ?_
    refine mw_iload i_95_49 (x := nI t) rfl ?_
    refine mw_iload i_95_50 (x := nI lo) rfl ?_
    refine mw_callS i_95_51 mf_81 (as := [pR (some QW), pR (some QV), pI (nI t), pI (nI lo)]) (rest := [pI (wrt τ t wi)]) (d' := d9) (b' := b) (ls0 := [some (pR (some QW)), some (pR (some QV)), some (pI (nI t)), some (pI (nI lo)), none, none]) rfl rfl rfl (Nat.le_of_ble_eq_true rfl) rfl rfl rfl ?_
    refine b_worth hQ hL (by omega) (by omega) ?_
    refine aft_v ?_
    refine mw_iadd i_95_52 (w := (wrt τ t f + wrt τ t s)) (by rw [ew, el]) ?_
    refine mw_istore i_95_53 (ls' := [some (pR (some QW)), some (pR (some QV)), some (pR (some QB)), some (pR (some QK)), some (pR (some QM)), some (pI (nI j)), some (pI (nI (18 * ((dn τ) % 3) + (6 * j)))), some (pI (nI t)), some (pI (nI wi)), some (pI (nI lo)), some (pI (wrt τ t f + wrt τ t s)), none, none, none]) rfl (Nat.le_of_ble_eq_true rfl) ?_
    have J1 : Mw (d9 + 1) b 95 72 [some (pR (some QW)), some (pR (some QV)), some (pR (some QB)), some (pR (some QK)), some (pR (some QM)), some (pI (nI j)), some (pI (nI (18 * ((dn τ) % 3) + (6 * j)))), some (pI (nI t)), some (pI (nI wi)), some (pI (nI lo)), some (pI (wrt τ t f + wrt τ t s)), none, none, none] [pI (bI (τ 3 wi = τ 3 lo))] K I R Q := by
      refine mw_istore i_95_72 (ls' := [some (pR (some QW)), some (pR (some QV)), some (pR (some QB)), some (pR (some QK)), some (pR (some QM)), some (pI (nI j)), some (pI (nI (18 * ((dn τ) % 3) + (6 * j)))), some (pI (nI t)), some (pI (nI wi)), some (pI (nI lo)), some (pI (wrt τ t f + wrt τ t s)), some (pI (bI (τ 3 wi = τ 3 lo))), none, none]) rfl (Nat.le_of_ble_eq_true rfl) ?_
      refine mw_aload i_95_73 (L := QK) rfl ?_
      refine mw_iload i_95_74 (x := nI (18 * ((dn τ) % 3) + (6 * j))) rfl ?_
      refine mw_const i_95_75 (v := nI 5) (by decide) ?_
      refine mw_iadd i_95_76 (w := nI (18 * ((dn τ) % 3) + (6 * j) + 5)) (nI_add _ _) ?_
      refine mw_iald i_95_77 (jn := 18 * ((dn τ) % 3) + (6 * j) + 5) (n := 54) (by omega) (by omega) hQ.2.2.2.2.1 (by decide) (v := re) (hk.2.2.2.2.2.trans h5) ?_
      refine mw_const i_95_78 (v := nI 1) (by decide) ?_
      refine mw_ic i_95_79 (p := ¬ re = (nI 1)) Iff.rfl (fun c2 => ?_) (fun c2 => ?_)
      · skip
        refine mw_aload i_95_103 (L := QB) rfl ?_
        refine mw_const i_95_104 (v := nI 7) (by decide) ?_
        refine mw_iload i_95_105 (x := nI wi) rfl ?_
        refine mw_imul i_95_106 (w := nI (7 * wi)) (pk_mul _ _) ?_
        refine mw_iload i_95_107 (x := nI lo) rfl ?_
        refine mw_iadd i_95_108 (w := nI (7 * wi + lo)) (nI_add _ _) ?_
        refine mw_dup2 i_95_109 trivial trivial ?_
        refine mw_iald i_95_110 (jn := 7 * wi + lo) (n := 49) (by omega) (by omega) hQ.2.2.2.1 (by decide) (v := τ 13 (10 * wi + lo)) (hL.2.2.2.1 wi (by omega) lo (by omega)) ?_
        refine mw_const i_95_111 (v := nI 1) (by decide) ?_
        refine mw_iadd i_95_112 (w := ((τ 13 (10 * wi + lo)) + (nI 1))) rfl ?_
        obtain ⟨I23, e23⟩ : ∃ I23, I23 = up2 I QB (7 * wi + lo) ((τ 13 (10 * wi + lo)) + (nI 1)) := ⟨_, rfl⟩
        refine mw_iast i_95_113 (jn := 7 * wi + lo) (n := 49) (by omega) (by omega) (x := ((τ 13 (10 * wi + lo)) + (nI 1))) hQ.2.2.2.1 (I' := I23) e23.symm ?_
        obtain ⟨S4, eS4⟩ : ∃ S4, S4 = ups τ 13 (10 * wi + lo) (τ 13 (10 * wi + lo) + nI 1) := ⟨_, rfl⟩
        have hL4 : LR n S4 I23 := by rw [e23, eS4]; exact LR_bt hL (by omega)
        refine mw_aload i_95_114 (L := QW) rfl ?_
        refine mw_const i_95_115 (v := nI 9) (by decide) ?_
        refine mw_iload i_95_116 (x := nI lo) rfl ?_
        refine mw_imul i_95_117 (w := nI (9 * lo)) (pk_mul _ _) ?_
        refine mw_const i_95_118 (v := nI 6) (by decide) ?_
        refine mw_iadd i_95_119 (w := nI (9 * lo + 6)) (nI_add _ _) ?_
        refine mw_dup2 i_95_120 trivial trivial ?_
        refine mw_iald i_95_121 (jn := 9 * lo + 6) (n := 63) (by omega) (by omega) hQ.1 (by decide) (v := τ 8 lo) ((hL4.1 lo (by omega)).2.2.2.2.2.2.1.trans (by rw [eS4, ups_ne (by decide)])) ?_
        refine mw_const i_95_122 (v := nI 1) (by decide) ?_
        refine mw_iadd i_95_123 (w := ((τ 8 lo) + (nI 1))) rfl ?_
        obtain ⟨I25, e25⟩ : ∃ I25, I25 = up2 I23 QW (9 * lo + 6) ((τ 8 lo) + (nI 1)) := ⟨_, rfl⟩
        refine mw_iast i_95_124 (jn := 9 * lo + 6) (n := 63) (by omega) (by omega) (x := ((τ 8 lo) + (nI 1))) hQ.1 (I' := I25) e25.symm ?_
        obtain ⟨S6, eS6⟩ : ∃ S6, S6 = ups S4 8 lo (τ 8 lo + nI 1) := ⟨_, rfl⟩
        have hL6 : LR n S6 I25 := by rw [e25, eS6]; exact LR_fld hL4 (Or.inr (Or.inr (Or.inr (Or.inl ⟨rfl, rfl⟩)))) (fun h => absurd h (by decide))
        refine mw_aload i_95_125 (L := QV) rfl ?_
        refine mw_iload i_95_126 (x := nI t) rfl ?_
        refine mw_iload i_95_127 (x := nI wi) rfl ?_
        have J7 : Mw (d9 + 1) b 95 143 [some (pR (some QW)), some (pR (some QV)), some (pR (some QB)), some (pR (some QK)), some (pR (some QM)), some (pI (nI j)), some (pI (nI (18 * ((dn τ) % 3) + (6 * j)))), some (pI (nI t)), some (pI (nI wi)), some (pI (nI lo)), some (pI (wrt τ t f + wrt τ t s)), some (pI (bI (τ 3 wi = τ 3 lo))), none, none] [pI (if τ 3 wi = τ 3 lo then nI 3 else if τ 3 wi = nI 0 then nI 6 else (-6)), pI (nI wi), pI (nI t), pR (some QV)] K I25 R Q := by
          refine mw_callS i_95_143 mf_93 (as := [pR (some QV), pI (nI t), pI (nI wi), pI (if τ 3 wi = τ 3 lo then nI 3 else if τ 3 wi = nI 0 then nI 6 else (-6))]) (rest := []) (d' := d9) (b' := b) (ls0 := [some (pR (some QV)), some (pI (nI t)), some (pI (nI wi)), some (pI (if τ 3 wi = τ 3 lo then nI 3 else if τ 3 wi = nI 0 then nI 6 else (-6))), none]) rfl rfl rfl (Nat.le_of_ble_eq_true rfl) rfl rfl rfl ?_
          refine b_love hQ hL6 (by omega) (by omega) ?_
          intro I38 hF8 hL8
          refine aft_n ?_
          refine mw_aload i_95_144 (L := QV) rfl ?_
          refine mw_iload i_95_145 (x := nI t) rfl ?_
          refine mw_iload i_95_146 (x := nI lo) rfl ?_
          have J9 : Mw (d9 + 1) b 95 162 [some (pR (some QW)), some (pR (some QV)), some (pR (some QB)), some (pR (some QK)), some (pR (some QM)), some (pI (nI j)), some (pI (nI (18 * ((dn τ) % 3) + (6 * j)))), some (pI (nI t)), some (pI (nI wi)), some (pI (nI lo)), some (pI (wrt τ t f + wrt τ t s)), some (pI (bI (τ 3 wi = τ 3 lo))), none, none] [pI (if τ 3 wi = τ 3 lo then (-1) else if τ 3 lo = nI 0 then nI 2 else (-2)), pI (nI lo), pI (nI t), pR (some QV)] K I38 R Q := by
            refine mw_callS i_95_162 mf_93 (as := [pR (some QV), pI (nI t), pI (nI lo), pI (if τ 3 wi = τ 3 lo then (-1) else if τ 3 lo = nI 0 then nI 2 else (-2))]) (rest := []) (d' := d9) (b' := b) (ls0 := [some (pR (some QV)), some (pI (nI t)), some (pI (nI lo)), some (pI (if τ 3 wi = τ 3 lo then (-1) else if τ 3 lo = nI 0 then nI 2 else (-2))), none]) rfl rfl rfl (Nat.le_of_ble_eq_true rfl) rfl rfl rfl ?_
            refine b_love hQ hL8 (by omega) (by omega) ?_
            intro I40 hF10 hL10
            refine aft_n ?_
            have hLw : LR n (win τ t wi lo) I40 := by have := hL10; rw [eS6, eS4] at this; rw [← al_win]; exact this
            have hre0 : re = nI 0 := hre.resolve_right c2
            have wo : ∀ k, k ≠ 4 → k ≠ 8 → k ≠ 13 → win τ t wi lo k = τ k := fun k a b c => win_o a b c
            have hk4 := (LR_k hLw (τ := τ) (wo 19 (by decide) (by decide) (by decide)) (wo 20 (by decide) (by decide) (by decide)) (wo 0 (by decide) (by decide) (by decide)) hjm).2.2.2.2.1.trans (by rw [h4])
            refine c_played1 (τ := win τ t wi lo) (a0 := 18 * (dn τ % 3) + 6 * j) (ti := ti) (by omega) hQ hLw (by omega) (by omega) ht hwi7.2.2 hti (by omega) hk4 hwl2 (fun t9 ht9 => by unfold lnO; rw [wo 17 (by decide) (by decide) (by decide)]; exact hln t9 ht9) (fun I80 u11 u12 u13 hF80 hL80 => ?_)
            have ho : ∀ k, k ≠ 15 → k ≠ 16 → k ≠ 17 → k ≠ 4 → k ≠ 8 → k ≠ 13 → hndI (win τ t wi lo) ti (nI f) (nI s) (nI wi) k = τ k := fun k a b c d e f9 => (hndI_o a b c).trans (wo k d e f9)
            have hk3 := (LR_k hL80 (τ := τ) (ho 19 (by decide) (by decide) (by decide) (by decide) (by decide) (by decide)) (ho 20 (by decide) (by decide) (by decide) (by decide) (by decide) (by decide)) (ho 0 (by decide) (by decide) (by decide) (by decide) (by decide) (by decide)) hjm).2.2.2.1.trans h3
            exact c_played2 (τ := hndI (win τ t wi lo) ti (nI f) (nI s) (nI wi)) (a0 := 18 * (dn τ % 3) + 6 * j) (m := m) (by omega) hQ hL80 (by omega) (by omega) ht hwi7.2.2 (by omega) hk3 (fun I70 hF70 hL70 => q I70 (FrQ_tr (FrQ_tr (FrQ_tr (FrQ_tr (show FrQ I I25 from by rw [e25]; exact FrQ_up (show FrQ I I23 from by rw [e23]; exact FrQ_up FrQ_rfl rfl) rfl) hF8) hF10) hF80) hF70) (by rw [← lw_pm (H := hndI (win τ t wi lo) ti (nI f) (nI s) (nI wi)) hfs hwl2 (by rw [if_pos hre0]) (ho 23 (by decide) (by decide) (by decide) (by decide) (by decide) (by decide))]; exact hL70))
          refine mw_iload i_95_147 (x := bI (τ 3 wi = τ 3 lo)) rfl ?_
          refine mw_eqB i_95_148 rfl (fun c11 => ?_) (fun c11 => ?_)
          · skip
            refine mw_aload i_95_151 (L := QW) rfl ?_
            refine mw_const i_95_152 (v := nI 9) (by decide) ?_
            refine mw_iload i_95_153 (x := nI lo) rfl ?_
            refine mw_imul i_95_154 (w := nI (9 * lo)) (pk_mul _ _) ?_
            refine mw_const i_95_155 (v := nI 2) (by decide) ?_
            refine mw_iadd i_95_156 (w := nI (9 * lo + 2)) (nI_add _ _) ?_
            refine mw_iald i_95_157 (jn := 9 * lo + 2) (n := 63) (by omega) (by omega) hQ.1 (by decide) (v := τ 3 lo) ((hL8.1 lo (by omega)).2.2.1.trans (by unfold lov; rw [ups_ne (by decide)]; rw [eS6, ups_ne (by decide), eS4, ups_ne (by decide)])) ?_
            refine mw_if i_95_158 (p := ¬ (τ 3 lo) = nI 0) Iff.rfl (fun c12 => ?_) (fun c12 => ?_)
            · skip
              refine mw_const i_95_161 (v := (-2)) (by decide) ?_
              exact mw_top (show (-2) = (if τ 3 wi = τ 3 lo then (-1) else if τ 3 lo = nI 0 then nI 2 else (-2)) from by rw [if_neg c11, if_neg c12]) J9
            · skip
              refine mw_const i_95_159 (v := nI 2) (by decide) ?_
              refine mw_goto i_95_160 ?_
              exact mw_top (show nI 2 = (if τ 3 wi = τ 3 lo then (-1) else if τ 3 lo = nI 0 then nI 2 else (-2)) from by rw [if_neg c11, if_pos (Classical.not_not.mp c12)]) J9
          · skip
            refine mw_const i_95_149 (v := (-1)) (by decide) ?_
            refine mw_goto i_95_150 ?_
            exact mw_top (show (-1) = (if τ 3 wi = τ 3 lo then (-1) else if τ 3 lo = nI 0 then nI 2 else (-2)) from (if_pos c11).symm) J9
        refine mw_iload i_95_128 (x := bI (τ 3 wi = τ 3 lo)) rfl ?_
        refine mw_eqB i_95_129 rfl (fun c13 => ?_) (fun c13 => ?_)
        · skip
          refine mw_aload i_95_132 (L := QW) rfl ?_
          refine mw_const i_95_133 (v := nI 9) (by decide) ?_
          refine mw_iload i_95_134 (x := nI wi) rfl ?_
          refine mw_imul i_95_135 (w := nI (9 * wi)) (pk_mul _ _) ?_
          refine mw_const i_95_136 (v := nI 2) (by decide) ?_
          refine mw_iadd i_95_137 (w := nI (9 * wi + 2)) (nI_add _ _) ?_
          refine mw_iald i_95_138 (jn := 9 * wi + 2) (n := 63) (by omega) (by omega) hQ.1 (by decide) (v := τ 3 wi) ((hL6.1 wi (by omega)).2.2.1.trans (by rw [eS6, ups_ne (by decide), eS4, ups_ne (by decide)])) ?_
          refine mw_if i_95_139 (p := ¬ (τ 3 wi) = nI 0) Iff.rfl (fun c14 => ?_) (fun c14 => ?_)
          · skip
            refine mw_const i_95_142 (v := (-6)) (by decide) ?_
            exact mw_top (show (-6) = (if τ 3 wi = τ 3 lo then nI 3 else if τ 3 wi = nI 0 then nI 6 else (-6)) from by rw [if_neg c13, if_neg c14]) J7
          · skip
            refine mw_const i_95_140 (v := nI 6) (by decide) ?_
            refine mw_goto i_95_141 ?_
            exact mw_top (show nI 6 = (if τ 3 wi = τ 3 lo then nI 3 else if τ 3 wi = nI 0 then nI 6 else (-6)) from by rw [if_neg c13, if_pos (Classical.not_not.mp c14)]) J7
        · skip
          refine mw_const i_95_130 (v := nI 3) (by decide) ?_
          refine mw_goto i_95_131 ?_
          exact mw_top (show nI 3 = (if τ 3 wi = τ 3 lo then nI 3 else if τ 3 wi = nI 0 then nI 6 else (-6)) from (if_pos c13).symm) J7
      · skip
        have cr1 : re = nI 1 := Classical.not_not.mp c2
        refine mw_aload i_95_80 (L := QW) rfl ?_
        refine mw_const i_95_81 (v := nI 9) (by decide) ?_
        refine mw_iload i_95_82 (x := nI wi) rfl ?_
        refine mw_imul i_95_83 (w := nI (9 * wi)) (pk_mul _ _) ?_
        refine mw_const i_95_84 (v := nI 7) (by decide) ?_
        refine mw_iadd i_95_85 (w := nI (9 * wi + 7)) (nI_add _ _) ?_
        refine mw_dup2 i_95_86 trivial trivial ?_
        refine mw_iald i_95_87 (jn := 9 * wi + 7) (n := 63) (by omega) (by omega) hQ.1 (by decide) (v := τ 9 wi) (hL.1 wi (by omega)).2.2.2.2.2.2.2.1 ?_
        refine mw_const i_95_88 (v := nI 1) (by decide) ?_
        refine mw_iadd i_95_89 (w := ((τ 9 wi) + (nI 1))) rfl ?_
        obtain ⟨I35, e35⟩ : ∃ I35, I35 = up2 I QW (9 * wi + 7) ((τ 9 wi) + (nI 1)) := ⟨_, rfl⟩
        refine mw_iast i_95_90 (jn := 9 * wi + 7) (n := 63) (by omega) (by omega) (x := ((τ 9 wi) + (nI 1))) hQ.1 (I' := I35) e35.symm ?_
        obtain ⟨S16, eS16⟩ : ∃ S16, S16 = adS τ 9 wi (nI 1) := ⟨_, rfl⟩
        have hL16 : LR n S16 I35 := by rw [e35, eS16]; exact LR_fld hL (Or.inr (Or.inr (Or.inr (Or.inr ⟨rfl, rfl⟩)))) (fun h => absurd h (by decide))
        refine mw_aload i_95_91 (L := QW) rfl ?_
        refine mw_const i_95_92 (v := nI 9) (by decide) ?_
        refine mw_iload i_95_93 (x := nI lo) rfl ?_
        refine mw_imul i_95_94 (w := nI (9 * lo)) (pk_mul _ _) ?_
        refine mw_const i_95_95 (v := nI 7) (by decide) ?_
        refine mw_iadd i_95_96 (w := nI (9 * lo + 7)) (nI_add _ _) ?_
        refine mw_dup2 i_95_97 trivial trivial ?_
        refine mw_iald i_95_98 (jn := 9 * lo + 7) (n := 63) (by omega) (by omega) hQ.1 (by decide) (v := S16 9 lo) (hL16.1 lo (by omega)).2.2.2.2.2.2.2.1 ?_
        refine mw_const i_95_99 (v := nI 1) (by decide) ?_
        refine mw_iadd i_95_100 (w := ((S16 9 lo) + (nI 1))) rfl ?_
        obtain ⟨I37, e37⟩ : ∃ I37, I37 = up2 I35 QW (9 * lo + 7) ((S16 9 lo) + (nI 1)) := ⟨_, rfl⟩
        refine mw_iast i_95_101 (jn := 9 * lo + 7) (n := 63) (by omega) (by omega) (x := ((S16 9 lo) + (nI 1))) hQ.1 (I' := I37) e37.symm ?_
        obtain ⟨S18, eS18⟩ : ∃ S18, S18 = adS S16 9 lo (nI 1) := ⟨_, rfl⟩
        have hL18 : LR n S18 I37 := by rw [e37, eS18]; exact LR_fld hL16 (Or.inr (Or.inr (Or.inr (Or.inr ⟨rfl, rfl⟩)))) (fun h => absurd h (by decide))
        refine mw_goto i_95_102 ?_
        have h01 : ¬ re = nI 0 := fun e => by rw [e] at cr1; exact absurd cr1 (by decide)
        have hk3 := (LR_k hL18 (τ := τ) (by rw [eS18, eS16]; exact (ups_ne (by decide)).trans (ups_ne (by decide))) (by rw [eS18, eS16]; exact (ups_ne (by decide)).trans (ups_ne (by decide))) (by rw [eS18, eS16]; exact (ups_ne (by decide)).trans (ups_ne (by decide))) hjm).2.2.2.1.trans h3
        exact c_played2 (τ := S18) (a0 := 18 * (dn τ % 3) + 6 * j) (m := m) (by omega) hQ hL18 (by omega) (by omega) ht hwi7.2.2 (by omega) hk3 (fun I70 hF70 hL70 => q I70 (FrQ_tr (show FrQ I I37 from by rw [e37]; exact FrQ_up (show FrQ I I35 from by rw [e35]; exact FrQ_up FrQ_rfl rfl) rfl) hF70) (by rw [← lw_pm (H := S18) hfs hwl2 (by rw [if_neg h01, eS18, eS16, ew, el]) (by rw [eS18, eS16]; exact (ups_ne (by decide)).trans (ups_ne (by decide)))]; exact hL70))
    refine mw_aload i_95_54 (L := QW) rfl ?_
    refine mw_const i_95_55 (v := nI 9) (by decide) ?_
    refine mw_iload i_95_56 (x := nI wi) rfl ?_
    refine mw_imul i_95_57 (w := nI (9 * wi)) (pk_mul _ _) ?_
    refine mw_const i_95_58 (v := nI 2) (by decide) ?_
    refine mw_iadd i_95_59 (w := nI (9 * wi + 2)) (nI_add _ _) ?_
    refine mw_iald i_95_60 (jn := 9 * wi + 2) (n := 63) (by omega) (by omega) hQ.1 (by decide) (v := τ 3 wi) (hL.1 wi (by omega)).2.2.1 ?_
    refine mw_aload i_95_61 (L := QW) rfl ?_
    refine mw_const i_95_62 (v := nI 9) (by decide) ?_
    refine mw_iload i_95_63 (x := nI lo) rfl ?_
    refine mw_imul i_95_64 (w := nI (9 * lo)) (pk_mul _ _) ?_
    refine mw_const i_95_65 (v := nI 2) (by decide) ?_
    refine mw_iadd i_95_66 (w := nI (9 * lo + 2)) (nI_add _ _) ?_
    refine mw_iald i_95_67 (jn := 9 * lo + 2) (n := 63) (by omega) (by omega) hQ.1 (by decide) (v := τ 3 lo) (hL.1 lo (by omega)).2.2.1 ?_
    refine mw_ic i_95_68 (p := ¬ (τ 3 wi) = (τ 3 lo)) Iff.rfl (fun c19 => ?_) (fun c19 => ?_)
    · skip
      refine mw_const i_95_71 (v := nI 0) (by decide) ?_
      exact mw_top (show nI 0 = bI (τ 3 wi = τ 3 lo) from (bI_f (c19)).symm) J1
    · skip
      refine mw_const i_95_69 (v := nI 1) (by decide) ?_
      refine mw_goto i_95_70 ?_
      exact mw_top (show nI 1 = bI (τ 3 wi = τ 3 lo) from (bI_t ((Classical.not_not.mp c19))).symm) J1
  · skip
    refine mw_aload i_95_0 (L := QM) rfl ?_
    refine mw_aload i_95_1 (L := QM) rfl ?_
    refine mw_const i_95_2 (v := nI 0) (by decide) ?_
    refine mw_iald i_95_3 (jn := 0) (n := 18) (by omega) (by omega) hQ.2.2.2.2.2 (by decide) (v := nI (dn τ)) (hL.2.2.2.2.1.trans h00) ?_
    refine mw_callS i_95_4 mf_78 (as := [pR (some QM), pI (nI (dn τ))]) (rest := []) (d' := d9) (b' := b) (ls0 := [some (pR (some QM)), some (pI (nI (dn τ)))]) rfl rfl rfl (Nat.le_of_ble_eq_true rfl) rfl rfl rfl ?_
    refine a_slot (by omega) ?_
    refine aft_v ?_
    refine mw_const i_95_5 (v := nI 6) (by decide) ?_
    refine mw_iload i_95_6 (x := nI j) rfl ?_
    refine mw_imul i_95_7 (w := nI (6 * j)) (pk_mul _ _) ?_
    refine mw_iadd i_95_8 (w := nI (18 * ((dn τ) % 3) + (6 * j))) (nI_add _ _) ?_
    refine mw_istore i_95_9 (ls' := [some (pR (some QW)), some (pR (some QV)), some (pR (some QB)), some (pR (some QK)), some (pR (some QM)), some (pI (nI j)), some (pI (nI (18 * ((dn τ) % 3) + (6 * j)))), none, none, none, none, none, none, none]) rfl (Nat.le_of_ble_eq_true rfl) ?_
    refine mw_aload i_95_10 (L := QM) rfl ?_
    refine mw_const i_95_11 (v := nI 4) (by decide) ?_
    refine mw_aload i_95_12 (L := QM) rfl ?_
    refine mw_const i_95_13 (v := nI 0) (by decide) ?_
    refine mw_iald i_95_14 (jn := 0) (n := 18) (by omega) (by omega) hQ.2.2.2.2.2 (by decide) (v := nI (dn τ)) (hL.2.2.2.2.1.trans h00) ?_
    refine mw_const i_95_15 (v := nI 3) (by decide) ?_
    refine mw_irem i_95_16 (by decide) (w := nI ((dn τ) % 3)) (pk_rem (by omega) (by omega) (by omega)) ?_
    refine mw_iadd i_95_17 (w := nI (4 + ((dn τ) % 3))) (nI_add _ _) ?_
    refine mw_iald i_95_18 (jn := 4 + ((dn τ) % 3)) (n := 18) (by omega) (by omega) hQ.2.2.2.2.2 (by decide) (v := nI t) htw ?_
    refine mw_istore i_95_19 (ls' := [some (pR (some QW)), some (pR (some QV)), some (pR (some QB)), some (pR (some QK)), some (pR (some QM)), some (pI (nI j)), some (pI (nI (18 * ((dn τ) % 3) + (6 * j)))), some (pI (nI t)), none, none, none, none, none, none]) rfl (Nat.le_of_ble_eq_true rfl) ?_
    refine mw_aload i_95_20 (L := QK) rfl ?_
    refine mw_iload i_95_21 (x := nI (18 * ((dn τ) % 3) + (6 * j))) rfl ?_
    refine mw_aload i_95_22 (L := QK) rfl ?_
    refine mw_iload i_95_23 (x := nI (18 * ((dn τ) % 3) + (6 * j))) rfl ?_
    refine mw_const i_95_24 (v := nI 2) (by decide) ?_
    refine mw_iadd i_95_25 (w := nI (18 * ((dn τ) % 3) + (6 * j) + 2)) (nI_add _ _) ?_
    refine mw_iald i_95_26 (jn := 18 * ((dn τ) % 3) + (6 * j) + 2) (n := 54) (by omega) (by omega) hQ.2.2.2.2.1 (by decide) (v := nI 1) (hk.2.2.1.trans hw9) ?_
    refine mw_iadd i_95_27 (w := nI (18 * ((dn τ) % 3) + (6 * j) + 1)) (nI_add _ _) ?_
    refine mw_iald i_95_28 (jn := 18 * ((dn τ) % 3) + (6 * j) + 1) (n := 54) (by omega) (by omega) hQ.2.2.2.2.1 (by decide) (v := nI wi) (hk.2.1.trans (hs.trans (by rw [ew]))) ?_
    refine mw_istore i_95_29 (ls' := [some (pR (some QW)), some (pR (some QV)), some (pR (some QB)), some (pR (some QK)), some (pR (some QM)), some (pI (nI j)), some (pI (nI (18 * ((dn τ) % 3) + (6 * j)))), some (pI (nI t)), some (pI (nI wi)), none, none, none, none, none]) rfl (Nat.le_of_ble_eq_true rfl) ?_
    refine mw_aload i_95_30 (L := QK) rfl ?_
    refine mw_iload i_95_31 (x := nI (18 * ((dn τ) % 3) + (6 * j))) rfl ?_
    refine mw_const i_95_32 (v := nI 1) (by decide) ?_
    refine mw_iadd i_95_33 (w := nI (18 * ((dn τ) % 3) + (6 * j) + 1)) (nI_add _ _) ?_
    refine mw_aload i_95_34 (L := QK) rfl ?_
    refine mw_iload i_95_35 (x := nI (18 * ((dn τ) % 3) + (6 * j))) rfl ?_
    refine mw_const i_95_36 (v := nI 2) (by decide) ?_
    refine mw_iadd i_95_37 (w := nI (18 * ((dn τ) % 3) + (6 * j) + 2)) (nI_add _ _) ?_
    refine mw_iald i_95_38 (jn := 18 * ((dn τ) % 3) + (6 * j) + 2) (n := 54) (by omega) (by omega) hQ.2.2.2.2.1 (by decide) (v := nI 1) (hk.2.2.1.trans hw9) ?_
    refine mw_isub i_95_39 (w := nI (18 * ((dn τ) % 3) + (6 * j))) sub1 ?_
    refine mw_iald i_95_40 (jn := 18 * ((dn τ) % 3) + (6 * j)) (n := 54) (by omega) (by omega) hQ.2.2.2.2.1 (by decide) (v := nI lo) (hk.1.trans (hf.trans (by rw [el]))) ?_
    refine mw_istore i_95_41 (ls' := [some (pR (some QW)), some (pR (some QV)), some (pR (some QB)), some (pR (some QK)), some (pR (some QM)), some (pI (nI j)), some (pI (nI (18 * ((dn τ) % 3) + (6 * j)))), some (pI (nI t)), some (pI (nI wi)), some (pI (nI lo)), none, none, none, none]) rfl (Nat.le_of_ble_eq_true rfl) ?_
    refine mw_aload i_95_42 (L := QW) rfl ?_
    refine mw_aload i_95_43 (L := QV) rfl ?_
    refine mw_iload i_95_44 (x := nI t) rfl ?_
    refine mw_iload i_95_45 (x := nI wi) rfl ?_
    refine mw_callS i_95_46 mf_81 (as := [pR (some QW), pR (some QV), pI (nI t), pI (nI wi)]) (rest := []) (d' := d9) (b' := b) (ls0 := [some (pR (some QW)), some (pR (some QV)), some (pI (nI t)), some (pI (nI wi)), none, none]) rfl rfl rfl (Nat.le_of_ble_eq_true rfl) rfl rfl rfl ?_
    refine b_worth hQ hL (by omega) (by omega) ?_
    refine aft_v ?_
    refine mw_aload i_95_47 (L := QW) rfl ?_
    refine mw_aload i_95_48 (L := QV) rfl ?_
    refine mw_iload i_95_49 (x := nI t) rfl ?_
    refine mw_iload i_95_50 (x := nI lo) rfl ?_
    refine mw_callS i_95_51 mf_81 (as := [pR (some QW), pR (some QV), pI (nI t), pI (nI lo)]) (rest := [pI (wrt τ t wi)]) (d' := d9) (b' := b) (ls0 := [some (pR (some QW)), some (pR (some QV)), some (pI (nI t)), some (pI (nI lo)), none, none]) rfl rfl rfl (Nat.le_of_ble_eq_true rfl) rfl rfl rfl ?_
    refine b_worth hQ hL (by omega) (by omega) ?_
    refine aft_v ?_
    refine mw_iadd i_95_52 (w := (wrt τ t f + wrt τ t s)) (by rw [ew, el]; exact Int32.add_comm _ _) ?_
    refine mw_istore i_95_53 (ls' := [some (pR (some QW)), some (pR (some QV)), some (pR (some QB)), some (pR (some QK)), some (pR (some QM)), some (pI (nI j)), some (pI (nI (18 * ((dn τ) % 3) + (6 * j)))), some (pI (nI t)), some (pI (nI wi)), some (pI (nI lo)), some (pI (wrt τ t f + wrt τ t s)), none, none, none]) rfl (Nat.le_of_ble_eq_true rfl) ?_
    have J20 : Mw (d9 + 1) b 95 72 [some (pR (some QW)), some (pR (some QV)), some (pR (some QB)), some (pR (some QK)), some (pR (some QM)), some (pI (nI j)), some (pI (nI (18 * ((dn τ) % 3) + (6 * j)))), some (pI (nI t)), some (pI (nI wi)), some (pI (nI lo)), some (pI (wrt τ t f + wrt τ t s)), none, none, none] [pI (bI (τ 3 wi = τ 3 lo))] K I R Q := by
      refine mw_istore i_95_72 (ls' := [some (pR (some QW)), some (pR (some QV)), some (pR (some QB)), some (pR (some QK)), some (pR (some QM)), some (pI (nI j)), some (pI (nI (18 * ((dn τ) % 3) + (6 * j)))), some (pI (nI t)), some (pI (nI wi)), some (pI (nI lo)), some (pI (wrt τ t f + wrt τ t s)), some (pI (bI (τ 3 wi = τ 3 lo))), none, none]) rfl (Nat.le_of_ble_eq_true rfl) ?_
      refine mw_aload i_95_73 (L := QK) rfl ?_
      refine mw_iload i_95_74 (x := nI (18 * ((dn τ) % 3) + (6 * j))) rfl ?_
      refine mw_const i_95_75 (v := nI 5) (by decide) ?_
      refine mw_iadd i_95_76 (w := nI (18 * ((dn τ) % 3) + (6 * j) + 5)) (nI_add _ _) ?_
      refine mw_iald i_95_77 (jn := 18 * ((dn τ) % 3) + (6 * j) + 5) (n := 54) (by omega) (by omega) hQ.2.2.2.2.1 (by decide) (v := re) (hk.2.2.2.2.2.trans h5) ?_
      refine mw_const i_95_78 (v := nI 1) (by decide) ?_
      refine mw_ic i_95_79 (p := ¬ re = (nI 1)) Iff.rfl (fun c21 => ?_) (fun c21 => ?_)
      · skip
        refine mw_aload i_95_103 (L := QB) rfl ?_
        refine mw_const i_95_104 (v := nI 7) (by decide) ?_
        refine mw_iload i_95_105 (x := nI wi) rfl ?_
        refine mw_imul i_95_106 (w := nI (7 * wi)) (pk_mul _ _) ?_
        refine mw_iload i_95_107 (x := nI lo) rfl ?_
        refine mw_iadd i_95_108 (w := nI (7 * wi + lo)) (nI_add _ _) ?_
        refine mw_dup2 i_95_109 trivial trivial ?_
        refine mw_iald i_95_110 (jn := 7 * wi + lo) (n := 49) (by omega) (by omega) hQ.2.2.2.1 (by decide) (v := τ 13 (10 * wi + lo)) (hL.2.2.2.1 wi (by omega) lo (by omega)) ?_
        refine mw_const i_95_111 (v := nI 1) (by decide) ?_
        refine mw_iadd i_95_112 (w := ((τ 13 (10 * wi + lo)) + (nI 1))) rfl ?_
        obtain ⟨I42, e42⟩ : ∃ I42, I42 = up2 I QB (7 * wi + lo) ((τ 13 (10 * wi + lo)) + (nI 1)) := ⟨_, rfl⟩
        refine mw_iast i_95_113 (jn := 7 * wi + lo) (n := 49) (by omega) (by omega) (x := ((τ 13 (10 * wi + lo)) + (nI 1))) hQ.2.2.2.1 (I' := I42) e42.symm ?_
        obtain ⟨S23, eS23⟩ : ∃ S23, S23 = ups τ 13 (10 * wi + lo) (τ 13 (10 * wi + lo) + nI 1) := ⟨_, rfl⟩
        have hL23 : LR n S23 I42 := by rw [e42, eS23]; exact LR_bt hL (by omega)
        refine mw_aload i_95_114 (L := QW) rfl ?_
        refine mw_const i_95_115 (v := nI 9) (by decide) ?_
        refine mw_iload i_95_116 (x := nI lo) rfl ?_
        refine mw_imul i_95_117 (w := nI (9 * lo)) (pk_mul _ _) ?_
        refine mw_const i_95_118 (v := nI 6) (by decide) ?_
        refine mw_iadd i_95_119 (w := nI (9 * lo + 6)) (nI_add _ _) ?_
        refine mw_dup2 i_95_120 trivial trivial ?_
        refine mw_iald i_95_121 (jn := 9 * lo + 6) (n := 63) (by omega) (by omega) hQ.1 (by decide) (v := τ 8 lo) ((hL23.1 lo (by omega)).2.2.2.2.2.2.1.trans (by rw [eS23, ups_ne (by decide)])) ?_
        refine mw_const i_95_122 (v := nI 1) (by decide) ?_
        refine mw_iadd i_95_123 (w := ((τ 8 lo) + (nI 1))) rfl ?_
        obtain ⟨I44, e44⟩ : ∃ I44, I44 = up2 I42 QW (9 * lo + 6) ((τ 8 lo) + (nI 1)) := ⟨_, rfl⟩
        refine mw_iast i_95_124 (jn := 9 * lo + 6) (n := 63) (by omega) (by omega) (x := ((τ 8 lo) + (nI 1))) hQ.1 (I' := I44) e44.symm ?_
        obtain ⟨S25, eS25⟩ : ∃ S25, S25 = ups S23 8 lo (τ 8 lo + nI 1) := ⟨_, rfl⟩
        have hL25 : LR n S25 I44 := by rw [e44, eS25]; exact LR_fld hL23 (Or.inr (Or.inr (Or.inr (Or.inl ⟨rfl, rfl⟩)))) (fun h => absurd h (by decide))
        refine mw_aload i_95_125 (L := QV) rfl ?_
        refine mw_iload i_95_126 (x := nI t) rfl ?_
        refine mw_iload i_95_127 (x := nI wi) rfl ?_
        have J26 : Mw (d9 + 1) b 95 143 [some (pR (some QW)), some (pR (some QV)), some (pR (some QB)), some (pR (some QK)), some (pR (some QM)), some (pI (nI j)), some (pI (nI (18 * ((dn τ) % 3) + (6 * j)))), some (pI (nI t)), some (pI (nI wi)), some (pI (nI lo)), some (pI (wrt τ t f + wrt τ t s)), some (pI (bI (τ 3 wi = τ 3 lo))), none, none] [pI (if τ 3 wi = τ 3 lo then nI 3 else if τ 3 wi = nI 0 then nI 6 else (-6)), pI (nI wi), pI (nI t), pR (some QV)] K I44 R Q := by
          refine mw_callS i_95_143 mf_93 (as := [pR (some QV), pI (nI t), pI (nI wi), pI (if τ 3 wi = τ 3 lo then nI 3 else if τ 3 wi = nI 0 then nI 6 else (-6))]) (rest := []) (d' := d9) (b' := b) (ls0 := [some (pR (some QV)), some (pI (nI t)), some (pI (nI wi)), some (pI (if τ 3 wi = τ 3 lo then nI 3 else if τ 3 wi = nI 0 then nI 6 else (-6))), none]) rfl rfl rfl (Nat.le_of_ble_eq_true rfl) rfl rfl rfl ?_
          refine b_love hQ hL25 (by omega) (by omega) ?_
          intro I57 hF27 hL27
          refine aft_n ?_
          refine mw_aload i_95_144 (L := QV) rfl ?_
          refine mw_iload i_95_145 (x := nI t) rfl ?_
          refine mw_iload i_95_146 (x := nI lo) rfl ?_
          have J28 : Mw (d9 + 1) b 95 162 [some (pR (some QW)), some (pR (some QV)), some (pR (some QB)), some (pR (some QK)), some (pR (some QM)), some (pI (nI j)), some (pI (nI (18 * ((dn τ) % 3) + (6 * j)))), some (pI (nI t)), some (pI (nI wi)), some (pI (nI lo)), some (pI (wrt τ t f + wrt τ t s)), some (pI (bI (τ 3 wi = τ 3 lo))), none, none] [pI (if τ 3 wi = τ 3 lo then (-1) else if τ 3 lo = nI 0 then nI 2 else (-2)), pI (nI lo), pI (nI t), pR (some QV)] K I57 R Q := by
            refine mw_callS i_95_162 mf_93 (as := [pR (some QV), pI (nI t), pI (nI lo), pI (if τ 3 wi = τ 3 lo then (-1) else if τ 3 lo = nI 0 then nI 2 else (-2))]) (rest := []) (d' := d9) (b' := b) (ls0 := [some (pR (some QV)), some (pI (nI t)), some (pI (nI lo)), some (pI (if τ 3 wi = τ 3 lo then (-1) else if τ 3 lo = nI 0 then nI 2 else (-2))), none]) rfl rfl rfl (Nat.le_of_ble_eq_true rfl) rfl rfl rfl ?_
            refine b_love hQ hL27 (by omega) (by omega) ?_
            intro I59 hF29 hL29
            refine aft_n ?_
            have hLw : LR n (win τ t wi lo) I59 := by have := hL29; rw [eS25, eS23] at this; rw [← al_win]; exact this
            have hre0 : re = nI 0 := hre.resolve_right c21
            have wo : ∀ k, k ≠ 4 → k ≠ 8 → k ≠ 13 → win τ t wi lo k = τ k := fun k a b c => win_o a b c
            have hk4 := (LR_k hLw (τ := τ) (wo 19 (by decide) (by decide) (by decide)) (wo 20 (by decide) (by decide) (by decide)) (wo 0 (by decide) (by decide) (by decide)) hjm).2.2.2.2.1.trans (by rw [h4])
            refine c_played1 (τ := win τ t wi lo) (a0 := 18 * (dn τ % 3) + 6 * j) (ti := ti) (by omega) hQ hLw (by omega) (by omega) ht hwi7.2.2 hti (by omega) hk4 hwl2 (fun t9 ht9 => by unfold lnO; rw [wo 17 (by decide) (by decide) (by decide)]; exact hln t9 ht9) (fun I80 u11 u12 u13 hF80 hL80 => ?_)
            have ho : ∀ k, k ≠ 15 → k ≠ 16 → k ≠ 17 → k ≠ 4 → k ≠ 8 → k ≠ 13 → hndI (win τ t wi lo) ti (nI f) (nI s) (nI wi) k = τ k := fun k a b c d e f9 => (hndI_o a b c).trans (wo k d e f9)
            have hk3 := (LR_k hL80 (τ := τ) (ho 19 (by decide) (by decide) (by decide) (by decide) (by decide) (by decide)) (ho 20 (by decide) (by decide) (by decide) (by decide) (by decide) (by decide)) (ho 0 (by decide) (by decide) (by decide) (by decide) (by decide) (by decide)) hjm).2.2.2.1.trans h3
            exact c_played2 (τ := hndI (win τ t wi lo) ti (nI f) (nI s) (nI wi)) (a0 := 18 * (dn τ % 3) + 6 * j) (m := m) (by omega) hQ hL80 (by omega) (by omega) ht hwi7.2.2 (by omega) hk3 (fun I70 hF70 hL70 => q I70 (FrQ_tr (FrQ_tr (FrQ_tr (FrQ_tr (show FrQ I I44 from by rw [e44]; exact FrQ_up (show FrQ I I42 from by rw [e42]; exact FrQ_up FrQ_rfl rfl) rfl) hF27) hF29) hF80) hF70) (by rw [← lw_pm (H := hndI (win τ t wi lo) ti (nI f) (nI s) (nI wi)) hfs hwl2 (by rw [if_pos hre0]) (ho 23 (by decide) (by decide) (by decide) (by decide) (by decide) (by decide))]; exact hL70))
          refine mw_iload i_95_147 (x := bI (τ 3 wi = τ 3 lo)) rfl ?_
          refine mw_eqB i_95_148 rfl (fun c30 => ?_) (fun c30 => ?_)
          · skip
            refine mw_aload i_95_151 (L := QW) rfl ?_
            refine mw_const i_95_152 (v := nI 9) (by decide) ?_
            refine mw_iload i_95_153 (x := nI lo) rfl ?_
            refine mw_imul i_95_154 (w := nI (9 * lo)) (pk_mul _ _) ?_
            refine mw_const i_95_155 (v := nI 2) (by decide) ?_
            refine mw_iadd i_95_156 (w := nI (9 * lo + 2)) (nI_add _ _) ?_
            refine mw_iald i_95_157 (jn := 9 * lo + 2) (n := 63) (by omega) (by omega) hQ.1 (by decide) (v := τ 3 lo) ((hL27.1 lo (by omega)).2.2.1.trans (by unfold lov; rw [ups_ne (by decide)]; rw [eS25, ups_ne (by decide), eS23, ups_ne (by decide)])) ?_
            refine mw_if i_95_158 (p := ¬ (τ 3 lo) = nI 0) Iff.rfl (fun c31 => ?_) (fun c31 => ?_)
            · skip
              refine mw_const i_95_161 (v := (-2)) (by decide) ?_
              exact mw_top (show (-2) = (if τ 3 wi = τ 3 lo then (-1) else if τ 3 lo = nI 0 then nI 2 else (-2)) from by rw [if_neg c30, if_neg c31]) J28
            · skip
              refine mw_const i_95_159 (v := nI 2) (by decide) ?_
              refine mw_goto i_95_160 ?_
              exact mw_top (show nI 2 = (if τ 3 wi = τ 3 lo then (-1) else if τ 3 lo = nI 0 then nI 2 else (-2)) from by rw [if_neg c30, if_pos (Classical.not_not.mp c31)]) J28
          · skip
            refine mw_const i_95_149 (v := (-1)) (by decide) ?_
            refine mw_goto i_95_150 ?_
            exact mw_top (show (-1) = (if τ 3 wi = τ 3 lo then (-1) else if τ 3 lo = nI 0 then nI 2 else (-2)) from (if_pos c30).symm) J28
        refine mw_iload i_95_128 (x := bI (τ 3 wi = τ 3 lo)) rfl ?_
        refine mw_eqB i_95_129 rfl (fun c32 => ?_) (fun c32 => ?_)
        · skip
          refine mw_aload i_95_132 (L := QW) rfl ?_
          refine mw_const i_95_133 (v := nI 9) (by decide) ?_
          refine mw_iload i_95_134 (x := nI wi) rfl ?_
          refine mw_imul i_95_135 (w := nI (9 * wi)) (pk_mul _ _) ?_
          refine mw_const i_95_136 (v := nI 2) (by decide) ?_
          refine mw_iadd i_95_137 (w := nI (9 * wi + 2)) (nI_add _ _) ?_
          refine mw_iald i_95_138 (jn := 9 * wi + 2) (n := 63) (by omega) (by omega) hQ.1 (by decide) (v := τ 3 wi) ((hL25.1 wi (by omega)).2.2.1.trans (by rw [eS25, ups_ne (by decide), eS23, ups_ne (by decide)])) ?_
          refine mw_if i_95_139 (p := ¬ (τ 3 wi) = nI 0) Iff.rfl (fun c33 => ?_) (fun c33 => ?_)
          · skip
            refine mw_const i_95_142 (v := (-6)) (by decide) ?_
            exact mw_top (show (-6) = (if τ 3 wi = τ 3 lo then nI 3 else if τ 3 wi = nI 0 then nI 6 else (-6)) from by rw [if_neg c32, if_neg c33]) J26
          · skip
            refine mw_const i_95_140 (v := nI 6) (by decide) ?_
            refine mw_goto i_95_141 ?_
            exact mw_top (show nI 6 = (if τ 3 wi = τ 3 lo then nI 3 else if τ 3 wi = nI 0 then nI 6 else (-6)) from by rw [if_neg c32, if_pos (Classical.not_not.mp c33)]) J26
        · skip
          refine mw_const i_95_130 (v := nI 3) (by decide) ?_
          refine mw_goto i_95_131 ?_
          exact mw_top (show nI 3 = (if τ 3 wi = τ 3 lo then nI 3 else if τ 3 wi = nI 0 then nI 6 else (-6)) from (if_pos c32).symm) J26
      · skip
        have cr1 : re = nI 1 := Classical.not_not.mp c21
        refine mw_aload i_95_80 (L := QW) rfl ?_
        refine mw_const i_95_81 (v := nI 9) (by decide) ?_
        refine mw_iload i_95_82 (x := nI wi) rfl ?_
        refine mw_imul i_95_83 (w := nI (9 * wi)) (pk_mul _ _) ?_
        refine mw_const i_95_84 (v := nI 7) (by decide) ?_
        refine mw_iadd i_95_85 (w := nI (9 * wi + 7)) (nI_add _ _) ?_
        refine mw_dup2 i_95_86 trivial trivial ?_
        refine mw_iald i_95_87 (jn := 9 * wi + 7) (n := 63) (by omega) (by omega) hQ.1 (by decide) (v := τ 9 wi) (hL.1 wi (by omega)).2.2.2.2.2.2.2.1 ?_
        refine mw_const i_95_88 (v := nI 1) (by decide) ?_
        refine mw_iadd i_95_89 (w := ((τ 9 wi) + (nI 1))) rfl ?_
        obtain ⟨I54, e54⟩ : ∃ I54, I54 = up2 I QW (9 * wi + 7) ((τ 9 wi) + (nI 1)) := ⟨_, rfl⟩
        refine mw_iast i_95_90 (jn := 9 * wi + 7) (n := 63) (by omega) (by omega) (x := ((τ 9 wi) + (nI 1))) hQ.1 (I' := I54) e54.symm ?_
        obtain ⟨S35, eS35⟩ : ∃ S35, S35 = adS τ 9 wi (nI 1) := ⟨_, rfl⟩
        have hL35 : LR n S35 I54 := by rw [e54, eS35]; exact LR_fld hL (Or.inr (Or.inr (Or.inr (Or.inr ⟨rfl, rfl⟩)))) (fun h => absurd h (by decide))
        refine mw_aload i_95_91 (L := QW) rfl ?_
        refine mw_const i_95_92 (v := nI 9) (by decide) ?_
        refine mw_iload i_95_93 (x := nI lo) rfl ?_
        refine mw_imul i_95_94 (w := nI (9 * lo)) (pk_mul _ _) ?_
        refine mw_const i_95_95 (v := nI 7) (by decide) ?_
        refine mw_iadd i_95_96 (w := nI (9 * lo + 7)) (nI_add _ _) ?_
        refine mw_dup2 i_95_97 trivial trivial ?_
        refine mw_iald i_95_98 (jn := 9 * lo + 7) (n := 63) (by omega) (by omega) hQ.1 (by decide) (v := S35 9 lo) (hL35.1 lo (by omega)).2.2.2.2.2.2.2.1 ?_
        refine mw_const i_95_99 (v := nI 1) (by decide) ?_
        refine mw_iadd i_95_100 (w := ((S35 9 lo) + (nI 1))) rfl ?_
        obtain ⟨I56, e56⟩ : ∃ I56, I56 = up2 I54 QW (9 * lo + 7) ((S35 9 lo) + (nI 1)) := ⟨_, rfl⟩
        refine mw_iast i_95_101 (jn := 9 * lo + 7) (n := 63) (by omega) (by omega) (x := ((S35 9 lo) + (nI 1))) hQ.1 (I' := I56) e56.symm ?_
        obtain ⟨S37, eS37⟩ : ∃ S37, S37 = adS S35 9 lo (nI 1) := ⟨_, rfl⟩
        have hL37 : LR n S37 I56 := by rw [e56, eS37]; exact LR_fld hL35 (Or.inr (Or.inr (Or.inr (Or.inr ⟨rfl, rfl⟩)))) (fun h => absurd h (by decide))
        refine mw_goto i_95_102 ?_
        have h01 : ¬ re = nI 0 := fun e => by rw [e] at cr1; exact absurd cr1 (by decide)
        have hk3 := (LR_k hL37 (τ := τ) (by rw [eS37, eS35]; exact (ups_ne (by decide)).trans (ups_ne (by decide))) (by rw [eS37, eS35]; exact (ups_ne (by decide)).trans (ups_ne (by decide))) (by rw [eS37, eS35]; exact (ups_ne (by decide)).trans (ups_ne (by decide))) hjm).2.2.2.1.trans h3
        exact c_played2 (τ := S37) (a0 := 18 * (dn τ % 3) + 6 * j) (m := m) (by omega) hQ hL37 (by omega) (by omega) ht hwi7.2.2 (by omega) hk3 (fun I70 hF70 hL70 => q I70 (FrQ_tr (show FrQ I I56 from by rw [e56]; exact FrQ_up (show FrQ I I54 from by rw [e54]; exact FrQ_up FrQ_rfl rfl) rfl) hF70) (by rw [← lw_pm (H := S37) hfs hwl2 (by rw [if_neg h01, eS37, eS35, ew, el]; exact ad_cm (Ne.symm hfs)) (by rw [eS37, eS35]; exact (ups_ne (by decide)).trans (ups_ne (by decide)))]; exact hL70))
    refine mw_aload i_95_54 (L := QW) rfl ?_
    refine mw_const i_95_55 (v := nI 9) (by decide) ?_
    refine mw_iload i_95_56 (x := nI wi) rfl ?_
    refine mw_imul i_95_57 (w := nI (9 * wi)) (pk_mul _ _) ?_
    refine mw_const i_95_58 (v := nI 2) (by decide) ?_
    refine mw_iadd i_95_59 (w := nI (9 * wi + 2)) (nI_add _ _) ?_
    refine mw_iald i_95_60 (jn := 9 * wi + 2) (n := 63) (by omega) (by omega) hQ.1 (by decide) (v := τ 3 wi) (hL.1 wi (by omega)).2.2.1 ?_
    refine mw_aload i_95_61 (L := QW) rfl ?_
    refine mw_const i_95_62 (v := nI 9) (by decide) ?_
    refine mw_iload i_95_63 (x := nI lo) rfl ?_
    refine mw_imul i_95_64 (w := nI (9 * lo)) (pk_mul _ _) ?_
    refine mw_const i_95_65 (v := nI 2) (by decide) ?_
    refine mw_iadd i_95_66 (w := nI (9 * lo + 2)) (nI_add _ _) ?_
    refine mw_iald i_95_67 (jn := 9 * lo + 2) (n := 63) (by omega) (by omega) hQ.1 (by decide) (v := τ 3 lo) (hL.1 lo (by omega)).2.2.1 ?_
    refine mw_ic i_95_68 (p := ¬ (τ 3 wi) = (τ 3 lo)) Iff.rfl (fun c38 => ?_) (fun c38 => ?_)
    · skip
      refine mw_const i_95_71 (v := nI 0) (by decide) ?_
      exact mw_top (show nI 0 = bI (τ 3 wi = τ 3 lo) from (bI_f (c38)).symm) J20
    · skip
      refine mw_const i_95_69 (v := nI 1) (by decide) ?_
      refine mw_goto i_95_70 ?_
      exact mw_top (show nI 1 = bI (τ 3 wi = τ 3 lo) from (bI_t ((Classical.not_not.mp c38))).symm) J20
