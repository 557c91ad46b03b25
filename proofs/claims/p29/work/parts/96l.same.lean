/-! the law asks the class -/
section S
variable {d b : Nat} {K : KM} {I : IM} {R : RM} {Q : QT} {n : Nat} {σ : ST} {v : Int32}
theorem s_day (hW : CW n σ K I R) (q : Q (.inl (some (pI (nI (dn σ))))) K I R) : Mw d b N_X5_day 0 [some (pR (some RING))] [] K I R Q := by
  have hS := hW.1.1
  refine mw_aload i_46_0 (L := RING) rfl ?_
  refine mw_get i_46_1 hS.1.1 (v := nI (dn σ)) (CW_d hW) ?_
  refine mw_iretI i_46_2 (x := nI (dn σ)) rt_46 ?_
  exact q
theorem s_ofW {i k : Nat} (hd : 8 ≤ d) (hW : CW n σ K I R) (hb : 7 ≤ b) (hn : n ≤ 512) (hi : i < pn σ) (hk : k < 7) (hv : owv σ i k = v) (q : Q (.inl (some (pI v))) K I R) : Mw d b N_X5_ofWrestler 0 [some (pR (some RING)), some (pI (nI i)), some (pI (nI k)), none] [] K I R Q := by
  have hp := hW.2.2.1.2
  refine k_ofW hd hW hb hn (fun h => absurd ⟨i, hi, rfl⟩ h) (fun _ h => absurd ⟨k, hk, rfl⟩ h) (fun x k' h1 h2 e1 e2 v' hv' => ?_)
  obtain rfl := nI_inj e1 (by omega) (by omega)
  obtain rfl := nI_inj e2 (by omega) (by omega)
  rw [hv', hv]; exact q
theorem s_love {t i : Nat} (hd : 8 ≤ d) (hW : CW n σ K I R) (hb : 7 ≤ b) (hn : n ≤ 512) (ht : t < 4) (hi : i < pn σ) (q : Q (.inl (some (pI (σ 4 (10 * t + i))))) K I R) : Mw d b N_X5_love 0 [some (pR (some RING)), some (pI (nI t)), some (pI (nI i))] [] K I R Q := by
  have hp := hW.2.2.1.2
  refine k_love hd hW hb hn (fun h => absurd ⟨⟨t, ht, rfl⟩, ⟨i, hi, rfl⟩⟩ h) (fun t' x h1 h2 e1 e2 => ?_)
  obtain rfl := nI_inj e1 (by omega) (by omega)
  obtain rfl := nI_inj e2 (by omega) (by omega)
  exact q
theorem s_worth {t i : Nat} (hd : 8 ≤ d) (hW : CW n σ K I R) (hb : 7 ≤ b) (hn : n ≤ 512) (ht : t < 4) (hi : i < pn σ) (q : Q (.inl (some (pI (wrt σ t i)))) K I R) : Mw d b N_X5_worth 0 [some (pR (some RING)), some (pI (nI t)), some (pI (nI i))] [] K I R Q := by
  have hp := hW.2.2.1.2
  refine k_worth hd hW hb hn (fun h => absurd ⟨⟨t, ht, rfl⟩, ⟨i, hi, rfl⟩⟩ h) (fun t' x h1 h2 e1 e2 => ?_)
  obtain rfl := nI_inj e1 (by omega) (by omega)
  obtain rfl := nI_inj e2 (by omega) (by omega)
  exact q
theorem s_beat {i o : Nat} (hd : 8 ≤ d) (hW : CW n σ K I R) (hb : 7 ≤ b) (hn : n ≤ 512) (hi : i < pn σ) (ho : o < pn σ) (q : Q (.inl (some (pI (σ 13 (10 * i + o))))) K I R) : Mw d b N_X5_beat 0 [some (pR (some RING)), some (pI (nI i)), some (pI (nI o))] [] K I R Q := by
  have hp := hW.2.2.1.2
  refine k_beat hd hW hb hn (fun h => absurd ⟨⟨i, hi, rfl⟩, ⟨o, ho, rfl⟩⟩ h) (fun t' x h1 h2 e1 e2 => ?_)
  obtain rfl := nI_inj e1 (by omega) (by omega)
  obtain rfl := nI_inj e2 (by omega) (by omega)
  exact q
theorem s_beatA {i o : Nat} (hd : 8 ≤ d) (hW : CW n σ K I R) (hb : 7 ≤ b) (hn : n ≤ 512) (hi : i < pn σ) (ho : o < pn σ) (q : Q (.inl (some (pI (σ 13 (10 * i + o))))) K I R) : Mw d b N_X5_beatAnew 0 [some (pR (some RING)), some (pI (nI i)), some (pI (nI o)), none, none, none] [] K I R Q := by
  have hp := hW.2.2.1.2
  refine k_beatAnew hd hW hb hn (fun h => absurd ⟨⟨i, hi, rfl⟩, ⟨o, ho, rfl⟩⟩ h) (fun t' x h1 h2 e1 e2 => ?_)
  obtain rfl := nI_inj e1 (by omega) (by omega)
  obtain rfl := nI_inj e2 (by omega) (by omega)
  exact q
theorem s_gate {t : Nat} (hd : 8 ≤ d) (hW : CW n σ K I R) (hb : 7 ≤ b) (hn : n ≤ 512) (ht : t < 4) (q : Q (.inl (some (pI (σ 23 t)))) K I R) : Mw d b N_X5_gate 0 [some (pR (some RING)), some (pI (nI t))] [] K I R Q := by
  refine k_gate hd hW hb hn (fun h => absurd ⟨t, ht, rfl⟩ h) (fun x h1 e1 => ?_)
  obtain rfl := nI_inj e1 (by omega) (by omega)
  exact q
theorem s_champ {t : Nat} (hd : 8 ≤ d) (hW : CW n σ K I R) (hb : 7 ≤ b) (hn : n ≤ 512) (ht : t < tn σ) (q : Q (.inl (some (pI (chO σ t)))) K I R) : Mw d b N_X5_champion 0 [some (pR (some RING)), some (pI (nI t))] [] K I R Q := by
  have htt := hW.2.2.2.1.2
  refine k_champion hd hW hb hn (fun h => absurd ⟨t, ht, rfl⟩ h) (fun x h1 e1 => ?_)
  obtain rfl := nI_inj e1 (by omega) (by omega)
  exact q
theorem s_lin {t : Nat} (hd : 8 ≤ d) (hW : CW n σ K I R) (hb : 7 ≤ b) (hn : n ≤ 512) (ht : t < tn σ) (h0 : ¬ σ 17 t = nI 0) (q : Q (.inl (some (pI (chO σ t)))) K I R) : Mw d b N_X5_lineage 0 [some (pR (some RING)), some (pI (nI t)), some (pI (nI (lnO σ t - 1))), some (pI (nI 0))] [] K I R Q := by
  have htt := hW.2.2.2.1.2
  obtain ⟨e17, hl⟩ := hW.2.2.2.2.2.2.1 t (by omega)
  have hp : lnO σ t ≠ 0 := fun e => h0 (by rw [e17, e])
  rw [show nI 0 = bI False from (bI_f (fun h => h)).symm]
  refine k_lineage hd hW hb hn (fun h => absurd ⟨t, ht, rfl, lnO σ t - 1, by omega, rfl⟩ h) (fun x k h1 h2 e1 e2 v' hv' => ?_)
  obtain rfl := nI_inj e1 (by omega) (by omega)
  have hk := (hW.2.2.2.2.2.2.1 t (by omega)).2
  obtain rfl := nI_inj e2 (by omega) (by omega)
  rw [hv', if_neg (fun h => h)]
  unfold chO at q
  rw [if_neg h0] at q
  exact q
theorem s_ofM {x j k : Nat} (hd : 8 ≤ d) (hW : CW n σ K I R) (hb : 7 ≤ b) (hn : n ≤ 512) (hx : x < 1000) (hj : j < mn σ x) (hk : k < 6) (hv : omv σ x j k = v) (q : Q (.inl (some (pI v))) K I R) : Mw d b N_X5_ofMatch 0 [some (pR (some RING)), some (pI (nI x)), some (pI (nI j)), some (pI (nI k)), none, none] [] K I R Q := by
  have hm := (hW.2.2.2.2.2.2.2.1 x hx).2.1
  refine k_ofM_i hd hW hb hn hx (fun h => absurd ⟨j, hj, rfl⟩ h) (fun _ _ _ h => absurd ⟨k, hk, rfl⟩ h) (fun j' k' h1 h2 e1 e2 v' hv' => ?_)
  obtain rfl := nI_inj e1 (by omega) (by omega)
  obtain rfl := nI_inj e2 (by omega) (by omega)
  rw [hv', hv]; exact q
theorem s_ofC {x k : Nat} (hd : 8 ≤ d) (hW : CW n σ K I R) (hb : 7 ≤ b) (hn : n ≤ 512) (hx : x < 1000) (hk : k < 4) (hv : ocv σ x k = v) (q : Q (.inl (some (pI v))) K I R) : Mw d b N_X5_ofCard 0 [some (pR (some RING)), some (pI (nI x)), some (pI (nI k)), none] [] K I R Q := by
  refine k_ofC hd hW hb hn (fun h => absurd ⟨⟨x, hx, rfl⟩, ⟨k, hk, rfl⟩⟩ h) (fun x' k' h1 h2 e1 e2 v' hv' => ?_)
  obtain rfl := nI_inj e1 (by omega) (by omega)
  obtain rfl := nI_inj e2 (by omega) (by omega)
  rw [hv', hv]; exact q
theorem Vv_bC {tw : Nat} : Vv σ tw (bC σ tw) = bS σ tw := by
  unfold Vv
  rw [if_pos bC_ok.1]
  exact bC_ok.2.symm
theorem ow_4 (hV : IV n σ) {i : Nat} (h7 : pn σ = 7) (hi : i < 7) : owv σ i 4 = smI (fun k => σ 13 (10 * i + k)) 7 := by
  have := won10 hV (x := i) (by omega)
  rw [h7] at this
  exact this.symm
theorem om_2 {x j : Nat} (h : ¬ (σ 22 x = nI 1 ∧ σ 19 (36 * x + 6 * j + 5) = nI 1)) : omv σ x j 2 = if σ 19 (36 * x + 6 * j + 2) = nI 0 then σ 19 (36 * x + 6 * j) else σ 19 (36 * x + 6 * j + 1) := by
  show (if _ then _ else wnr σ x j) = _
  rw [if_neg h]; rfl
theorem om_1 {x j : Nat} (h : σ 22 x = nI 1 ∧ σ 19 (36 * x + 6 * j + 5) = nI 1) : omv σ x j 2 = (-1) := by
  show (if _ then _ else wnr σ x j) = _
  rw [if_pos h]
end S
set_option maxRecDepth 20000 in
theorem c_sm_lp {d b : Nat} {K : KM} {I : IM} {R : RM} {Q : QT} {nn z i o t x tt : Nat} {σ : ST} (hQ : KQ K) (hL : LR nn σ I) (hi7 : i < 7)  (q : ∀ u15 u16 u17 u18 u19, Mw d b N_L_isSame 51 [some (pR (some RING)), some (pR (some QW)), some (pR (some QV)), some (pR (some QC)), some (pR (some QB)), some (pR (some QK)), some (pR (some QM)), some (pI (nI z)), some (pI (nI i)), some (pI (nI o)), some (pI (nI t)), some (pI (nI x)), some (pI (nI tt)), some (pI (smI (fun k => σ 13 (10 * i + k)) 7)), some (pI (nI 7)), u15, u16, u17, u18, u19] [] K I R Q) : ∀ (n j : Nat) (u15 u16 u17 u18 u19 : Option PV), 7 - j < n → j ≤ 7 → Mw d b N_L_isSame 36 [some (pR (some RING)), some (pR (some QW)), some (pR (some QV)), some (pR (some QC)), some (pR (some QB)), some (pR (some QK)), some (pR (some QM)), some (pI (nI z)), some (pI (nI i)), some (pI (nI o)), some (pI (nI t)), some (pI (nI x)), some (pI (nI tt)), some (pI (smI (fun k => σ 13 (10 * i + k)) j)), some (pI (nI j)), u15, u16, u17, u18, u19] [] K I R Q := by
  intro n
  induction n with
  | zero => intro j u15 u16 u17 u18 u19 hn; exact absurd hn (Nat.not_lt_zero _)
  | succ n ih =>
    intro j u15 u16 u17 u18 u19 hn hi
    refine mw_iload i_96_36 (x := nI j) rfl ?_
    refine mw_const i_96_37 (v := nI 7) (by decide) ?_
    refine mw_ic i_96_38 (p := 7 ≤ j) (nI_leI (by omega) (by omega)) (fun c1 => ?_) (fun c1 => ?_)
    · skip
      obtain rfl : j = 7 := by omega
      exact q _ _ _ _ _
    · skip
      refine mw_iload i_96_39 (x := smI (fun k => σ 13 (10 * i + k)) j) rfl ?_
      refine mw_aload i_96_40 (L := QB) rfl ?_
      refine mw_const i_96_41 (v := nI 7) (by decide) ?_
      refine mw_iload i_96_42 (x := nI i) rfl ?_
      refine mw_imul i_96_43 (w := nI (7 * i)) (pk_mul _ _) ?_
      refine mw_iload i_96_44 (x := nI j) rfl ?_
      refine mw_iadd i_96_45 (w := nI (7 * i + j)) (nI_add _ _) ?_
      refine mw_iald i_96_46 (jn := 7 * i + j) (n := 49) (by omega) (by omega) hQ.2.2.2.1 (by decide) (v := σ 13 (10 * i + j)) (hL.2.2.2.1 i (by omega) j (by omega)) ?_
      refine mw_iadd i_96_47 (w := smI (fun k => σ 13 (10 * i + k)) (j + 1)) rfl ?_
      refine mw_istore i_96_48 (ls' := [some (pR (some RING)), some (pR (some QW)), some (pR (some QV)), some (pR (some QC)), some (pR (some QB)), some (pR (some QK)), some (pR (some QM)), some (pI (nI z)), some (pI (nI i)), some (pI (nI o)), some (pI (nI t)), some (pI (nI x)), some (pI (nI tt)), some (pI (smI (fun k => σ 13 (10 * i + k)) (j + 1))), some (pI (nI j)), u15, u16, u17, u18, u19]) rfl (Nat.le_of_ble_eq_true rfl) ?_
      refine mw_iinc i_96_49 (x := nI j) (v := nI (j + 1)) (ls' := [some (pR (some RING)), some (pR (some QW)), some (pR (some QV)), some (pR (some QC)), some (pR (some QB)), some (pR (some QK)), some (pR (some QM)), some (pI (nI z)), some (pI (nI i)), some (pI (nI o)), some (pI (nI t)), some (pI (nI x)), some (pI (nI tt)), some (pI (smI (fun k => σ 13 (10 * i + k)) (j + 1))), some (pI (nI (j + 1))), u15, u16, u17, u18, u19]) rfl (nI_add _ _) rfl ?_
      refine mw_goto i_96_50 ?_
      exact ih (j + 1) _ _ _ _ _ (by omega) (by omega)
set_option maxRecDepth 20000 in
set_option maxHeartbeats 2000000 in
theorem c_sm_m {d : Nat} {K : KM} {I : IM} {R : RM} {Q : QT} {nn n0 z i o t x tt : Nat} {σ : ST} {y13 : Int32} (hd : 9 ≤ d) (hQ : KQ K) (hW : CW n0 σ K I R) (hL : LR nn σ I) (hn5 : n0 < 512) (hx1 : dn σ ≤ x) (hx2 : x < dn σ + 3) (hx : x < 1000) (q : ∀ b u18 u19, 200 ≤ b → Mw d b N_L_isSame 374 [some (pR (some RING)), some (pR (some QW)), some (pR (some QV)), some (pR (some QC)), some (pR (some QB)), some (pR (some QK)), some (pR (some QM)), some (pI (nI z)), some (pI (nI i)), some (pI (nI o)), some (pI (nI t)), some (pI (nI x)), some (pI (nI tt)), some (pI y13), some (pI (nI 1)), some (pI (nI (mn σ x))), some (pI (smI (fun j => σ 19 (36 * x + 6 * j + 3)) (mn σ x))), some (pI (nI (mn σ x))), u18, u19] [] K I R Q) : ∀ (n j : Nat) (b : Nat) (u18 u19 : Option PV), mn σ x - j < n → j ≤ mn σ x → (200 + 42 * (mn σ x - j) ≤ b) → Mw d b N_L_isSame 253 [some (pR (some RING)), some (pR (some QW)), some (pR (some QV)), some (pR (some QC)), some (pR (some QB)), some (pR (some QK)), some (pR (some QM)), some (pI (nI z)), some (pI (nI i)), some (pI (nI o)), some (pI (nI t)), some (pI (nI x)), some (pI (nI tt)), some (pI y13), some (pI (nI 1)), some (pI (nI (mn σ x))), some (pI (smI (fun j => σ 19 (36 * x + 6 * j + 3)) j)), some (pI (nI j)), u18, u19] [] K I R Q := by
  obtain ⟨d9, rfl⟩ : ∃ d9, d = d9 + 1 := ⟨d - 1, by omega⟩
  intro n
  induction n with
  | zero => intro j b u18 u19 hn; exact absurd hn (Nat.not_lt_zero _)
  | succ n ih =>
    intro j b u18 u19 hn hi hbb
    have hV := hW.2.2
    obtain ⟨g1, g2, g3, g4, g5⟩ := LR_card hL (x := x) hx1 hx2
    refine mw_iload i_96_253 (x := nI j) rfl ?_
    refine mw_iload i_96_254 (x := nI (mn σ x)) rfl ?_
    refine mw_ic i_96_255 (p := (mn σ x) ≤ j) (nI_leI (by omega) (by omega)) (fun c1 => ?_) (fun c1 => ?_)
    · skip
      obtain rfl : j = mn σ x := by omega
      exact q _ _ _ (by omega)
    · skip
      refine mw_iload i_96_256 (x := nI 1) rfl ?_
      refine mw_ifF i_96_257 (show ¬ (nI 1 = 0) by decide) ?_
      refine mw_aload i_96_258 (L := QM) rfl ?_
      refine mw_iload i_96_259 (x := nI x) rfl ?_
      refine mw_callS i_96_260 mf_78 (as := [pR (some QM), pI (nI x)]) (rest := []) (d' := d9) (b' := b) (ls0 := [some (pR (some QM)), some (pI (nI x))]) rfl rfl rfl (Nat.le_of_ble_eq_true rfl) rfl rfl rfl ?_
      refine a_slot (by omega) ?_
      refine aft_v ?_
      refine mw_const i_96_261 (v := nI 6) (by decide) ?_
      refine mw_iload i_96_262 (x := nI j) rfl ?_
      refine mw_imul i_96_263 (w := nI (6 * j)) (pk_mul _ _) ?_
      refine mw_iadd i_96_264 (w := nI (18 * (x % 3) + (6 * j))) (nI_add _ _) ?_
      refine mw_istore i_96_265 (ls' := [some (pR (some RING)), some (pR (some QW)), some (pR (some QV)), some (pR (some QC)), some (pR (some QB)), some (pR (some QK)), some (pR (some QM)), some (pI (nI z)), some (pI (nI i)), some (pI (nI o)), some (pI (nI t)), some (pI (nI x)), some (pI (nI tt)), some (pI y13), some (pI (nI 1)), some (pI (nI (mn σ x))), some (pI (smI (fun j => σ 19 (36 * x + 6 * j + 3)) j)), some (pI (nI j)), some (pI (nI (18 * (x % 3) + (6 * j)))), u19]) rfl (Nat.le_of_ble_eq_true rfl) ?_
      have J2 : Mw (d9 + 1) b 96 285 [some (pR (some RING)), some (pR (some QW)), some (pR (some QV)), some (pR (some QC)), some (pR (some QB)), some (pR (some QK)), some (pR (some QM)), some (pI (nI z)), some (pI (nI i)), some (pI (nI o)), some (pI (nI t)), some (pI (nI x)), some (pI (nI tt)), some (pI y13), some (pI (nI 1)), some (pI (nI (mn σ x))), some (pI (smI (fun j => σ 19 (36 * x + 6 * j + 3)) j)), some (pI (nI j)), some (pI (nI (18 * (x % 3) + (6 * j)))), u19] [pI (bI (σ 22 x = nI 1 ∧ σ 19 (36 * x + 6 * j + 5) = nI 1))] K I R Q := by
        refine mw_istore i_96_285 (ls' := [some (pR (some RING)), some (pR (some QW)), some (pR (some QV)), some (pR (some QC)), some (pR (some QB)), some (pR (some QK)), some (pR (some QM)), some (pI (nI z)), some (pI (nI i)), some (pI (nI o)), some (pI (nI t)), some (pI (nI x)), some (pI (nI tt)), some (pI y13), some (pI (nI 1)), some (pI (nI (mn σ x))), some (pI (smI (fun j => σ 19 (36 * x + 6 * j + 3)) j)), some (pI (nI j)), some (pI (nI (18 * (x % 3) + (6 * j)))), some (pI (bI (σ 22 x = nI 1 ∧ σ 19 (36 * x + 6 * j + 5) = nI 1)))]) rfl (Nat.le_of_ble_eq_true rfl) ?_
        refine mw_iload i_96_286 (x := smI (fun j => σ 19 (36 * x + 6 * j + 3)) j) rfl ?_
        refine mw_aload i_96_287 (L := QK) rfl ?_
        refine mw_iload i_96_288 (x := nI (18 * (x % 3) + (6 * j))) rfl ?_
        refine mw_const i_96_289 (v := nI 3) (by decide) ?_
        refine mw_iadd i_96_290 (w := nI (18 * (x % 3) + (6 * j) + 3)) (nI_add _ _) ?_
        refine mw_iald i_96_291 (jn := 18 * (x % 3) + (6 * j) + 3) (n := 54) (by omega) (by omega) hQ.2.2.2.2.1 (by decide) (v := σ 19 (36 * x + 6 * j + 3)) (g5 j (by omega)).2.2.2.1 ?_
        refine mw_iadd i_96_292 (w := smI (fun j => σ 19 (36 * x + 6 * j + 3)) (j + 1)) rfl ?_
        refine mw_istore i_96_293 (ls' := [some (pR (some RING)), some (pR (some QW)), some (pR (some QV)), some (pR (some QC)), some (pR (some QB)), some (pR (some QK)), some (pR (some QM)), some (pI (nI z)), some (pI (nI i)), some (pI (nI o)), some (pI (nI t)), some (pI (nI x)), some (pI (nI tt)), some (pI y13), some (pI (nI 1)), some (pI (nI (mn σ x))), some (pI (smI (fun j => σ 19 (36 * x + 6 * j + 3)) (j + 1))), some (pI (nI j)), some (pI (nI (18 * (x % 3) + (6 * j)))), some (pI (bI (σ 22 x = nI 1 ∧ σ 19 (36 * x + 6 * j + 5) = nI 1)))]) rfl (Nat.le_of_ble_eq_true rfl) ?_
        refine mw_aload i_96_294 (L := RING) rfl ?_
        refine mw_iload i_96_295 (x := nI x) rfl ?_
        refine mw_iload i_96_296 (x := nI j) rfl ?_
        refine mw_const i_96_297 (v := nI 0) (by decide) ?_
        obtain ⟨b43, rfl⟩ : ∃ b43, b = b43 + 7 := ⟨b - 7, by omega⟩
        refine mw_callV i_96_298 mf_51 (as := [pI (nI x), pI (nI j), pI (nI 0)]) (rest := []) (d' := d9) (b' := b43) (ls0 := [some (pR (some RING)), some (pI (nI x)), some (pI (nI j)), some (pI (nI 0)), none, none]) rfl rfl rfl (Nat.le_of_ble_eq_true rfl) hW.1.1.1.1 rfl (by omega) rfl ?_
        refine s_ofM (v := σ 19 (36 * x + 6 * j)) (by omega) hW (by omega) (by omega) (by omega) (by omega) (by decide) rfl ?_
        refine aft_v ?_
        refine mw_aload i_96_299 (L := QK) rfl ?_
        refine mw_iload i_96_300 (x := nI (18 * (x % 3) + (6 * j))) rfl ?_
        refine mw_iald i_96_301 (jn := 18 * (x % 3) + (6 * j)) (n := 54) (by omega) (by omega) hQ.2.2.2.2.1 (by decide) (v := σ 19 (36 * x + 6 * j)) (g5 j (by omega)).1 ?_
        refine mw_icF i_96_302 (fun h => h rfl) ?_
        refine mw_aload i_96_303 (L := RING) rfl ?_
        refine mw_iload i_96_304 (x := nI x) rfl ?_
        refine mw_iload i_96_305 (x := nI j) rfl ?_
        refine mw_const i_96_306 (v := nI 1) (by decide) ?_
        obtain ⟨b44, rfl⟩ : ∃ b44, b43 = b44 + 7 := ⟨b43 - 7, by omega⟩
        refine mw_callV i_96_307 mf_51 (as := [pI (nI x), pI (nI j), pI (nI 1)]) (rest := []) (d' := d9) (b' := b44) (ls0 := [some (pR (some RING)), some (pI (nI x)), some (pI (nI j)), some (pI (nI 1)), none, none]) rfl rfl rfl (Nat.le_of_ble_eq_true rfl) hW.1.1.1.1 rfl (by omega) rfl ?_
        refine s_ofM (v := σ 19 (36 * x + 6 * j + 1)) (by omega) hW (by omega) (by omega) (by omega) (by omega) (by decide) rfl ?_
        refine aft_v ?_
        refine mw_aload i_96_308 (L := QK) rfl ?_
        refine mw_iload i_96_309 (x := nI (18 * (x % 3) + (6 * j))) rfl ?_
        refine mw_const i_96_310 (v := nI 1) (by decide) ?_
        refine mw_iadd i_96_311 (w := nI (18 * (x % 3) + (6 * j) + 1)) (nI_add _ _) ?_
        refine mw_iald i_96_312 (jn := 18 * (x % 3) + (6 * j) + 1) (n := 54) (by omega) (by omega) hQ.2.2.2.2.1 (by decide) (v := σ 19 (36 * x + 6 * j + 1)) (g5 j (by omega)).2.1 ?_
        refine mw_icF i_96_313 (fun h => h rfl) ?_
        refine mw_aload i_96_314 (L := RING) rfl ?_
        refine mw_iload i_96_315 (x := nI x) rfl ?_
        refine mw_iload i_96_316 (x := nI j) rfl ?_
        refine mw_const i_96_317 (v := nI 2) (by decide) ?_
        obtain ⟨b45, rfl⟩ : ∃ b45, b44 = b45 + 7 := ⟨b44 - 7, by omega⟩
        refine mw_callV i_96_318 mf_51 (as := [pI (nI x), pI (nI j), pI (nI 2)]) (rest := []) (d' := d9) (b' := b45) (ls0 := [some (pR (some RING)), some (pI (nI x)), some (pI (nI j)), some (pI (nI 2)), none, none]) rfl rfl rfl (Nat.le_of_ble_eq_true rfl) hW.1.1.1.1 rfl (by omega) rfl ?_
        refine s_ofM (v := omv σ x j 2) (by omega) hW (by omega) (by omega) (by omega) (by omega) (by decide) rfl ?_
        refine aft_v ?_
        have J6 : Mw (d9 + 1) b45 96 332 [some (pR (some RING)), some (pR (some QW)), some (pR (some QV)), some (pR (some QC)), some (pR (some QB)), some (pR (some QK)), some (pR (some QM)), some (pI (nI z)), some (pI (nI i)), some (pI (nI o)), some (pI (nI t)), some (pI (nI x)), some (pI (nI tt)), some (pI y13), some (pI (nI 1)), some (pI (nI (mn σ x))), some (pI (smI (fun j => σ 19 (36 * x + 6 * j + 3)) (j + 1))), some (pI (nI j)), some (pI (nI (18 * (x % 3) + (6 * j)))), some (pI (bI (σ 22 x = nI 1 ∧ σ 19 (36 * x + 6 * j + 5) = nI 1)))] [pI (omv σ x j 2), pI (omv σ x j 2)] K I R Q := by
          refine mw_icF i_96_332 (fun h => h rfl) ?_
          refine mw_aload i_96_333 (L := RING) rfl ?_
          refine mw_iload i_96_334 (x := nI x) rfl ?_
          refine mw_iload i_96_335 (x := nI j) rfl ?_
          refine mw_const i_96_336 (v := nI 3) (by decide) ?_
          obtain ⟨b47, rfl⟩ : ∃ b47, b45 = b47 + 7 := ⟨b45 - 7, by omega⟩
          refine mw_callV i_96_337 mf_51 (as := [pI (nI x), pI (nI j), pI (nI 3)]) (rest := []) (d' := d9) (b' := b47) (ls0 := [some (pR (some RING)), some (pI (nI x)), some (pI (nI j)), some (pI (nI 3)), none, none]) rfl rfl rfl (Nat.le_of_ble_eq_true rfl) hW.1.1.1.1 rfl (by omega) rfl ?_
          refine s_ofM (v := σ 19 (36 * x + 6 * j + 3)) (by omega) hW (by omega) (by omega) (by omega) (by omega) (by decide) rfl ?_
          refine aft_v ?_
          refine mw_aload i_96_338 (L := QK) rfl ?_
          refine mw_iload i_96_339 (x := nI (18 * (x % 3) + (6 * j))) rfl ?_
          refine mw_const i_96_340 (v := nI 3) (by decide) ?_
          refine mw_iadd i_96_341 (w := nI (18 * (x % 3) + (6 * j) + 3)) (nI_add _ _) ?_
          refine mw_iald i_96_342 (jn := 18 * (x % 3) + (6 * j) + 3) (n := 54) (by omega) (by omega) hQ.2.2.2.2.1 (by decide) (v := σ 19 (36 * x + 6 * j + 3)) (g5 j (by omega)).2.2.2.1 ?_
          refine mw_icF i_96_343 (fun h => h rfl) ?_
          refine mw_aload i_96_344 (L := RING) rfl ?_
          refine mw_iload i_96_345 (x := nI x) rfl ?_
          refine mw_iload i_96_346 (x := nI j) rfl ?_
          refine mw_const i_96_347 (v := nI 4) (by decide) ?_
          obtain ⟨b48, rfl⟩ : ∃ b48, b47 = b48 + 7 := ⟨b47 - 7, by omega⟩
          refine mw_callV i_96_348 mf_51 (as := [pI (nI x), pI (nI j), pI (nI 4)]) (rest := []) (d' := d9) (b' := b48) (ls0 := [some (pR (some RING)), some (pI (nI x)), some (pI (nI j)), some (pI (nI 4)), none, none]) rfl rfl rfl (Nat.le_of_ble_eq_true rfl) hW.1.1.1.1 rfl (by omega) rfl ?_
          refine s_ofM (v := σ 19 (36 * x + 6 * j + 4)) (by omega) hW (by omega) (by omega) (by omega) (by omega) (by decide) rfl ?_
          refine aft_v ?_
          refine mw_aload i_96_349 (L := QK) rfl ?_
          refine mw_iload i_96_350 (x := nI (18 * (x % 3) + (6 * j))) rfl ?_
          refine mw_const i_96_351 (v := nI 4) (by decide) ?_
          refine mw_iadd i_96_352 (w := nI (18 * (x % 3) + (6 * j) + 4)) (nI_add _ _) ?_
          refine mw_iald i_96_353 (jn := 18 * (x % 3) + (6 * j) + 4) (n := 54) (by omega) (by omega) hQ.2.2.2.2.1 (by decide) (v := (σ 19 (36 * x + 6 * j + 4) + nI 1)) (g5 j (by omega)).2.2.2.2.1 ?_
          refine mw_const i_96_354 (v := nI 1) (by decide) ?_
          refine mw_isub i_96_355 (w := σ 19 (36 * x + 6 * j + 4)) (Int32.add_sub_cancel _ _) ?_
          refine mw_icF i_96_356 (fun h => h rfl) ?_
          refine mw_aload i_96_357 (L := RING) rfl ?_
          refine mw_iload i_96_358 (x := nI x) rfl ?_
          refine mw_iload i_96_359 (x := nI j) rfl ?_
          refine mw_const i_96_360 (v := nI 5) (by decide) ?_
          obtain ⟨b49, rfl⟩ : ∃ b49, b48 = b49 + 7 := ⟨b48 - 7, by omega⟩
          refine mw_callV i_96_361 mf_51 (as := [pI (nI x), pI (nI j), pI (nI 5)]) (rest := []) (d' := d9) (b' := b49) (ls0 := [some (pR (some RING)), some (pI (nI x)), some (pI (nI j)), some (pI (nI 5)), none, none]) rfl rfl rfl (Nat.le_of_ble_eq_true rfl) hW.1.1.1.1 rfl (by omega) rfl ?_
          refine s_ofM (v := σ 19 (36 * x + 6 * j + 5)) (by omega) hW (by omega) (by omega) (by omega) (by omega) (by decide) rfl ?_
          refine aft_v ?_
          refine mw_aload i_96_362 (L := QK) rfl ?_
          refine mw_iload i_96_363 (x := nI (18 * (x % 3) + (6 * j))) rfl ?_
          refine mw_const i_96_364 (v := nI 5) (by decide) ?_
          refine mw_iadd i_96_365 (w := nI (18 * (x % 3) + (6 * j) + 5)) (nI_add _ _) ?_
          refine mw_iald i_96_366 (jn := 18 * (x % 3) + (6 * j) + 5) (n := 54) (by omega) (by omega) hQ.2.2.2.2.1 (by decide) (v := σ 19 (36 * x + 6 * j + 5)) (g5 j (by omega)).2.2.2.2.2 ?_
          refine mw_icF i_96_367 (fun h => h rfl) ?_
          refine mw_const i_96_368 (v := nI 1) (by decide) ?_
          refine mw_goto i_96_369 ?_
          refine mw_istore i_96_371 (ls' := [some (pR (some RING)), some (pR (some QW)), some (pR (some QV)), some (pR (some QC)), some (pR (some QB)), some (pR (some QK)), some (pR (some QM)), some (pI (nI z)), some (pI (nI i)), some (pI (nI o)), some (pI (nI t)), some (pI (nI x)), some (pI (nI tt)), some (pI y13), some (pI (nI 1)), some (pI (nI (mn σ x))), some (pI (smI (fun j => σ 19 (36 * x + 6 * j + 3)) (j + 1))), some (pI (nI j)), some (pI (nI (18 * (x % 3) + (6 * j)))), some (pI (bI (σ 22 x = nI 1 ∧ σ 19 (36 * x + 6 * j + 5) = nI 1)))]) rfl (Nat.le_of_ble_eq_true rfl) ?_
          refine mw_iinc i_96_372 (x := nI j) (v := nI (j + 1)) (ls' := [some (pR (some RING)), some (pR (some QW)), some (pR (some QV)), some (pR (some QC)), some (pR (some QB)), some (pR (some QK)), some (pR (some QM)), some (pI (nI z)), some (pI (nI i)), some (pI (nI o)), some (pI (nI t)), some (pI (nI x)), some (pI (nI tt)), some (pI y13), some (pI (nI 1)), some (pI (nI (mn σ x))), some (pI (smI (fun j => σ 19 (36 * x + 6 * j + 3)) (j + 1))), some (pI (nI (j + 1))), some (pI (nI (18 * (x % 3) + (6 * j)))), some (pI (bI (σ 22 x = nI 1 ∧ σ 19 (36 * x + 6 * j + 5) = nI 1)))]) rfl (nI_add _ _) rfl ?_
          refine mw_goto i_96_373 ?_
          exact ih (j + 1) _ _ _ (by omega) (by omega) (by omega)
        refine mw_iload i_96_319 (x := bI (σ 22 x = nI 1 ∧ σ 19 (36 * x + 6 * j + 5) = nI 1)) rfl ?_
        refine mw_eqB i_96_320 rfl (fun c10 => ?_) (fun c10 => ?_)
        · skip
          rcases (hV.2.2.2.2.2.1 x (by omega)).2.2.2.2.1 j (by omega) |>.2.2.2.1 with h2 | h2
          · skip
            refine mw_aload i_96_323 (L := QK) rfl ?_
            refine mw_iload i_96_324 (x := nI (18 * (x % 3) + (6 * j))) rfl ?_
            refine mw_aload i_96_325 (L := QK) rfl ?_
            refine mw_iload i_96_326 (x := nI (18 * (x % 3) + (6 * j))) rfl ?_
            refine mw_const i_96_327 (v := nI 2) (by decide) ?_
            refine mw_iadd i_96_328 (w := nI (18 * (x % 3) + (6 * j) + 2)) (nI_add _ _) ?_
            refine mw_iald i_96_329 (jn := 18 * (x % 3) + (6 * j) + 2) (n := 54) (by omega) (by omega) hQ.2.2.2.2.1 (by decide) (v := nI 0) ((g5 j (by omega)).2.2.1.trans h2) ?_
            refine mw_iadd i_96_330 (w := nI (18 * (x % 3) + (6 * j) + 0)) (nI_add _ _) ?_
            refine mw_iald i_96_331 (jn := 18 * (x % 3) + (6 * j) + 0) (n := 54) (by omega) (by omega) hQ.2.2.2.2.1 (by decide) (v := σ 19 (36 * x + 6 * j)) (g5 j (by omega)).1 ?_
            exact mw_top (show σ 19 (36 * x + 6 * j) = omv σ x j 2 from ((om_2 c10).trans (if_pos h2)).symm) J6
          · skip
            refine mw_aload i_96_323 (L := QK) rfl ?_
            refine mw_iload i_96_324 (x := nI (18 * (x % 3) + (6 * j))) rfl ?_
            refine mw_aload i_96_325 (L := QK) rfl ?_
            refine mw_iload i_96_326 (x := nI (18 * (x % 3) + (6 * j))) rfl ?_
            refine mw_const i_96_327 (v := nI 2) (by decide) ?_
            refine mw_iadd i_96_328 (w := nI (18 * (x % 3) + (6 * j) + 2)) (nI_add _ _) ?_
            refine mw_iald i_96_329 (jn := 18 * (x % 3) + (6 * j) + 2) (n := 54) (by omega) (by omega) hQ.2.2.2.2.1 (by decide) (v := nI 1) ((g5 j (by omega)).2.2.1.trans h2) ?_
            refine mw_iadd i_96_330 (w := nI (18 * (x % 3) + (6 * j) + 1)) (nI_add _ _) ?_
            refine mw_iald i_96_331 (jn := 18 * (x % 3) + (6 * j) + 1) (n := 54) (by omega) (by omega) hQ.2.2.2.2.1 (by decide) (v := σ 19 (36 * x + 6 * j + 1)) (g5 j (by omega)).2.1 ?_
            exact mw_top (show σ 19 (36 * x + 6 * j + 1) = omv σ x j 2 from ((om_2 c10).trans (if_neg (by rw [h2]; decide))).symm) J6
        · skip
          refine mw_const i_96_321 (v := (-1)) (by decide) ?_
          refine mw_goto i_96_322 ?_
          exact mw_top (show (-1) = omv σ x j 2 from (om_1 c10).symm) J6
      refine mw_aload i_96_266 (L := QM) rfl ?_
      refine mw_const i_96_267 (v := nI 7) (by decide) ?_
      refine mw_iload i_96_268 (x := nI x) rfl ?_
      refine mw_const i_96_269 (v := nI 3) (by decide) ?_
      refine mw_irem i_96_270 (by decide) (w := nI (x % 3)) (pk_rem (by omega) (by omega) (by omega)) ?_
      refine mw_iadd i_96_271 (w := nI (7 + (x % 3))) (nI_add _ _) ?_
      refine mw_iald i_96_272 (jn := 7 + (x % 3)) (n := 18) (by omega) (by omega) hQ.2.2.2.2.2 (by decide) (v := σ 22 x) g4 ?_
      refine mw_const i_96_273 (v := nI 1) (by decide) ?_
      refine mw_ic i_96_274 (p := ¬ (σ 22 x) = (nI 1)) Iff.rfl (fun c11 => ?_) (fun c11 => ?_)
      · skip
        refine mw_const i_96_284 (v := nI 0) (by decide) ?_
        exact mw_top (show nI 0 = bI (σ 22 x = nI 1 ∧ σ 19 (36 * x + 6 * j + 5) = nI 1) from (bI_f (fun h => c11 h.1)).symm) J2
      · skip
        refine mw_aload i_96_275 (L := QK) rfl ?_
        refine mw_iload i_96_276 (x := nI (18 * (x % 3) + (6 * j))) rfl ?_
        refine mw_const i_96_277 (v := nI 5) (by decide) ?_
        refine mw_iadd i_96_278 (w := nI (18 * (x % 3) + (6 * j) + 5)) (nI_add _ _) ?_
        refine mw_iald i_96_279 (jn := 18 * (x % 3) + (6 * j) + 5) (n := 54) (by omega) (by omega) hQ.2.2.2.2.1 (by decide) (v := σ 19 (36 * x + 6 * j + 5)) (g5 j (by omega)).2.2.2.2.2 ?_
        refine mw_const i_96_280 (v := nI 1) (by decide) ?_
        refine mw_ic i_96_281 (p := ¬ (σ 19 (36 * x + 6 * j + 5)) = (nI 1)) Iff.rfl (fun c12 => ?_) (fun c12 => ?_)
        · skip
          refine mw_const i_96_284 (v := nI 0) (by decide) ?_
          exact mw_top (show nI 0 = bI (σ 22 x = nI 1 ∧ σ 19 (36 * x + 6 * j + 5) = nI 1) from (bI_f (fun h => c12 h.2)).symm) J2
        · skip
          refine mw_const i_96_282 (v := nI 1) (by decide) ?_
          refine mw_goto i_96_283 ?_
          exact mw_top (show nI 1 = bI (σ 22 x = nI 1 ∧ σ 19 (36 * x + 6 * j + 5) = nI 1) from (bI_t (⟨Classical.not_not.mp c11, Classical.not_not.mp c12⟩)).symm) J2
set_option maxRecDepth 20000 in
set_option maxHeartbeats 2000000 in
theorem c_isSame {d b : Nat} {K : KM} {I : IM} {R : RM} {Q : QT} {L n z : Nat} {σ : ST} (hd : 20 ≤ d) (hW9 : WQ L n σ K I R) (hn : n < 512) (hz : z < 1000000000)  (q : ∀ σ' K' I' R', WQ L (n + 1) σ' K' I' R' → Q (.inl (some (pI (nI 1)))) K' I' R') : Mw d (b + 1000) N_L_isSame 0 [some (pR (some RING)), some (pR (some QW)), some (pR (some QV)), some (pR (some QC)), some (pR (some QB)), some (pR (some QK)), some (pR (some QM)), some (pI (nI z)), none, none, none, none, none, none, none, none, none, none, none, none] [] K I R Q := by
  obtain ⟨d9, rfl⟩ : ∃ d9, d = d9 + 1 := ⟨d - 1, by omega⟩
  obtain ⟨hW, hL, hQ, hK0⟩ := hW9
  have hV := hW.2.2
  have hdd9 := hV.2.2.1.2
  have h10 := hL.2.2.2.2.2.2.2.2.2.1
  have hd0 := hV.2.2.1.1
  have hdn := hL.2.2.2.2.2.2.2.2.2.2.2
  obtain ⟨i, ei⟩ : ∃ i, i = z % 7 := ⟨_, rfl⟩
  obtain ⟨o, eo⟩ : ∃ o, o = z / 7 % 7 := ⟨_, rfl⟩
  obtain ⟨t, et⟩ : ∃ t, t = z / 49 % 4 := ⟨_, rfl⟩
  obtain ⟨x, ex⟩ : ∃ x, x = dn σ + z / 196 % 3 := ⟨_, rfl⟩
  obtain ⟨tt, ett⟩ : ∃ tt, tt = z / 588 % 2 := ⟨_, rfl⟩
  have hi7 : i < 7 := by omega
  have ho7 : o < 7 := by omega
  have ht4 : t < 4 := by omega
  have htt : tt < 2 := by omega
  have hx1 : dn σ ≤ x := by omega
  have hx2 : x < dn σ + 3 := by omega
  have htn := hL.2.2.2.2.2.2.2.2.2.2.1
  have hO6 : mO σ ≤ 2 * mn σ (dn σ) := cnt_le _ _
  obtain ⟨e17, hl9⟩ := hV.2.2.2.2.1 tt (by omega)
  obtain ⟨f1, f2, f3, f4, f5⟩ := LR_card hL (x := dn σ) (Nat.le_refl _) (by omega)
  obtain ⟨g1, g2, g3, g4, g5⟩ := LR_card hL (x := x) hx1 hx2
  refine mw_iload i_96_0 (x := nI z) rfl ?_
  refine mw_const i_96_1 (v := nI 7) (by decide) ?_
  refine mw_irem i_96_2 (by decide) (w := nI i) (by rw [ei]; exact pk_rem (by omega) (by decide) (by decide)) ?_
  refine mw_istore i_96_3 (ls' := [some (pR (some RING)), some (pR (some QW)), some (pR (some QV)), some (pR (some QC)), some (pR (some QB)), some (pR (some QK)), some (pR (some QM)), some (pI (nI z)), some (pI (nI i)), none, none, none, none, none, none, none, none, none, none, none]) rfl (Nat.le_of_ble_eq_true rfl) ?_
  refine mw_iload i_96_4 (x := nI z) rfl ?_
  refine mw_const i_96_5 (v := nI 7) (by decide) ?_
  refine mw_idiv i_96_6 (by decide) (w := nI (z / 7)) (pk_div (by omega) (by omega) (by omega)) ?_
  refine mw_const i_96_7 (v := nI 7) (by decide) ?_
  refine mw_irem i_96_8 (by decide) (w := nI o) (by rw [eo]; exact pk_rem (by omega) (by decide) (by decide)) ?_
  refine mw_istore i_96_9 (ls' := [some (pR (some RING)), some (pR (some QW)), some (pR (some QV)), some (pR (some QC)), some (pR (some QB)), some (pR (some QK)), some (pR (some QM)), some (pI (nI z)), some (pI (nI i)), some (pI (nI o)), none, none, none, none, none, none, none, none, none, none]) rfl (Nat.le_of_ble_eq_true rfl) ?_
  refine mw_iload i_96_10 (x := nI z) rfl ?_
  refine mw_const i_96_11 (v := nI 49) (by decide) ?_
  refine mw_idiv i_96_12 (by decide) (w := nI (z / 49)) (pk_div (by omega) (by omega) (by omega)) ?_
  refine mw_const i_96_13 (v := nI 4) (by decide) ?_
  refine mw_irem i_96_14 (by decide) (w := nI t) (by rw [et]; exact pk_rem (by omega) (by decide) (by decide)) ?_
  refine mw_istore i_96_15 (ls' := [some (pR (some RING)), some (pR (some QW)), some (pR (some QV)), some (pR (some QC)), some (pR (some QB)), some (pR (some QK)), some (pR (some QM)), some (pI (nI z)), some (pI (nI i)), some (pI (nI o)), some (pI (nI t)), none, none, none, none, none, none, none, none, none]) rfl (Nat.le_of_ble_eq_true rfl) ?_
  refine mw_aload i_96_16 (L := QM) rfl ?_
  refine mw_const i_96_17 (v := nI 0) (by decide) ?_
  refine mw_iald i_96_18 (jn := 0) (n := 18) (by omega) (by omega) hQ.2.2.2.2.2 (by decide) (v := nI (dn σ)) (hL.2.2.2.2.1.trans hd0) ?_
  refine mw_iload i_96_19 (x := nI z) rfl ?_
  refine mw_const i_96_20 (v := nI 196) (by decide) ?_
  refine mw_idiv i_96_21 (by decide) (w := nI (z / 196)) (pk_div (by omega) (by omega) (by omega)) ?_
  refine mw_const i_96_22 (v := nI 3) (by decide) ?_
  refine mw_irem i_96_23 (by decide) (w := nI ((z / 196) % 3)) (pk_rem (by omega) (by omega) (by omega)) ?_
  refine mw_iadd i_96_24 (w := nI x) (by rw [ex]; exact nI_add _ _) ?_
  refine mw_istore i_96_25 (ls' := [some (pR (some RING)), some (pR (some QW)), some (pR (some QV)), some (pR (some QC)), some (pR (some QB)), some (pR (some QK)), some (pR (some QM)), some (pI (nI z)), some (pI (nI i)), some (pI (nI o)), some (pI (nI t)), some (pI (nI x)), none, none, none, none, none, none, none, none]) rfl (Nat.le_of_ble_eq_true rfl) ?_
  refine mw_iload i_96_26 (x := nI z) rfl ?_
  refine mw_const i_96_27 (v := nI 588) (by decide) ?_
  refine mw_idiv i_96_28 (by decide) (w := nI (z / 588)) (pk_div (by omega) (by omega) (by omega)) ?_
  refine mw_const i_96_29 (v := nI 2) (by decide) ?_
  refine mw_irem i_96_30 (by decide) (w := nI tt) (by rw [ett]; exact pk_rem (by omega) (by decide) (by decide)) ?_
  refine mw_istore i_96_31 (ls' := [some (pR (some RING)), some (pR (some QW)), some (pR (some QV)), some (pR (some QC)), some (pR (some QB)), some (pR (some QK)), some (pR (some QM)), some (pI (nI z)), some (pI (nI i)), some (pI (nI o)), some (pI (nI t)), some (pI (nI x)), some (pI (nI tt)), none, none, none, none, none, none, none]) rfl (Nat.le_of_ble_eq_true rfl) ?_
  refine mw_const i_96_32 (v := nI 0) (by decide) ?_
  refine mw_istore i_96_33 (ls' := [some (pR (some RING)), some (pR (some QW)), some (pR (some QV)), some (pR (some QC)), some (pR (some QB)), some (pR (some QK)), some (pR (some QM)), some (pI (nI z)), some (pI (nI i)), some (pI (nI o)), some (pI (nI t)), some (pI (nI x)), some (pI (nI tt)), some (pI (nI 0)), none, none, none, none, none, none]) rfl (Nat.le_of_ble_eq_true rfl) ?_
  refine mw_const i_96_34 (v := nI 0) (by decide) ?_
  refine mw_istore i_96_35 (ls' := [some (pR (some RING)), some (pR (some QW)), some (pR (some QV)), some (pR (some QC)), some (pR (some QB)), some (pR (some QK)), some (pR (some QM)), some (pI (nI z)), some (pI (nI i)), some (pI (nI o)), some (pI (nI t)), some (pI (nI x)), some (pI (nI tt)), some (pI (nI 0)), some (pI (nI 0)), none, none, none, none, none]) rfl (Nat.le_of_ble_eq_true rfl) ?_
  refine c_sm_lp (b := b + 1000) hQ hL hi7 (fun u15 u16 u17 u18 u19 => ?_) 8 0 none none none none none (by omega) (by omega)
  refine mw_aload i_96_51 (L := RING) rfl ?_
  refine mw_callV i_96_52 mf_46 (as := []) (rest := []) (d' := d9) (b' := b + 1000) (ls0 := [some (pR (some RING))]) rfl rfl rfl (Nat.le_of_ble_eq_true rfl) hW.1.1.1.1 rfl rfl rfl ?_
  refine s_day hW ?_
  refine aft_v ?_
  refine mw_aload i_96_53 (L := QM) rfl ?_
  refine mw_const i_96_54 (v := nI 0) (by decide) ?_
  refine mw_iald i_96_55 (jn := 0) (n := 18) (by omega) (by omega) hQ.2.2.2.2.2 (by decide) (v := nI (dn σ)) (hL.2.2.2.2.1.trans hd0) ?_
  refine mw_icF i_96_56 (fun h => h rfl) ?_
  refine mw_aload i_96_57 (L := RING) rfl ?_
  refine mw_iload i_96_58 (x := nI i) rfl ?_
  refine mw_const i_96_59 (v := nI 0) (by decide) ?_
  refine mw_callV i_96_60 mf_47 (as := [pI (nI i), pI (nI 0)]) (rest := []) (d' := d9) (b' := b + 993) (ls0 := [some (pR (some RING)), some (pI (nI i)), some (pI (nI 0)), none]) rfl rfl rfl (Nat.le_of_ble_eq_true rfl) hW.1.1.1.1 rfl (by omega) rfl ?_
  refine s_ofW (v := σ 3 i) (by omega) hW (by omega) (by omega) (by omega) (by decide) rfl ?_
  refine aft_v ?_
  refine mw_aload i_96_61 (L := QW) rfl ?_
  refine mw_const i_96_62 (v := nI 9) (by decide) ?_
  refine mw_iload i_96_63 (x := nI i) rfl ?_
  refine mw_imul i_96_64 (w := nI (9 * i)) (pk_mul _ _) ?_
  refine mw_const i_96_65 (v := nI 2) (by decide) ?_
  refine mw_iadd i_96_66 (w := nI (9 * i + 2)) (nI_add _ _) ?_
  refine mw_iald i_96_67 (jn := 9 * i + 2) (n := 63) (by omega) (by omega) hQ.1 (by decide) (v := σ 3 i) (hL.1 i (by omega)).2.2.1 ?_
  refine mw_icF i_96_68 (fun h => h rfl) ?_
  refine mw_aload i_96_69 (L := RING) rfl ?_
  refine mw_iload i_96_70 (x := nI i) rfl ?_
  refine mw_const i_96_71 (v := nI 1) (by decide) ?_
  refine mw_callV i_96_72 mf_47 (as := [pI (nI i), pI (nI 1)]) (rest := []) (d' := d9) (b' := b + 986) (ls0 := [some (pR (some RING)), some (pI (nI i)), some (pI (nI 1)), none]) rfl rfl rfl (Nat.le_of_ble_eq_true rfl) hW.1.1.1.1 rfl (by omega) rfl ?_
  refine s_ofW (v := σ 5 i) (by omega) hW (by omega) (by omega) (by omega) (by decide) rfl ?_
  refine aft_v ?_
  refine mw_aload i_96_73 (L := QW) rfl ?_
  refine mw_const i_96_74 (v := nI 9) (by decide) ?_
  refine mw_iload i_96_75 (x := nI i) rfl ?_
  refine mw_imul i_96_76 (w := nI (9 * i)) (pk_mul _ _) ?_
  refine mw_const i_96_77 (v := nI 3) (by decide) ?_
  refine mw_iadd i_96_78 (w := nI (9 * i + 3)) (nI_add _ _) ?_
  refine mw_iald i_96_79 (jn := 9 * i + 3) (n := 63) (by omega) (by omega) hQ.1 (by decide) (v := σ 5 i) (hL.1 i (by omega)).2.2.2.1 ?_
  refine mw_icF i_96_80 (fun h => h rfl) ?_
  refine mw_aload i_96_81 (L := RING) rfl ?_
  refine mw_iload i_96_82 (x := nI i) rfl ?_
  refine mw_const i_96_83 (v := nI 2) (by decide) ?_
  refine mw_callV i_96_84 mf_47 (as := [pI (nI i), pI (nI 2)]) (rest := []) (d' := d9) (b' := b + 979) (ls0 := [some (pR (some RING)), some (pI (nI i)), some (pI (nI 2)), none]) rfl rfl rfl (Nat.le_of_ble_eq_true rfl) hW.1.1.1.1 rfl (by omega) rfl ?_
  refine s_ofW (v := owv σ i 2) (by omega) hW (by omega) (by omega) (by omega) (by decide) rfl ?_
  refine aft_v ?_
  have J1 : Mw (d9 + 1) (b + 979) 96 101 [some (pR (some RING)), some (pR (some QW)), some (pR (some QV)), some (pR (some QC)), some (pR (some QB)), some (pR (some QK)), some (pR (some QM)), some (pI (nI z)), some (pI (nI i)), some (pI (nI o)), some (pI (nI t)), some (pI (nI x)), some (pI (nI tt)), some (pI (smI (fun k => σ 13 (10 * i + k)) 7)), some (pI (nI 7)), u15, u16, u17, u18, u19] [pI (owv σ i 2), pI (owv σ i 2)] K I R Q := by
    refine mw_icF i_96_101 (fun h => h rfl) ?_
    refine mw_aload i_96_102 (L := RING) rfl ?_
    refine mw_iload i_96_103 (x := nI i) rfl ?_
    refine mw_const i_96_104 (v := nI 3) (by decide) ?_
    refine mw_callV i_96_105 mf_47 (as := [pI (nI i), pI (nI 3)]) (rest := []) (d' := d9) (b' := b + 972) (ls0 := [some (pR (some RING)), some (pI (nI i)), some (pI (nI 3)), none]) rfl rfl rfl (Nat.le_of_ble_eq_true rfl) hW.1.1.1.1 rfl (by omega) rfl ?_
    refine s_ofW (v := σ 7 i) (by omega) hW (by omega) (by omega) (by omega) (by decide) rfl ?_
    refine aft_v ?_
    refine mw_aload i_96_106 (L := QW) rfl ?_
    refine mw_const i_96_107 (v := nI 9) (by decide) ?_
    refine mw_iload i_96_108 (x := nI i) rfl ?_
    refine mw_imul i_96_109 (w := nI (9 * i)) (pk_mul _ _) ?_
    refine mw_const i_96_110 (v := nI 5) (by decide) ?_
    refine mw_iadd i_96_111 (w := nI (9 * i + 5)) (nI_add _ _) ?_
    refine mw_iald i_96_112 (jn := 9 * i + 5) (n := 63) (by omega) (by omega) hQ.1 (by decide) (v := σ 7 i) (hL.1 i (by omega)).2.2.2.2.2.1 ?_
    refine mw_icF i_96_113 (fun h => h rfl) ?_
    refine mw_aload i_96_114 (L := RING) rfl ?_
    refine mw_iload i_96_115 (x := nI i) rfl ?_
    refine mw_const i_96_116 (v := nI 4) (by decide) ?_
    refine mw_callV i_96_117 mf_47 (as := [pI (nI i), pI (nI 4)]) (rest := []) (d' := d9) (b' := b + 965) (ls0 := [some (pR (some RING)), some (pI (nI i)), some (pI (nI 4)), none]) rfl rfl rfl (Nat.le_of_ble_eq_true rfl) hW.1.1.1.1 rfl (by omega) rfl ?_
    refine s_ofW (v := smI (fun k => σ 13 (10 * i + k)) 7) (by omega) hW (by omega) (by omega) (by omega) (by decide) (ow_4 hV h10 hi7) ?_
    refine aft_v ?_
    refine mw_iload i_96_118 (x := smI (fun k => σ 13 (10 * i + k)) 7) rfl ?_
    refine mw_icF i_96_119 (fun h => h rfl) ?_
    refine mw_aload i_96_120 (L := RING) rfl ?_
    refine mw_iload i_96_121 (x := nI i) rfl ?_
    refine mw_const i_96_122 (v := nI 5) (by decide) ?_
    refine mw_callV i_96_123 mf_47 (as := [pI (nI i), pI (nI 5)]) (rest := []) (d' := d9) (b' := b + 958) (ls0 := [some (pR (some RING)), some (pI (nI i)), some (pI (nI 5)), none]) rfl rfl rfl (Nat.le_of_ble_eq_true rfl) hW.1.1.1.1 rfl (by omega) rfl ?_
    refine s_ofW (v := σ 8 i) (by omega) hW (by omega) (by omega) (by omega) (by decide) rfl ?_
    refine aft_v ?_
    refine mw_aload i_96_124 (L := QW) rfl ?_
    refine mw_const i_96_125 (v := nI 9) (by decide) ?_
    refine mw_iload i_96_126 (x := nI i) rfl ?_
    refine mw_imul i_96_127 (w := nI (9 * i)) (pk_mul _ _) ?_
    refine mw_const i_96_128 (v := nI 6) (by decide) ?_
    refine mw_iadd i_96_129 (w := nI (9 * i + 6)) (nI_add _ _) ?_
    refine mw_iald i_96_130 (jn := 9 * i + 6) (n := 63) (by omega) (by omega) hQ.1 (by decide) (v := σ 8 i) (hL.1 i (by omega)).2.2.2.2.2.2.1 ?_
    refine mw_icF i_96_131 (fun h => h rfl) ?_
    refine mw_aload i_96_132 (L := RING) rfl ?_
    refine mw_iload i_96_133 (x := nI i) rfl ?_
    refine mw_const i_96_134 (v := nI 6) (by decide) ?_
    refine mw_callV i_96_135 mf_47 (as := [pI (nI i), pI (nI 6)]) (rest := []) (d' := d9) (b' := b + 951) (ls0 := [some (pR (some RING)), some (pI (nI i)), some (pI (nI 6)), none]) rfl rfl rfl (Nat.le_of_ble_eq_true rfl) hW.1.1.1.1 rfl (by omega) rfl ?_
    refine s_ofW (v := σ 9 i) (by omega) hW (by omega) (by omega) (by omega) (by decide) rfl ?_
    refine aft_v ?_
    refine mw_aload i_96_136 (L := QW) rfl ?_
    refine mw_const i_96_137 (v := nI 9) (by decide) ?_
    refine mw_iload i_96_138 (x := nI i) rfl ?_
    refine mw_imul i_96_139 (w := nI (9 * i)) (pk_mul _ _) ?_
    refine mw_const i_96_140 (v := nI 7) (by decide) ?_
    refine mw_iadd i_96_141 (w := nI (9 * i + 7)) (nI_add _ _) ?_
    refine mw_iald i_96_142 (jn := 9 * i + 7) (n := 63) (by omega) (by omega) hQ.1 (by decide) (v := σ 9 i) (hL.1 i (by omega)).2.2.2.2.2.2.2.1 ?_
    refine mw_icF i_96_143 (fun h => h rfl) ?_
    refine mw_const i_96_144 (v := nI 1) (by decide) ?_
    refine mw_goto i_96_145 ?_
    refine mw_istore i_96_147 (ls' := [some (pR (some RING)), some (pR (some QW)), some (pR (some QV)), some (pR (some QC)), some (pR (some QB)), some (pR (some QK)), some (pR (some QM)), some (pI (nI z)), some (pI (nI i)), some (pI (nI o)), some (pI (nI t)), some (pI (nI x)), some (pI (nI tt)), some (pI (smI (fun k => σ 13 (10 * i + k)) 7)), some (pI (nI 1)), u15, u16, u17, u18, u19]) rfl (Nat.le_of_ble_eq_true rfl) ?_
    refine mw_iload i_96_148 (x := nI 1) rfl ?_
    refine mw_ifF i_96_149 (show ¬ (nI 1 = 0) by decide) ?_
    refine mw_aload i_96_150 (L := RING) rfl ?_
    refine mw_iload i_96_151 (x := nI t) rfl ?_
    refine mw_iload i_96_152 (x := nI i) rfl ?_
    refine mw_callV i_96_153 mf_48 (as := [pI (nI t), pI (nI i)]) (rest := []) (d' := d9) (b' := b + 944) (ls0 := [some (pR (some RING)), some (pI (nI t)), some (pI (nI i))]) rfl rfl rfl (Nat.le_of_ble_eq_true rfl) hW.1.1.1.1 rfl (by omega) rfl ?_
    refine s_love (by omega) hW (by omega) (by omega) ht4 (by omega) ?_
    refine aft_v ?_
    refine mw_aload i_96_154 (L := QV) rfl ?_
    refine mw_const i_96_155 (v := nI 7) (by decide) ?_
    refine mw_iload i_96_156 (x := nI t) rfl ?_
    refine mw_imul i_96_157 (w := nI (7 * t)) (pk_mul _ _) ?_
    refine mw_iload i_96_158 (x := nI i) rfl ?_
    refine mw_iadd i_96_159 (w := nI (7 * t + i)) (nI_add _ _) ?_
    refine mw_iald i_96_160 (jn := 7 * t + i) (n := 28) (by omega) (by omega) hQ.2.1 (by decide) (v := σ 4 (10 * t + i)) (hL.2.1 t (by omega) i (by omega)).1 ?_
    refine mw_icF i_96_161 (fun h => h rfl) ?_
    refine mw_aload i_96_162 (L := RING) rfl ?_
    refine mw_iload i_96_163 (x := nI t) rfl ?_
    refine mw_iload i_96_164 (x := nI i) rfl ?_
    refine mw_callV i_96_165 mf_49 (as := [pI (nI t), pI (nI i)]) (rest := []) (d' := d9) (b' := b + 937) (ls0 := [some (pR (some RING)), some (pI (nI t)), some (pI (nI i))]) rfl rfl rfl (Nat.le_of_ble_eq_true rfl) hW.1.1.1.1 rfl (by omega) rfl ?_
    refine s_worth (by omega) hW (by omega) (by omega) ht4 (by omega) ?_
    refine aft_v ?_
    refine mw_aload i_96_166 (L := QW) rfl ?_
    refine mw_aload i_96_167 (L := QV) rfl ?_
    refine mw_iload i_96_168 (x := nI t) rfl ?_
    refine mw_iload i_96_169 (x := nI i) rfl ?_
    refine mw_callS i_96_170 mf_81 (as := [pR (some QW), pR (some QV), pI (nI t), pI (nI i)]) (rest := [pI (wrt σ t i)]) (d' := d9) (b' := b + 937) (ls0 := [some (pR (some QW)), some (pR (some QV)), some (pI (nI t)), some (pI (nI i)), none, none]) rfl rfl rfl (Nat.le_of_ble_eq_true rfl) rfl rfl rfl ?_
    refine b_worth hQ hL (by omega) (by omega) ?_
    refine aft_v ?_
    refine mw_icF i_96_171 (fun h => h rfl) ?_
    refine mw_aload i_96_172 (L := RING) rfl ?_
    refine mw_iload i_96_173 (x := nI i) rfl ?_
    refine mw_iload i_96_174 (x := nI o) rfl ?_
    refine mw_callV i_96_175 mf_54 (as := [pI (nI i), pI (nI o)]) (rest := []) (d' := d9) (b' := b + 930) (ls0 := [some (pR (some RING)), some (pI (nI i)), some (pI (nI o))]) rfl rfl rfl (Nat.le_of_ble_eq_true rfl) hW.1.1.1.1 rfl (by omega) rfl ?_
    refine s_beat (by omega) hW (by omega) (by omega) (by omega) (by omega) ?_
    refine aft_v ?_
    refine mw_aload i_96_176 (L := QB) rfl ?_
    refine mw_const i_96_177 (v := nI 7) (by decide) ?_
    refine mw_iload i_96_178 (x := nI i) rfl ?_
    refine mw_imul i_96_179 (w := nI (7 * i)) (pk_mul _ _) ?_
    refine mw_iload i_96_180 (x := nI o) rfl ?_
    refine mw_iadd i_96_181 (w := nI (7 * i + o)) (nI_add _ _) ?_
    refine mw_iald i_96_182 (jn := 7 * i + o) (n := 49) (by omega) (by omega) hQ.2.2.2.1 (by decide) (v := σ 13 (10 * i + o)) (hL.2.2.2.1 i (by omega) o (by omega)) ?_
    refine mw_icF i_96_183 (fun h => h rfl) ?_
    refine mw_aload i_96_184 (L := RING) rfl ?_
    refine mw_iload i_96_185 (x := nI i) rfl ?_
    refine mw_iload i_96_186 (x := nI o) rfl ?_
    refine mw_callV i_96_187 mf_55 (as := [pI (nI i), pI (nI o)]) (rest := []) (d' := d9) (b' := b + 923) (ls0 := [some (pR (some RING)), some (pI (nI i)), some (pI (nI o)), none, none, none]) rfl rfl rfl (Nat.le_of_ble_eq_true rfl) hW.1.1.1.1 rfl (by omega) rfl ?_
    refine s_beatA (by omega) hW (by omega) (by omega) (by omega) (by omega) ?_
    refine aft_v ?_
    refine mw_aload i_96_188 (L := QB) rfl ?_
    refine mw_const i_96_189 (v := nI 7) (by decide) ?_
    refine mw_iload i_96_190 (x := nI i) rfl ?_
    refine mw_imul i_96_191 (w := nI (7 * i)) (pk_mul _ _) ?_
    refine mw_iload i_96_192 (x := nI o) rfl ?_
    refine mw_iadd i_96_193 (w := nI (7 * i + o)) (nI_add _ _) ?_
    refine mw_iald i_96_194 (jn := 7 * i + o) (n := 49) (by omega) (by omega) hQ.2.2.2.1 (by decide) (v := σ 13 (10 * i + o)) (hL.2.2.2.1 i (by omega) o (by omega)) ?_
    refine mw_icF i_96_195 (fun h => h rfl) ?_
    refine mw_aload i_96_196 (L := RING) rfl ?_
    refine mw_iload i_96_197 (x := nI t) rfl ?_
    refine mw_callV i_96_198 mf_56 (as := [pI (nI t)]) (rest := []) (d' := d9) (b' := b + 916) (ls0 := [some (pR (some RING)), some (pI (nI t))]) rfl rfl rfl (Nat.le_of_ble_eq_true rfl) hW.1.1.1.1 rfl (by omega) rfl ?_
    refine s_gate (by omega) hW (by omega) (by omega) ht4 ?_
    refine aft_v ?_
    refine mw_aload i_96_199 (L := QM) rfl ?_
    refine mw_const i_96_200 (v := nI 14) (by decide) ?_
    refine mw_iload i_96_201 (x := nI t) rfl ?_
    refine mw_iadd i_96_202 (w := nI (14 + t)) (nI_add _ _) ?_
    refine mw_iald i_96_203 (jn := 14 + t) (n := 18) (by omega) (by omega) hQ.2.2.2.2.2 (by decide) (v := σ 23 t) (hL.2.2.2.2.2.2.2.2.1 t (by omega)) ?_
    refine mw_icF i_96_204 (fun h => h rfl) ?_
    refine mw_aload i_96_205 (L := RING) rfl ?_
    refine mw_iload i_96_206 (x := nI tt) rfl ?_
    refine mw_callV i_96_207 mf_53 (as := [pI (nI tt)]) (rest := []) (d' := d9) (b' := b + 909) (ls0 := [some (pR (some RING)), some (pI (nI tt))]) rfl rfl rfl (Nat.le_of_ble_eq_true rfl) hW.1.1.1.1 rfl (by omega) rfl ?_
    refine s_champ (by omega) hW (by omega) (by omega) (by omega) ?_
    refine aft_v ?_
    refine mw_aload i_96_208 (L := QM) rfl ?_
    refine mw_const i_96_209 (v := nI 10) (by decide) ?_
    refine mw_iload i_96_210 (x := nI tt) rfl ?_
    refine mw_iadd i_96_211 (w := nI (10 + tt)) (nI_add _ _) ?_
    refine mw_iald i_96_212 (jn := 10 + tt) (n := 18) (by omega) (by omega) hQ.2.2.2.2.2 (by decide) (v := (chO σ tt + nI 1)) (hL.2.2.2.2.2.2.2.1 tt (by omega)).1 ?_
    refine mw_const i_96_213 (v := nI 1) (by decide) ?_
    refine mw_isub i_96_214 (w := chO σ tt) (Int32.add_sub_cancel _ _) ?_
    refine mw_icF i_96_215 (fun h => h rfl) ?_
    have J2 : ∀ b7, 800 ≤ b7 → Mw (d9 + 1) b7 96 241 [some (pR (some RING)), some (pR (some QW)), some (pR (some QV)), some (pR (some QC)), some (pR (some QB)), some (pR (some QK)), some (pR (some QM)), some (pI (nI z)), some (pI (nI i)), some (pI (nI o)), some (pI (nI t)), some (pI (nI x)), some (pI (nI tt)), some (pI (smI (fun k => σ 13 (10 * i + k)) 7)), some (pI (nI 1)), u15, u16, u17, u18, u19] [] K I R Q := by
      intro b7 hb7
      refine mw_const i_96_241 (v := nI 1) (by decide) ?_
      refine mw_goto i_96_242 ?_
      refine mw_istore i_96_244 (ls' := [some (pR (some RING)), some (pR (some QW)), some (pR (some QV)), some (pR (some QC)), some (pR (some QB)), some (pR (some QK)), some (pR (some QM)), some (pI (nI z)), some (pI (nI i)), some (pI (nI o)), some (pI (nI t)), some (pI (nI x)), some (pI (nI tt)), some (pI (smI (fun k => σ 13 (10 * i + k)) 7)), some (pI (nI 1)), u15, u16, u17, u18, u19]) rfl (Nat.le_of_ble_eq_true rfl) ?_
      refine mw_aload i_96_245 (L := QM) rfl ?_
      refine mw_iload i_96_246 (x := nI x) rfl ?_
      refine mw_callS i_96_247 mf_79 (as := [pR (some QM), pI (nI x)]) (rest := []) (d' := d9) (b' := b7) (ls0 := [some (pR (some QM)), some (pI (nI x))]) rfl rfl rfl (Nat.le_of_ble_eq_true rfl) rfl rfl rfl ?_
      refine b_many hQ hL hx1 hx2 (by omega) ?_
      refine aft_v ?_
      refine mw_istore i_96_248 (ls' := [some (pR (some RING)), some (pR (some QW)), some (pR (some QV)), some (pR (some QC)), some (pR (some QB)), some (pR (some QK)), some (pR (some QM)), some (pI (nI z)), some (pI (nI i)), some (pI (nI o)), some (pI (nI t)), some (pI (nI x)), some (pI (nI tt)), some (pI (smI (fun k => σ 13 (10 * i + k)) 7)), some (pI (nI 1)), some (pI (nI (mn σ x))), u16, u17, u18, u19]) rfl (Nat.le_of_ble_eq_true rfl) ?_
      refine mw_const i_96_249 (v := nI 0) (by decide) ?_
      refine mw_istore i_96_250 (ls' := [some (pR (some RING)), some (pR (some QW)), some (pR (some QV)), some (pR (some QC)), some (pR (some QB)), some (pR (some QK)), some (pR (some QM)), some (pI (nI z)), some (pI (nI i)), some (pI (nI o)), some (pI (nI t)), some (pI (nI x)), some (pI (nI tt)), some (pI (smI (fun k => σ 13 (10 * i + k)) 7)), some (pI (nI 1)), some (pI (nI (mn σ x))), some (pI (nI 0)), u17, u18, u19]) rfl (Nat.le_of_ble_eq_true rfl) ?_
      refine mw_const i_96_251 (v := nI 0) (by decide) ?_
      refine mw_istore i_96_252 (ls' := [some (pR (some RING)), some (pR (some QW)), some (pR (some QV)), some (pR (some QC)), some (pR (some QB)), some (pR (some QK)), some (pR (some QM)), some (pI (nI z)), some (pI (nI i)), some (pI (nI o)), some (pI (nI t)), some (pI (nI x)), some (pI (nI tt)), some (pI (smI (fun k => σ 13 (10 * i + k)) 7)), some (pI (nI 1)), some (pI (nI (mn σ x))), some (pI (nI 0)), some (pI (nI 0)), u18, u19]) rfl (Nat.le_of_ble_eq_true rfl) ?_
      refine c_sm_m (by omega) hQ hW hL hn hx1 hx2 (by omega) (fun b8 v18 v19 hb8 => ?_) (mn σ x + 1) 0 _ _ _ (by omega) (by omega) (by omega)
      refine mw_iload i_96_374 (x := nI 1) rfl ?_
      refine mw_ifF i_96_375 (show ¬ (nI 1 = 0) by decide) ?_
      refine mw_aload i_96_376 (L := RING) rfl ?_
      refine mw_iload i_96_377 (x := nI x) rfl ?_
      refine mw_const i_96_378 (v := nI 0) (by decide) ?_
      obtain ⟨b43, rfl⟩ : ∃ b43, b8 = b43 + 7 := ⟨b8 - 7, by omega⟩
      refine mw_callV i_96_379 mf_50 (as := [pI (nI x), pI (nI 0)]) (rest := []) (d' := d9) (b' := b43) (ls0 := [some (pR (some RING)), some (pI (nI x)), some (pI (nI 0)), none]) rfl rfl rfl (Nat.le_of_ble_eq_true rfl) hW.1.1.1.1 rfl (by omega) rfl ?_
      refine s_ofC (v := ocv σ x 0) (by omega) hW (by omega) (by omega) (by omega) (by decide) rfl ?_
      refine aft_v ?_
      have J4 : Mw (d9 + 1) b43 96 391 [some (pR (some RING)), some (pR (some QW)), some (pR (some QV)), some (pR (some QC)), some (pR (some QB)), some (pR (some QK)), some (pR (some QM)), some (pI (nI z)), some (pI (nI i)), some (pI (nI o)), some (pI (nI t)), some (pI (nI x)), some (pI (nI tt)), some (pI (smI (fun k => σ 13 (10 * i + k)) 7)), some (pI (nI 1)), some (pI (nI (mn σ x))), some (pI (smI (fun j => σ 19 (36 * x + 6 * j + 3)) (mn σ x))), some (pI (nI (mn σ x))), v18, v19] [pI (ocv σ x 0), pI (ocv σ x 0)] K I R Q := by
        refine mw_icF i_96_391 (fun h => h rfl) ?_
        refine mw_aload i_96_392 (L := RING) rfl ?_
        refine mw_iload i_96_393 (x := nI x) rfl ?_
        refine mw_const i_96_394 (v := nI 1) (by decide) ?_
        obtain ⟨b45, rfl⟩ : ∃ b45, b43 = b45 + 7 := ⟨b43 - 7, by omega⟩
        refine mw_callV i_96_395 mf_50 (as := [pI (nI x), pI (nI 1)]) (rest := []) (d' := d9) (b' := b45) (ls0 := [some (pR (some RING)), some (pI (nI x)), some (pI (nI 1)), none]) rfl rfl rfl (Nat.le_of_ble_eq_true rfl) hW.1.1.1.1 rfl (by omega) rfl ?_
        refine s_ofC (v := nI (mn σ x)) (by omega) hW (by omega) (by omega) (by omega) (by decide) rfl ?_
        refine aft_v ?_
        refine mw_iload i_96_396 (x := nI (mn σ x)) rfl ?_
        refine mw_icF i_96_397 (fun h => h rfl) ?_
        refine mw_aload i_96_398 (L := RING) rfl ?_
        refine mw_iload i_96_399 (x := nI x) rfl ?_
        refine mw_const i_96_400 (v := nI 2) (by decide) ?_
        obtain ⟨b46, rfl⟩ : ∃ b46, b45 = b46 + 7 := ⟨b45 - 7, by omega⟩
        refine mw_callV i_96_401 mf_50 (as := [pI (nI x), pI (nI 2)]) (rest := []) (d' := d9) (b' := b46) (ls0 := [some (pR (some RING)), some (pI (nI x)), some (pI (nI 2)), none]) rfl rfl rfl (Nat.le_of_ble_eq_true rfl) hW.1.1.1.1 rfl (by omega) rfl ?_
        refine s_ofC (v := smI (fun j => σ 19 (36 * x + 6 * j + 3)) (mn σ x)) (by omega) hW (by omega) (by omega) (by omega) (by decide) rfl ?_
        refine aft_v ?_
        refine mw_iload i_96_402 (x := smI (fun j => σ 19 (36 * x + 6 * j + 3)) (mn σ x)) rfl ?_
        refine mw_icF i_96_403 (fun h => h rfl) ?_
        refine mw_aload i_96_404 (L := RING) rfl ?_
        refine mw_iload i_96_405 (x := nI x) rfl ?_
        refine mw_const i_96_406 (v := nI 3) (by decide) ?_
        obtain ⟨b47, rfl⟩ : ∃ b47, b46 = b47 + 7 := ⟨b46 - 7, by omega⟩
        refine mw_callV i_96_407 mf_50 (as := [pI (nI x), pI (nI 3)]) (rest := []) (d' := d9) (b' := b47) (ls0 := [some (pR (some RING)), some (pI (nI x)), some (pI (nI 3)), none]) rfl rfl rfl (Nat.le_of_ble_eq_true rfl) hW.1.1.1.1 rfl (by omega) rfl ?_
        refine s_ofC (v := σ 22 x) (by omega) hW (by omega) (by omega) (by omega) (by decide) rfl ?_
        refine aft_v ?_
        refine mw_aload i_96_408 (L := QM) rfl ?_
        refine mw_const i_96_409 (v := nI 7) (by decide) ?_
        refine mw_iload i_96_410 (x := nI x) rfl ?_
        refine mw_const i_96_411 (v := nI 3) (by decide) ?_
        refine mw_irem i_96_412 (by decide) (w := nI (x % 3)) (pk_rem (by omega) (by omega) (by omega)) ?_
        refine mw_iadd i_96_413 (w := nI (7 + (x % 3))) (nI_add _ _) ?_
        refine mw_iald i_96_414 (jn := 7 + (x % 3)) (n := 18) (by omega) (by omega) hQ.2.2.2.2.2 (by decide) (v := σ 22 x) g4 ?_
        refine mw_icF i_96_415 (fun h => h rfl) ?_
        refine mw_const i_96_416 (v := nI 1) (by decide) ?_
        refine mw_goto i_96_417 ?_
        refine mw_istore i_96_419 (ls' := [some (pR (some RING)), some (pR (some QW)), some (pR (some QV)), some (pR (some QC)), some (pR (some QB)), some (pR (some QK)), some (pR (some QM)), some (pI (nI z)), some (pI (nI i)), some (pI (nI o)), some (pI (nI t)), some (pI (nI x)), some (pI (nI tt)), some (pI (smI (fun k => σ 13 (10 * i + k)) 7)), some (pI (nI 1)), some (pI (nI (mn σ x))), some (pI (smI (fun j => σ 19 (36 * x + 6 * j + 3)) (mn σ x))), some (pI (nI (mn σ x))), v18, v19]) rfl (Nat.le_of_ble_eq_true rfl) ?_
        refine mw_aload i_96_420 (L := QW) rfl ?_
        refine mw_aload i_96_421 (L := QK) rfl ?_
        refine mw_aload i_96_422 (L := QM) rfl ?_
        refine mw_callS i_96_423 mf_87 (as := [pR (some QW), pR (some QK), pR (some QM)]) (rest := []) (d' := d9) (b' := b47) (ls0 := [some (pR (some QW)), some (pR (some QK)), some (pR (some QM)), none, none, none]) rfl rfl rfl (Nat.le_of_ble_eq_true rfl) rfl rfl rfl ?_
        refine b_opens (by omega) hQ hL hV ?_
        refine aft_v ?_
        refine mw_istore i_96_424 (ls' := [some (pR (some RING)), some (pR (some QW)), some (pR (some QV)), some (pR (some QC)), some (pR (some QB)), some (pR (some QK)), some (pR (some QM)), some (pI (nI z)), some (pI (nI i)), some (pI (nI o)), some (pI (nI t)), some (pI (nI x)), some (pI (nI tt)), some (pI (smI (fun k => σ 13 (10 * i + k)) 7)), some (pI (nI 1)), some (pI (nI (mn σ x))), some (pI (smI (fun j => σ 19 (36 * x + 6 * j + 3)) (mn σ x))), some (pI (nI (bs (oP σ) 6))), v18, v19]) rfl (Nat.le_of_ble_eq_true rfl) ?_
        refine mw_iload i_96_425 (x := nI z) rfl ?_
        refine mw_const i_96_426 (v := nI 1176) (by decide) ?_
        refine mw_idiv i_96_427 (by decide) (w := nI (z / 1176)) (pk_div (by omega) (by omega) (by omega)) ?_
        refine mw_const i_96_428 (v := nI 2) (by decide) ?_
        refine mw_irem i_96_429 (by decide) (w := nI ((z / 1176) % 2)) (pk_rem (by omega) (by omega) (by omega)) ?_
        refine mw_if i_96_430 (p := ¬ (nI ((z / 1176) % 2)) = nI 0) Iff.rfl (fun c8 => ?_) (fun c8 => ?_)
        · skip
          refine mw_iload i_96_480 (x := nI 1) rfl ?_
          refine mw_iret i_96_481 (x := nI 1) (fun _ => (by decide)) ?_
          exact q σ K I R ⟨CW_up hW, LR_n hL (Nat.le_succ n), hQ, hK0⟩
        · skip
          refine mw_aload i_96_431 (L := QM) rfl ?_
          refine mw_aload i_96_432 (L := QM) rfl ?_
          refine mw_const i_96_433 (v := nI 0) (by decide) ?_
          refine mw_iald i_96_434 (jn := 0) (n := 18) (by omega) (by omega) hQ.2.2.2.2.2 (by decide) (v := nI (dn σ)) (hL.2.2.2.2.1.trans hd0) ?_
          refine mw_callS i_96_435 mf_79 (as := [pR (some QM), pI (nI (dn σ))]) (rest := []) (d' := d9) (b' := b47) (ls0 := [some (pR (some QM)), some (pI (nI (dn σ)))]) rfl rfl rfl (Nat.le_of_ble_eq_true rfl) rfl rfl rfl ?_
          refine b_many hQ hL (Nat.le_refl _) (by omega) (by omega) ?_
          refine aft_v ?_
          refine mw_if i_96_436 (p := (nI (mn σ (dn σ))) ≤ nI 0) Iff.rfl (fun c9 => ?_) (fun c9 => ?_)
          · skip
            refine mw_iload i_96_480 (x := nI 1) rfl ?_
            refine mw_iret i_96_481 (x := nI 1) (fun _ => (by decide)) ?_
            exact q σ K I R ⟨CW_up hW, LR_n hL (Nat.le_succ n), hQ, hK0⟩
          · skip
            refine mw_aload i_96_437 (L := QM) rfl ?_
            refine mw_const i_96_438 (v := nI 7) (by decide) ?_
            refine mw_aload i_96_439 (L := QM) rfl ?_
            refine mw_const i_96_440 (v := nI 0) (by decide) ?_
            refine mw_iald i_96_441 (jn := 0) (n := 18) (by omega) (by omega) hQ.2.2.2.2.2 (by decide) (v := nI (dn σ)) (hL.2.2.2.2.1.trans hd0) ?_
            refine mw_const i_96_442 (v := nI 3) (by decide) ?_
            refine mw_irem i_96_443 (by decide) (w := nI ((dn σ) % 3)) (pk_rem (by omega) (by omega) (by omega)) ?_
            refine mw_iadd i_96_444 (w := nI (7 + ((dn σ) % 3))) (nI_add _ _) ?_
            refine mw_iald i_96_445 (jn := 7 + ((dn σ) % 3)) (n := 18) (by omega) (by omega) hQ.2.2.2.2.2 (by decide) (v := σ 22 (dn σ)) f4 ?_
            refine mw_if i_96_446 (p := ¬ (σ 22 (dn σ)) = nI 0) Iff.rfl (fun c10 => ?_) (fun c10 => ?_)
            · skip
              refine mw_iload i_96_480 (x := nI 1) rfl ?_
              refine mw_iret i_96_481 (x := nI 1) (fun _ => (by decide)) ?_
              exact q σ K I R ⟨CW_up hW, LR_n hL (Nat.le_succ n), hQ, hK0⟩
            · skip
              refine mw_iload i_96_447 (x := nI (bs (oP σ) 6)) rfl ?_
              refine mw_callS i_96_448 mf_88 (as := [pI (nI (bs (oP σ) 6))]) (rest := []) (d' := d9) (b' := b47) (ls0 := [some (pI (nI (bs (oP σ) 6))), none, none]) rfl rfl rfl (Nat.le_of_ble_eq_true rfl) rfl rfl rfl ?_
              refine a_count ?_
              rw [cnt6 hL]
              refine aft_v ?_
              refine mw_const i_96_449 (v := nI 4) (by decide) ?_
              refine mw_ic i_96_450 (p := 4 < (mO σ)) (nI_ltI (by omega) (by omega)) (fun c11 => ?_) (fun c11 => ?_)
              · skip
                refine mw_iload i_96_480 (x := nI 1) rfl ?_
                refine mw_iret i_96_481 (x := nI 1) (fun _ => (by decide)) ?_
                exact q σ K I R ⟨CW_up hW, LR_n hL (Nat.le_succ n), hQ, hK0⟩
              · skip
                have hmn0 : ¬ mn σ (dn σ) = 0 := fun h => c9 (by rw [h]; exact nI_le (Nat.le_refl _) (by decide))
                have h22 : σ 22 (dn σ) = nI 0 := Classical.not_not.mp c10
                have hO4 : mO σ ≤ 4 := by omega
                have hmok : mOK σ := ⟨hmn0, h22, hO4⟩
                refine mw_iload i_96_451 (x := nI 1) rfl ?_
                refine mw_ifF i_96_452 (show ¬ (nI 1 = 0) by decide) ?_
                refine mw_aload i_96_453 (L := QW) rfl ?_
                refine mw_aload i_96_454 (L := QV) rfl ?_
                refine mw_aload i_96_455 (L := QC) rfl ?_
                refine mw_aload i_96_456 (L := QK) rfl ?_
                refine mw_aload i_96_457 (L := QM) rfl ?_
                refine mw_iload i_96_458 (x := nI (bs (oP σ) 6)) rfl ?_
                refine mw_aload i_96_459 (L := QW) rfl ?_
                refine mw_aload i_96_460 (L := QV) rfl ?_
                refine mw_aload i_96_461 (L := QC) rfl ?_
                refine mw_aload i_96_462 (L := QK) rfl ?_
                refine mw_aload i_96_463 (L := QM) rfl ?_
                refine mw_iload i_96_464 (x := nI (bs (oP σ) 6)) rfl ?_
                refine mw_callSW i_96_465 mf_91 (as := [pR (some QW), pR (some QV), pR (some QC), pR (some QK), pR (some QM), pI (nI (bs (oP σ) 6))]) (rest := [pI (nI (bs (oP σ) 6)), pR (some QM), pR (some QK), pR (some QC), pR (some QV), pR (some QW)]) (d' := d9) (b' := b47) (ls0 := [some (pR (some QW)), some (pR (some QV)), some (pR (some QC)), some (pR (some QK)), some (pR (some QM)), some (pI (nI (bs (oP σ) 6))), none, none, none, none, none, none, none, none]) rfl rfl rfl (Nat.le_of_ble_eq_true rfl) rfl rfl rfl rfl ?_
                refine b_best (by omega) hQ hL hV hmn0 hO4 ?_
                refine aft_v ?_
                refine mw_callS i_96_466 mf_89 (as := [pR (some QW), pR (some QV), pR (some QC), pR (some QK), pR (some QM), pI (nI (bs (oP σ) 6)), pI (nI (en (dW σ (bC σ (twn σ (dn σ)))) 6))]) (rest := []) (d' := d9) (b' := b47) (ls0 := [some (pR (some QW)), some (pR (some QV)), some (pR (some QC)), some (pR (some QK)), some (pR (some QM)), some (pI (nI (bs (oP σ) 6))), some (pI (nI (en (dW σ (bC σ (twn σ (dn σ)))) 6))), none, none, none, none, none, none, none, none]) rfl rfl rfl (Nat.le_of_ble_eq_true rfl) rfl rfl rfl ?_
                refine b_sumOf (by omega) hQ hL hV hmn0 (fun k => by rw [← h10]; exact dig_le) ?_
                rw [Vv_bC]
                refine aft_v ?_
                refine mw_istore i_96_467 (ls' := [some (pR (some RING)), some (pR (some QW)), some (pR (some QV)), some (pR (some QC)), some (pR (some QB)), some (pR (some QK)), some (pR (some QM)), some (pI (nI z)), some (pI (nI i)), some (pI (nI o)), some (pI (nI t)), some (pI (nI x)), some (pI (nI tt)), some (pI (smI (fun k => σ 13 (10 * i + k)) 7)), some (pI (nI 1)), some (pI (nI (mn σ x))), some (pI (smI (fun j => σ 19 (36 * x + 6 * j + 3)) (mn σ x))), some (pI (nI (bs (oP σ) 6))), some (pI (bS σ (twn σ (dn σ)))), v19]) rfl (Nat.le_of_ble_eq_true rfl) ?_
                refine mw_aload i_96_468 (L := RING) rfl ?_
                obtain ⟨b52, rfl⟩ : ∃ b52, b47 = b52 + 7 := ⟨b47 - 7, by omega⟩
                refine mw_callV i_96_469 mf_57 (as := []) (rest := []) (d' := d9) (b' := b52) (ls0 := [some (pR (some RING))]) rfl rfl rfl (Nat.le_of_ble_eq_true rfl) hW.1.1.1.1 rfl (by omega) rfl ?_
                refine k_mending (by omega) hW (fun h => absurd hmok h) (fun _ I8 R8 hF8 hR8 hW8 => ?_)
                refine aft_v ?_
                refine mw_iload i_96_470 (x := bS σ (twn σ (dn σ))) rfl ?_
                refine mw_icF i_96_471 (fun h => h rfl) ?_
                refine mw_aload i_96_472 (L := RING) rfl ?_
                obtain ⟨b53, rfl⟩ : ∃ b53, b52 = b53 + 7 := ⟨b52 - 7, by omega⟩
                refine mw_callV i_96_473 mf_58 (as := []) (rest := []) (d' := d9) (b' := b53) (ls0 := [some (pR (some RING))]) rfl rfl rfl (Nat.le_of_ble_eq_true rfl) hW.1.1.1.1 rfl (by omega) rfl ?_
                refine k_mendingAnew (by omega) hW8 (fun h => absurd hmok h) (fun _ I9 R9 hF9 hR9 hW9 => ?_)
                refine aft_v ?_
                refine mw_iload i_96_474 (x := bS σ (twn σ (dn σ))) rfl ?_
                refine mw_icF i_96_475 (fun h => h rfl) ?_
                refine mw_const i_96_476 (v := nI 1) (by decide) ?_
                refine mw_goto i_96_477 ?_
                refine mw_istore i_96_479 (ls' := [some (pR (some RING)), some (pR (some QW)), some (pR (some QV)), some (pR (some QC)), some (pR (some QB)), some (pR (some QK)), some (pR (some QM)), some (pI (nI z)), some (pI (nI i)), some (pI (nI o)), some (pI (nI t)), some (pI (nI x)), some (pI (nI tt)), some (pI (smI (fun k => σ 13 (10 * i + k)) 7)), some (pI (nI 1)), some (pI (nI (mn σ x))), some (pI (smI (fun j => σ 19 (36 * x + 6 * j + 3)) (mn σ x))), some (pI (nI (bs (oP σ) 6))), some (pI (bS σ (twn σ (dn σ)))), v19]) rfl (Nat.le_of_ble_eq_true rfl) ?_
                refine mw_iload i_96_480 (x := nI 1) rfl ?_
                refine mw_iret i_96_481 (x := nI 1) (fun _ => (by decide)) ?_
                exact q σ K I9 R9 ⟨CW_up hW9, LR_n (LR_C0 hL (FrC_tr (FrC_N hF8) (FrC_N hF9))) (Nat.le_succ n), hQ, hK0⟩
      refine mw_iload i_96_380 (x := nI (mn σ x)) rfl ?_
      refine mw_if i_96_381 (p := ¬ (nI (mn σ x)) = nI 0) Iff.rfl (fun c14 => ?_) (fun c14 => ?_)
      · skip
        refine mw_aload i_96_384 (L := QM) rfl ?_
        refine mw_const i_96_385 (v := nI 4) (by decide) ?_
        refine mw_iload i_96_386 (x := nI x) rfl ?_
        refine mw_const i_96_387 (v := nI 3) (by decide) ?_
        refine mw_irem i_96_388 (by decide) (w := nI (x % 3)) (pk_rem (by omega) (by omega) (by omega)) ?_
        refine mw_iadd i_96_389 (w := nI (4 + (x % 3))) (nI_add _ _) ?_
        refine mw_iald i_96_390 (jn := 4 + (x % 3)) (n := 18) (by omega) (by omega) hQ.2.2.2.2.2 (by decide) (v := σ 21 x) (g3 (fun h => c14 (by rw [h]))) ?_
        exact mw_top (show σ 21 x = ocv σ x 0 from (show ocv σ x 0 = σ 21 x from if_neg (fun h => c14 (by rw [h]))).symm) J4
      · skip
        refine mw_const i_96_382 (v := (-1)) (by decide) ?_
        refine mw_goto i_96_383 ?_
        exact mw_top (show (-1) = ocv σ x 0 from (show ocv σ x 0 = (-1) from if_pos (nI_inj (Classical.not_not.mp c14) (by omega) (by decide))).symm) J4
    refine mw_aload i_96_216 (L := QM) rfl ?_
    refine mw_const i_96_217 (v := nI 12) (by decide) ?_
    refine mw_iload i_96_218 (x := nI tt) rfl ?_
    refine mw_iadd i_96_219 (w := nI (12 + tt)) (nI_add _ _) ?_
    refine mw_iald i_96_220 (jn := 12 + tt) (n := 18) (by omega) (by omega) hQ.2.2.2.2.2 (by decide) (v := σ 17 tt) (hL.2.2.2.2.2.2.2.1 tt (by omega)).2.1 ?_
    refine mw_if i_96_221 (p := (σ 17 tt) = nI 0) Iff.rfl (fun c15 => ?_) (fun c15 => ?_)
    · skip
      exact J2 _ (by omega)
    · skip
      refine mw_aload i_96_222 (L := RING) rfl ?_
      refine mw_iload i_96_223 (x := nI tt) rfl ?_
      refine mw_aload i_96_224 (L := QM) rfl ?_
      refine mw_const i_96_225 (v := nI 12) (by decide) ?_
      refine mw_iload i_96_226 (x := nI tt) rfl ?_
      refine mw_iadd i_96_227 (w := nI (12 + tt)) (nI_add _ _) ?_
      refine mw_iald i_96_228 (jn := 12 + tt) (n := 18) (by omega) (by omega) hQ.2.2.2.2.2 (by decide) (v := σ 17 tt) (hL.2.2.2.2.2.2.2.1 tt (by omega)).2.1 ?_
      refine mw_const i_96_229 (v := nI 1) (by decide) ?_
      refine mw_isub i_96_230 (w := nI (lnO σ tt - 1)) (by rw [e17]; exact pk_sub (by have := c15; rw [e17] at this; exact Nat.pos_of_ne_zero (fun e => this (by rw [e])))) ?_
      refine mw_const i_96_231 (v := nI 0) (by decide) ?_
      refine mw_callV i_96_232 mf_52 (as := [pI (nI tt), pI (nI (lnO σ tt - 1)), pI (nI 0)]) (rest := []) (d' := d9) (b' := b + 902) (ls0 := [some (pR (some RING)), some (pI (nI tt)), some (pI (nI (lnO σ tt - 1))), some (pI (nI 0))]) rfl rfl rfl (Nat.le_of_ble_eq_true rfl) hW.1.1.1.1 rfl (by omega) rfl ?_
      refine s_lin (by omega) hW (by omega) (by omega) (by omega) c15 ?_
      refine aft_v ?_
      refine mw_aload i_96_233 (L := QM) rfl ?_
      refine mw_const i_96_234 (v := nI 10) (by decide) ?_
      refine mw_iload i_96_235 (x := nI tt) rfl ?_
      refine mw_iadd i_96_236 (w := nI (10 + tt)) (nI_add _ _) ?_
      refine mw_iald i_96_237 (jn := 10 + tt) (n := 18) (by omega) (by omega) hQ.2.2.2.2.2 (by decide) (v := (chO σ tt + nI 1)) (hL.2.2.2.2.2.2.2.1 tt (by omega)).1 ?_
      refine mw_const i_96_238 (v := nI 1) (by decide) ?_
      refine mw_isub i_96_239 (w := chO σ tt) (Int32.add_sub_cancel _ _) ?_
      refine mw_icF i_96_240 (fun h => h rfl) ?_
      exact J2 _ (by omega)
  refine mw_aload i_96_85 (L := QW) rfl ?_
  refine mw_iload i_96_86 (x := nI i) rfl ?_
  refine mw_aload i_96_87 (L := QM) rfl ?_
  refine mw_const i_96_88 (v := nI 0) (by decide) ?_
  refine mw_iald i_96_89 (jn := 0) (n := 18) (by omega) (by omega) hQ.2.2.2.2.2 (by decide) (v := nI (dn σ)) (hL.2.2.2.2.1.trans hd0) ?_
  refine mw_callS i_96_90 mf_80 (as := [pR (some QW), pI (nI i), pI (nI (dn σ))]) (rest := [pI (owv σ i 2)]) (d' := d9) (b' := b + 979) (ls0 := [some (pR (some QW)), some (pI (nI i)), some (pI (nI (dn σ)))]) rfl rfl rfl (Nat.le_of_ble_eq_true rfl) rfl rfl rfl ?_
  refine b_isHurt hQ hL (by omega) ?_
  refine aft_v ?_
  refine mw_eqB i_96_91 rfl (fun c16 => ?_) (fun c16 => ?_)
  · skip
    refine mw_const i_96_100 (v := nI 0) (by decide) ?_
    exact mw_top (show nI 0 = owv σ i 2 from (show owv σ i 2 = nI 0 from if_neg c16).symm) J1
  · skip
    refine mw_aload i_96_92 (L := QW) rfl ?_
    refine mw_const i_96_93 (v := nI 9) (by decide) ?_
    refine mw_iload i_96_94 (x := nI i) rfl ?_
    refine mw_imul i_96_95 (w := nI (9 * i)) (pk_mul _ _) ?_
    refine mw_const i_96_96 (v := nI 4) (by decide) ?_
    refine mw_iadd i_96_97 (w := nI (9 * i + 4)) (nI_add _ _) ?_
    refine mw_iald i_96_98 (jn := 9 * i + 4) (n := 63) (by omega) (by omega) hQ.1 (by decide) (v := σ 6 i) (hL.1 i (by omega)).2.2.2.2.1 ?_
    refine mw_goto i_96_99 ?_
    exact mw_top (show σ 6 i = owv σ i 2 from (show owv σ i 2 = σ 6 i from if_pos c16).symm) J1
