/-! the class plays a card: the loop -/
/-- a card by the numbers that the class's world has now -/
theorem CW_c2 {σ : ST} {K : KM} {I : IM} {R : RM} (hX : CSX K R) (hR : RC σ I R) {d : Nat} (hd : d < 1000) (hm : IVc σ d) : CO K R (cix R d) ∧ I (CA (cix R d)) 2 = nI (mn σ d) ∧ mn σ d ≤ 6 ∧ I (CA (cix R d)) 3 = σ 22 d ∧ (mn σ d ≠ 0 → cix R d = d ∧ I (CA d) 1 = σ 21 d) ∧ ∀ j, j < mn σ d → RCm σ I d j (MT (cix R d) (pm R (cix R d) j)) := by
  rcases hR.2.2.2.2.2 d hd with ⟨h1, h2, h3⟩ | ⟨h1, h2, h3, h4, h5⟩
  · have e : cix R d = 1000 := if_pos h1
    have e2 : mn σ d = 0 := by unfold mn; rw [h2]; rfl
    rw [e]
    exact ⟨hX.2.1, by rw [e2]; exact hR.2.2.2.2.1.1, by omega, by rw [h3]; exact hR.2.2.2.2.1.2, fun q => absurd e2 q, fun j hj => by omega⟩
  · have e : cix R d = d := if_neg (by rw [h1]; exact fun q => by cases q)
    rw [e]
    rcases hX.2.2 d hd with ⟨g1, -⟩ | ⟨g1, g2⟩
    · rw [h1] at g1; cases g1
    · exact ⟨g2, h2.trans hm.1, hm.2.1, h3, fun q => ⟨rfl, h4 q⟩, h5⟩
theorem IVm_eq {σ σ' : ST} {d j : Nat} (e : ∀ k, (k = 14 ∨ k = 18 ∨ k = 19) → σ' k = σ k) (h : IVm σ d j) : IVm σ' d j := by
  unfold IVm pn tn at *
  rw [e 14 (by omega), e 18 (by omega), e 19 (by omega)]
  exact h
theorem IVc_eq {σ σ' : ST} {d : Nat} (e : ∀ k, (k = 0 ∨ k = 14 ∨ k = 18 ∨ k = 19 ∨ k = 20 ∨ k = 21 ∨ k = 22) → σ' k = σ k) (h : IVc σ d) : IVc σ' d := by
  obtain ⟨h1, h2, h3, h4, h5, h6⟩ := h
  have em : mn σ' d = mn σ d := by unfold mn; rw [e 20 (by omega)]
  have ed : dn σ' = dn σ := by unfold dn; rw [e 0 (by omega)]
  refine ⟨by rw [em, e 20 (by omega)]; exact h1, by rw [em]; exact h2, by rw [ed, e 22 (by omega)]; exact h3, fun q => by rw [e 21 (by omega)]; exact h4 (by rw [em] at q; exact q), fun j hj => IVm_eq (fun k hk => e k (by omega)) (h5 j (by rw [em] at hj; exact hj)), ?_⟩
  rw [em, e 19 (by omega)]
  exact h6
theorem row_ok {σ σ' : ST} {I : IM} {x i : Nat} {L : Lb} (hv : IVm σ x i) (e : σ' 19 = σ 19) (hp : pn σ ≤ 10) (hm : RCm σ' I x i L) : rF σ x i < 10 ∧ rS σ x i < 10 ∧ rW σ x i < 10 ∧ rL σ x i < 10 ∧ I L 0 = nI (rF σ x i) ∧ I L 1 = nI (rS σ x i) ∧ (if I L 2 = nI 0 then I L 1 else I L 0) = nI (rW σ x i) ∧ (if I L 2 = nI 0 then I L 0 else I L 1) = nI (rL σ x i) ∧ I L 3 = σ 19 (36 * x + 6 * i + 3) ∧ I L 4 = σ 19 (36 * x + 6 * i + 4) ∧ I L 5 = σ 19 (36 * x + 6 * i + 5) := by
  obtain ⟨⟨f, hf, ef⟩, ⟨s, hs, es⟩, h3⟩ := hv
  obtain ⟨m0, m1, m2, m3, m4, m5⟩ := hm
  rw [e] at m0 m1 m2 m3 m4 m5
  have e1 : rF σ x i = f := by unfold rF; rw [ef]; exact nI_clamp (by omega)
  have e2 : rS σ x i = s := by unfold rS; rw [es]; exact nI_clamp (by omega)
  rw [ef] at m0
  rw [es] at m1
  rcases m2 with ⟨a, b⟩ | ⟨a, b⟩
  · have e3 : rW σ x i = f := by unfold rW wnr; rw [if_pos b, ef]; exact nI_clamp (by omega)
    have e4 : rL σ x i = s := by unfold rL lsr; rw [if_pos b, es]; exact nI_clamp (by omega)
    rw [e1, e2, e3, e4, a, if_neg (by decide), if_neg (by decide)]
    exact ⟨by omega, by omega, by omega, by omega, m0, m1, m0, m1, m3, m4, m5⟩
  · have e3 : rW σ x i = s := by unfold rW wnr; rw [if_neg (by rw [b]; decide), es]; exact nI_clamp (by omega)
    have e4 : rL σ x i = f := by unfold rL lsr; rw [if_neg (by rw [b]; decide), ef]; exact nI_clamp (by omega)
    rw [e1, e2, e3, e4, a, if_pos rfl, if_pos rfl]
    exact ⟨by omega, by omega, by omega, by omega, m0, m1, m1, m0, m3, m4, m5⟩
theorem pm_17 {σ : ST} {t f s wi lo : Nat} {m ti re : Int32} : pmS σ t f s wi lo m ti re 17 = σ 17 ∨ (¬ ti = (-1) ∧ pmS σ t f s wi lo m ti re 17 = upd (σ 17) ti.toNatClampNeg (nI (lnO σ ti.toNatClampNeg + 1))) := by
  unfold pmS trS
  rw [ups_ne (by omega), ups_ne (by omega)]
  by_cases hr : re = nI 0
  · rw [if_pos hr, if_pos hr]
    have eb : (adS (adS (win σ t wi lo) 5 f m) 5 s m) 17 = σ 17 := by
      unfold adS
      rw [ups_ne (by omega), ups_ne (by omega), win_17]
    unfold hndI hnd
    split
    · exact Or.inl eb
    · split
      · refine Or.inr ⟨by assumption, ?_⟩
        rw [crn_17, eb]
        unfold lnO
        rw [eb]
      · exact Or.inl eb
  · rw [if_neg hr, if_neg hr]
    left
    unfold adS
    rw [ups_ne (by omega), ups_ne (by omega), ups_ne (by omega), ups_ne (by omega)]
def tiO (σ : ST) (x j : Nat) : Int32 := σ 19 (36 * x + 6 * j + 4)
theorem pl_17 {σ : ST} {x tw : Nat} (hc : IVc σ x) (ht4 : tn σ ≤ 4) : ∀ i, i ≤ mn σ x → ∀ t, t < 4 → plK σ x tw i 17 t = σ 17 t ∨ ((∃ j, j < i ∧ tiO σ x j = nI t) ∧ plK σ x tw i 17 t = nI (lnO σ t + 1))
  | 0, _, t, _ => Or.inl rfl
  | i + 1, hi, t, ht => by
    have ih := pl_17 (tw := tw) hc ht4 i (by omega)
    have eg : ∀ v, adS (plK σ x tw i) 23 tw v 17 = plK σ x tw i 17 := fun v => by unfold adS; rw [ups_ne (by omega)]
    have two : plK σ x tw i 17 t = σ 17 t ∨ ((∃ j, j < i + 1 ∧ tiO σ x j = nI t) ∧ plK σ x tw i 17 t = nI (lnO σ t + 1)) := (ih t ht).imp id (fun ⟨⟨j, hj, e⟩, e2⟩ => ⟨⟨j, by omega, e⟩, e2⟩)
    rcases (pm_17 : pmS (adS (plK σ x tw i) 23 tw (wrt (plK σ x tw i) tw (rF σ x i) + wrt (plK σ x tw i) tw (rS σ x i))) tw (rF σ x i) (rS σ x i) (rW σ x i) (rL σ x i) (σ 19 (36 * x + 6 * i + 3)) (σ 19 (36 * x + 6 * i + 4)) (σ 19 (36 * x + 6 * i + 5)) 17 = _ ∨ _) with h | ⟨hne, h⟩
    · unfold plK
      rw [h, eg]
      exact two
    · unfold plK
      rw [h, eg]
      rcases (hc.2.2.2.2.1 i (by omega)).2.2.2.2.2.1 with h9 | ⟨u, hu, eu⟩
      · exact absurd h9 hne
      · rw [eu, nI_clamp (by omega)]
        by_cases e : t = u
        · subst e
          rw [upd_at]
          right
          refine ⟨⟨i, by omega, eu⟩, ?_⟩
          have : plK σ x tw i 17 t = σ 17 t := by
            rcases ih t ht with h1 | ⟨⟨j, hj, ej⟩, -⟩
            · exact h1
            · exact absurd (hc.2.2.2.2.2 i j (by omega) (by omega) (by omega) (eu.trans ej.symm)) hne
          unfold lnO
          rw [eg, this]
        · rw [upd_ne e]
          exact two
theorem pl_ln {σ : ST} {n x tw : Nat} (hn : n < 512) (hV : IV n σ) (hx : x < 1000) {i : Nat} (hi : i ≤ mn σ x) : ∀ t, t < 4 → plK σ x tw i 17 t = nI (lnO (plK σ x tw i) t) ∧ lnO (plK σ x tw i) t ≤ n + 1 := fun t ht => by
  have hc := hV.2.2.2.2.2.1 x hx
  have h := hV.2.2.2.2.1 t ht
  rcases pl_17 (tw := tw) hc hV.2.1.2 i hi t ht with e | ⟨-, e⟩
  · have : lnO (plK σ x tw i) t = lnO σ t := by unfold lnO; rw [e]
    rw [this, e]
    exact ⟨h.1, by omega⟩
  · have : lnO (plK σ x tw i) t = lnO σ t + 1 := by unfold lnO at e ⊢; rw [e]; exact nI_clamp (by have := h.2; unfold lnO at this; omega)
    rw [this, e]
    exact ⟨rfl, by omega⟩
theorem pl_ti {σ : ST} {n x tw : Nat} (hn : n < 512) (hV : IV n σ) (hx : x < 1000) {i : Nat} (hi : i < mn σ x) : ∀ t, t < 4 → σ 19 (36 * x + 6 * i + 4) = nI t → lnO (plK σ x tw i) t < 512 := fun t ht e => by
  have hc := hV.2.2.2.2.2.1 x hx
  have h := (hV.2.2.2.2.1 t ht).2
  rcases pl_17 (tw := tw) hc hV.2.1.2 i (by omega) t ht with e2 | ⟨⟨j, hj, ej⟩, -⟩
  · have : lnO (plK σ x tw i) t = lnO σ t := by unfold lnO; rw [e2]
    omega
  · exact absurd ((e.symm.trans (hc.2.2.2.2.2 i j hi (by omega) (by omega) (e.trans ej.symm))).symm) (fun q => nI_nm1 (by omega) q.symm)
theorem k_pm {d b : Nat} {K : KM} {I : IM} {R : RM} {Q : QT} {σ : ST} {c j f s t wi lo : Nat} {m ti re : Int32} (hd : 3 ≤ d) (hS : CS0 K R) (hT : K (MT c j) = some (1, 0)) (hR : RC σ I R) (hLN : LN σ) (hf : f < 10) (hs : s < 10) (ht : t < 4) (hwi : wi < 10) (hlo : lo < 10) (hti : ti = (-1) ∨ isN ti 4) (hl5 : ∀ q, q < 4 → ti = nI q → lnO σ q < 512) (h0 : I (MT c j) 0 = nI f) (h1 : I (MT c j) 1 = nI s) (hwn : (if I (MT c j) 2 = nI 0 then I (MT c j) 1 else I (MT c j) 0) = nI wi) (hlx : (if I (MT c j) 2 = nI 0 then I (MT c j) 0 else I (MT c j) 1) = nI lo) (h3 : I (MT c j) 3 = m) (h4 : I (MT c j) 4 = ti) (h5 : I (MT c j) 5 = re) (hre : re = nI 0 ∨ re = nI 1) (q : ∀ I' v, FrC I I' → v = wrt σ t f + wrt σ t s → RC (pmS (adS σ 23 t (wrt σ t f + wrt σ t s)) t f s wi lo m ti re) I' R → Q (.inl (some (pI v))) K I' R) : Mw d b N_X5_playMatch 0 [some (pR (some RING)), some (pR (some (MT c j))), some (pI (nI t)), none, none, none] [] K I R Q := by
  rcases hre with rfl | rfl
  · exact k_pmN hd hS hT hR hLN hf hs ht hwi hlo hti hl5 h0 h1 hwn hlx h3 h4 h5 q
  · exact k_pmR hd hS hT hR hLN hf hs ht hwi hlo hti hl5 h0 h1 hwn hlx h3 h4 h5 q
set_option maxRecDepth 20000 in
set_option maxHeartbeats 400000 in
theorem k_play_lp {d : Nat} {b : Nat} {K : KM} {R : RM} {Q : QT} {n x tw : Nat} {σ : ST} {I0 : IM} (hd : 4 ≤ d) (hW : CW n σ K I0 R) (hn9 : n < 512) (hx : x < 1000) (htw0 : σ 21 x = nI tw) (htw4 : tw < 4) (q : ∀ I', FrC I0 I' → RC (plK σ x tw (mn σ x)) I' R → Mw d b N_X5_play 41 [some (pR (some RING)), some (pR (some (CA (cix R x)))), some (pI (tkK σ x tw (mn σ x))), some (pI (nI (mn σ x)))] [] K I' R Q) : ∀ (n i : Nat) (I : IM), mn σ x - i < n → i ≤ mn σ x → (FrC I0 I) → (RC (plK σ x tw i) I R) → Mw d b N_X5_play 24 [some (pR (some RING)), some (pR (some (CA (cix R x)))), some (pI (tkK σ x tw i)), some (pI (nI i))] [] K I R Q := by
  obtain ⟨d9, rfl⟩ : ∃ d9, d = d9 + 1 := ⟨d - 1, by omega⟩
  intro n
  induction n with
  | zero => intro i I  hn; exact absurd hn (Nat.not_lt_zero _)
  | succ n ih =>
    intro i I  hn hi hF hR
    have e9 : ∀ k, (k = 0 ∨ k = 14 ∨ k = 18 ∨ k = 19 ∨ k = 20 ∨ k = 21 ∨ k = 22) → plK σ x tw i k = σ k := fun k hk => plK_o (by omega) i
    have hc := hW.2.2.2.2.2.2.2.1 x hx
    have em : mn (plK σ x tw i) x = mn σ x := by unfold mn; rw [e9 20 (by omega)]
    obtain ⟨hC_x, hz, hz6, -, hto, hm⟩ := CW_c2 hW.1 hR hx (IVc_eq e9 hc)
    rw [em] at hz hz6 hto hm
    have hS := hW.1.1
    refine mw_iload i_43_24 (x := nI i) rfl ?_
    refine mw_aload i_43_25 (L := CA (cix R x)) rfl ?_
    refine mw_get i_43_26 hC_x.1 (v := nI (mn σ x)) hz ?_
    refine mw_ic i_43_27 (p := (mn σ x) ≤ i) (nI_leI (by omega) (by omega)) (fun c1 => ?_) (fun c1 => ?_)
    · skip
      obtain rfl : i = mn σ x := by omega
      exact q _ hF hR
    · skip
      have htw : I (CA (cix R x)) 1 = nI tw := by
        obtain ⟨c1, c2⟩ := hto (by omega)
        rw [c1, c2, e9 21 (by omega)]; exact htw0
      obtain ⟨hf, hs, hwi, hlo, h0, h1, hwn, hlx, h3, h4, h5⟩ := row_ok (hc.2.2.2.2.1 i (by omega)) (e9 19 (by omega)) hW.2.2.1.2 (hm i (by omega))
      refine mw_iload i_43_28 (x := tkK σ x tw i) rfl ?_
      refine mw_aload i_43_29 (L := RING) rfl ?_
      refine mw_aload i_43_30 (L := CA (cix R x)) rfl ?_
      refine mw_getR i_43_31 hC_x.1 (q := some (MM (cix R x))) hC_x.2.1 ?_
      refine mw_iload i_43_32 (x := nI i) rfl ?_
      refine mw_aald i_43_33 (jn := i) (n := 6) (by omega) (by omega) hC_x.2.2.1 (by decide) (q := some (MT (cix R x) (pm R (cix R x) i))) (hC_x.2.2.2.2.1 i (by omega)).2 ?_
      refine mw_aload i_43_34 (L := CA (cix R x)) rfl ?_
      refine mw_get i_43_35 hC_x.1 (v := nI tw) htw ?_
      refine mw_callV i_43_36 mf_69 (as := [pR (some (MT (cix R x) (pm R (cix R x) i))), pI (nI tw)]) (rest := [pI (tkK σ x tw i)]) (d' := d9) (b' := b) (ls0 := [some (pR (some RING)), some (pR (some (MT (cix R x) (pm R (cix R x) i)))), some (pI (nI tw)), none, none, none]) rfl rfl rfl (Nat.le_of_ble_eq_true rfl) hS.1.1 rfl rfl rfl ?_
      refine k_pm (σ := plK σ x tw i) (by omega) hS (hC_x.2.2.2.1 _ (hC_x.2.2.2.2.1 i (by omega)).1) hR (fun t9 ht9 => ⟨(pl_ln hn9 hW.2.2 hx (by omega) t9 ht9).1, by have := (pl_ln hn9 hW.2.2 hx (tw := tw) (i := i) (by omega) t9 ht9).2; omega⟩) hf hs htw4 hwi hlo ((hc.2.2.2.2.1 i (by omega)).2.2.2.2.2.1.imp id (fun ⟨u, hu, eu⟩ => ⟨u, by have := hW.2.2.2.1.2; omega, eu⟩)) (pl_ti hn9 hW.2.2 hx (by omega)) h0 h1 hwn hlx h3 h4 h5 (hc.2.2.2.2.1 i (by omega)).2.2.2.2.2.2 ?_
      intro I1 v1 hF1 hv1 r1
      refine aft_v ?_
      refine mw_iadd i_43_37 (w := tkK σ x tw (i + 1)) (by rw [hv1]; rfl) ?_
      refine mw_istore i_43_38 (ls' := [some (pR (some RING)), some (pR (some (CA (cix R x)))), some (pI (tkK σ x tw (i + 1))), some (pI (nI i))]) rfl (Nat.le_of_ble_eq_true rfl) ?_
      refine mw_iinc i_43_39 (x := nI i) (v := nI (i + 1)) (ls' := [some (pR (some RING)), some (pR (some (CA (cix R x)))), some (pI (tkK σ x tw (i + 1))), some (pI (nI (i + 1)))]) rfl (nI_add _ _) rfl ?_
      refine mw_goto i_43_40 ?_
      exact ih (i + 1) I1 (by omega) (by omega) (FrC_tr hF hF1) r1
theorem RC_played {σ : ST} {I : IM} {R : RM} (h : RC σ I R) {x : Nat} (hx : x < 1000) (hy : R CRD x = some (CA x)) (hall : ∀ d, d < 1000 → mn σ d ≤ 6) : RC (ups σ 22 x (nI 1)) (up2 I (CA x) 3 (nI 1)) R := by
  refine RC_C h (fun L hL => up2_ne (fun e => by subst e; exact absurd hL (by show ¬ 19 < 19; decide))) (fun k hk => ups_ne (by omega)) (by rw [up2_ne (by simp; omega)]; exact h.2.2.2.2.1) (fun d hd => ?_)
  have hc := h.2.2.2.2.2 d hd
  have em : mn (ups σ 22 x (nI 1)) d = mn σ d := by unfold mn; rw [ups_ne (by decide)]
  have eM : ∀ j p, RCm σ I d j (MT d p) → RCm (ups σ 22 x (nI 1)) (up2 I (CA x) 3 (nI 1)) d j (MT d p) := fun j p q => by
    unfold RCm at *
    rw [up2_ne (by simp), ups_ne (by decide)]
    exact q
  by_cases e : d = x
  · subst e
    rcases hc with ⟨c1, -⟩ | ⟨c1, c2, c3, c4, c5⟩
    · rw [hy] at c1; cases c1
    · refine Or.inr ⟨c1, ?_, ?_, fun q => ?_, fun j hj => ?_⟩
      · rw [up2_at, upd_ne (by decide), ups_ne (by decide)]; exact c2
      · rw [up2_at, upd_at, ups_at, upd_at]
      · rw [em] at q
        rw [up2_at, upd_ne (by decide), ups_ne (by decide)]; exact c4 q
      · rw [em] at hj; exact eM j _ (c5 j hj)
  · rcases hc with ⟨c1, c2, c3⟩ | ⟨c1, c2, c3, c4, c5⟩
    · refine Or.inl ⟨c1, ?_, ?_⟩
      · rw [ups_ne (by decide)]; exact c2
      · rw [ups_at, upd_ne e]; exact c3
    · refine Or.inr ⟨c1, ?_, ?_, fun q => ?_, fun j hj => ?_⟩
      · rw [up2_ne (by simp [e]), ups_ne (by decide)]; exact c2
      · rw [up2_ne (by simp [e]), ups_at, upd_ne e]; exact c3
      · rw [em] at q
        rw [up2_ne (by simp [e]), ups_ne (by decide)]; exact c4 q
      · rw [em] at hj; exact eM j _ (c5 j hj)
/-- the town of a day's card -/
def twn (σ : ST) (x : Nat) : Nat := (σ 21 x).toNatClampNeg
/-- today's card is played -/
noncomputable def plS (σ : ST) : ST := ups (plK σ (dn σ) (twn σ (dn σ)) (mn σ (dn σ))) 22 (dn σ) (nI 1)
noncomputable def tkS (σ : ST) : Int32 := tkK σ (dn σ) (twn σ (dn σ)) (mn σ (dn σ))
def pOK (σ : ST) : Prop := ¬ mn σ (dn σ) = 0 ∧ σ 22 (dn σ) = nI 0 ∧ ¬ hO σ (dn σ)
set_option maxRecDepth 20000 in
set_option maxHeartbeats 400000 in
theorem k_play2 {d b : Nat} {K : KM} {I : IM} {R : RM} {Q : QT} {x m : Nat} {v : Int32} (hT : K (CA x) = some (0, 0)) (q : Q (.inl (some (pI v))) K (up2 I (CA x) 3 (nI 1)) R) : Mw d b N_X5_play 41 [some (pR (some RING)), some (pR (some (CA x))), some (pI v), some (pI (nI m))] [] K I R Q := by
  refine mw_aload i_43_41 (L := CA x) rfl ?_
  refine mw_const i_43_42 (v := nI 1) (by decide) ?_
  refine mw_putB i_43_43 (x := nI 1) hT (by decide) (I' := up2 I (CA x) 3 (nI 1)) rfl ?_
  refine mw_iload i_43_44 (x := v) rfl ?_
  refine mw_iretI i_43_45 (x := v) rt_43 ?_
  exact q
set_option maxRecDepth 20000 in
set_option maxHeartbeats 400000 in
theorem k_play {d b : Nat} {K : KM} {I : IM} {R : RM} {Q : QT} {n : Nat} {σ : ST}  (hd : 8 ≤ d) (hW : CW n σ K I R) (hb : 7 ≤ b) (hn : n < 512)  (q1 : ¬ pOK σ → Q (.inr 2) K I R) (q0 : pOK σ → ∀ I', FrC I I' → RC (plS σ) I' R → ∀ v, v = tkS σ → Q (.inl (some (pI v))) K I' R) : Mw d b N_X5_play 0 [some (pR (some RING)), none, none, none] [] K I R Q := by
  obtain ⟨d9, rfl⟩ : ∃ d9, d = d9 + 1 := ⟨d - 1, by omega⟩
  have hS := hW.1.1
  have hR := hW.2.1
  have hV := hW.2.2
  have hpp := hW.2.2.1.2
  have htt := hW.2.2.2.1.2
  have hdd := hW.2.2.2.2.1.2
  refine mw_aload i_43_0 (L := RING) rfl ?_
  refine mw_aload i_43_1 (L := RING) rfl ?_
  refine mw_get i_43_2 hS.1.1 (v := nI (dn σ)) (CW_d hW) ?_
  obtain ⟨hC_dnσ, hz_dnσ, hz6_dnσ, hp_dnσ, ht0_dnσ, hm_dnσ⟩ := CW_c hW (d := dn σ) (by omega)
  refine mw_callV i_43_3 mf_63 (as := [pI (nI (dn σ))]) (rest := []) (d' := d9) (b' := b) (ls0 := [some (pR (some RING)), some (pI (nI (dn σ)))]) rfl rfl rfl (Nat.le_of_ble_eq_true rfl) hS.1.1 rfl rfl rfl ?_
  refine k_cardOf (by omega) hW.1 (by omega) ?_
  refine aft_v ?_
  refine mw_astore i_43_4 (ls' := [some (pR (some RING)), some (pR (some (CA (cix R (dn σ))))), none, none]) rfl (Nat.le_of_ble_eq_true rfl) ?_
  refine mw_aload i_43_5 (L := CA (cix R (dn σ))) rfl ?_
  refine mw_get i_43_6 hC_dnσ.1 (v := nI (mn σ (dn σ))) hz_dnσ ?_
  refine mw_if i_43_7 (p := (nI (mn σ (dn σ))) = nI 0) Iff.rfl (fun c1 => ?_) (fun c1 => ?_)
  · skip
    refine mw_throw i_43_15 hx_43 (by omega) (by omega) ?_
    exact q1 (fun h => h.1 (nI_inj c1 (by omega) (by omega)))
  · skip
    refine mw_aload i_43_8 (L := CA (cix R (dn σ))) rfl ?_
    refine mw_get i_43_9 hC_dnσ.1 (v := σ 22 (dn σ)) hp_dnσ ?_
    refine mw_if i_43_10 (p := ¬ (σ 22 (dn σ)) = nI 0) Iff.rfl (fun c2 => ?_) (fun c2 => ?_)
    · skip
      refine mw_throw i_43_15 hx_43 (by omega) (by omega) ?_
      exact q1 (fun h => c2 h.2.1)
    · skip
      refine mw_aload i_43_11 (L := RING) rfl ?_
      refine mw_aload i_43_12 (L := CA (cix R (dn σ))) rfl ?_
      refine mw_callV i_43_13 mf_68 (as := [pR (some (CA (cix R (dn σ))))]) (rest := []) (d' := d9) (b' := b) (ls0 := [some (pR (some RING)), some (pR (some (CA (cix R (dn σ))))), none, none]) rfl rfl rfl (Nat.le_of_ble_eq_true rfl) hS.1.1 rfl rfl rfl ?_
      refine k_hurtOnes (by omega) hW (by omega) ?_
      refine aft_v ?_
      refine mw_eqB i_43_14 rfl (fun c3 => ?_) (fun c3 => ?_)
      · skip
        refine mw_const i_43_20 (v := nI 0) (by decide) ?_
        refine mw_istore i_43_21 (ls' := [some (pR (some RING)), some (pR (some (CA (cix R (dn σ))))), some (pI (nI 0)), none]) rfl (Nat.le_of_ble_eq_true rfl) ?_
        refine mw_const i_43_22 (v := nI 0) (by decide) ?_
        refine mw_istore i_43_23 (ls' := [some (pR (some RING)), some (pR (some (CA (cix R (dn σ))))), some (pI (nI 0)), some (pI (nI 0))]) rfl (Nat.le_of_ble_eq_true rfl) ?_
        have hOK : pOK σ := ⟨fun h => c1 (by rw [h]), by first | exact c2 | exact Classical.not_not.mp c2, c3⟩
        have hdx : dn σ < 1000 := by omega
        obtain ⟨tw, htw4, etw⟩ := (hV.2.2.2.2.2.1 (dn σ) hdx).2.2.2.1 hOK.1
        have e21 : twn σ (dn σ) = tw := by unfold twn; rw [etw]; exact nI_clamp (by omega)
        obtain ⟨hy, hcx⟩ := cix_y hW hdx hOK.1
        refine k_play_lp (by omega) hW hn hdx etw htw4 (fun I9 hF9 hr9 => ?_) (mn σ (dn σ) + 1) 0 I (by omega) (by omega) FrC_rfl hR
        rw [hcx]
        have e20 : ∀ d, mn (plK σ (dn σ) tw (mn σ (dn σ))) d = mn σ d := fun d => by unfold mn; rw [plK_o (by omega)]
        refine k_play2 (x := dn σ) (v := tkK σ (dn σ) tw (mn σ (dn σ))) (m := mn σ (dn σ)) (by rw [← hcx]; exact hC_dnσ.1) ?_
        refine q0 hOK _ (FrC_up hF9 (Nat.le_of_ble_eq_true rfl)) ?_ _ (by unfold tkS; rw [e21])
        unfold plS
        rw [e21]
        exact RC_played hr9 hdx hy (fun d hd => by rw [e20]; exact (hV.2.2.2.2.2.1 d hd).2.1)
      · skip
        refine mw_throw i_43_15 hx_43 (by omega) (by omega) ?_
        exact q1 (fun h => h.2.2 c3)
