/-! the mender tries all ways: a way and its sum -/
/-- the place that faces another -/
def fac (s : Nat) : Nat := if s % 2 = 0 then s + 1 else s - 1
def Al (σ : ST) (c : Nat → Nat) (i : Nat) : Prop := (opn σ (fac (Os σ i)) → (c i = pn σ ↔ who σ c (mO σ) (fac (Os σ i)) = pn σ)) ∧ (¬ c i = pn σ → ∀ j, j < i → ¬ c j = c i) ∧ ¬ bad σ c (mO σ) (Os σ i / 2)
theorem who_le {σ : ST} {c : Nat → Nat} {p q s : Nat} (h : p ≤ q) (hn : ¬ who σ c p s = pn σ) : who σ c q s = who σ c p s := by
  unfold who at hn ⊢
  by_cases o : opn σ s
  · rw [if_pos o] at hn ⊢
    rw [if_pos o]
    by_cases e : cnt (opn σ) s < p
    · rw [if_pos (by omega), if_pos e]
    · rw [if_neg e] at hn; exact absurd rfl hn
  · rw [if_neg o, if_neg o]
theorem bad_le {σ : ST} {c : Nat → Nat} {p q m : Nat} (h : p ≤ q) (hb : bad σ c p m) : bad σ c q m := by
  unfold bad at *
  rw [who_le h hb.1, who_le h hb.2.1]
  exact hb
/-- a place is known when those up to it are -/
theorem who_kn {σ : ST} {c : Nat → Nat} {p s : Nat} (h : opn σ s → cnt (opn σ) s < p) (hp : p ≤ mO σ) : who σ c (mO σ) s = who σ c p s := by
  unfold who
  by_cases o : opn σ s
  · have := h o
    rw [if_pos o, if_pos o, if_pos (by omega), if_pos this]
  · rw [if_neg o, if_neg o]
theorem who_Os {σ : ST} {c : Nat → Nat} {i : Nat} (hi : i < mO σ) : who σ c (mO σ) (Os σ i) = c i := by
  have h := Os_lt hi
  unfold who
  rw [if_pos h.2.1, h.2.2, if_pos hi]
/-- the open place that faces an open first one is the next -/
theorem nx_open {σ : ST} {i : Nat} (hi : i < mO σ) (he : Os σ i % 2 = 0) (ho : opn σ (Os σ i + 1)) : i + 1 < mO σ ∧ Os σ (i + 1) = Os σ i + 1 ∧ bnd σ (i + 1) := by
  have h := Os_lt hi
  have hc : cnt (opn σ) (Os σ i + 1) = i + 1 := by rw [cnt_t h.2.1, h.2.2]
  have hl : Os σ i + 1 < 2 * mn σ (dn σ) := by omega
  have h1 : i + 1 < mO σ := by
    have := cnt_lt hl ho
    unfold mO; omega
  have h2 : Os σ (i + 1) = Os σ i + 1 := by
    have := pos_cnt hl ho
    rw [hc] at this
    exact this
  refine ⟨h1, h2, ?_⟩
  unfold bnd
  rw [h2]
  exact ⟨by omega, h.2.1⟩
theorem PVd_Al {σ : ST} {c : Nat → Nat} (hc : ∀ k, k < mO σ → ¬ c k = pn σ → cand σ (c k)) : PVd σ c (mO σ) ↔ ∀ i, i < mO σ → Al σ c i := by
  constructor
  · intro h i hi
    obtain ⟨l1, l2, l3⟩ := h i hi
    have ho := Os_lt hi
    refine ⟨fun hf => ?_, fun hn => (l1 hn).2, fun hb => ?_⟩
    · unfold fac at hf ⊢
      by_cases e : Os σ i % 2 = 0
      · rw [if_pos e] at hf ⊢
        obtain ⟨a1, a2, a3⟩ := nx_open hi e hf
        have := (h (i + 1) a1).2.1 a3
        rw [← a2, who_Os a1, this]
        rfl
      · rw [if_neg e] at hf ⊢
        have hb : bnd σ i := ⟨by omega, hf⟩
        obtain ⟨p0, p1⟩ := bnd_pos hb hi
        rw [← p1, who_Os (by omega)]
        exact l2 hb
    · by_cases e : Os σ i % 2 = 0 ∧ opn σ (Os σ i + 1)
      · obtain ⟨a1, a2, a3⟩ := nx_open hi e.1 e.2
        refine (h (i + 1) a1).2.2 ?_
        rw [a2, show (Os σ i + 1) / 2 = Os σ i / 2 by have := e.1; omega]
        unfold bad at *
        rw [← who_kn (c := c) (p := i + 1 + 1) (s := 2 * (Os σ i / 2)) (fun _ => by
          have := cnt_mono (p := opn σ) (show 2 * (Os σ i / 2) ≤ Os σ i by omega)
          omega) (by omega), ← who_kn (c := c) (p := i + 1 + 1) (s := 2 * (Os σ i / 2) + 1) (fun _ => by
          have := cnt_mono (p := opn σ) (show 2 * (Os σ i / 2) + 1 ≤ Os σ i + 1 by omega)
          rw [cnt_t ho.2.1] at this
          omega) (by omega)]
        exact hb
      · refine l3 ?_
        have k1 : opn σ (2 * (Os σ i / 2)) → cnt (opn σ) (2 * (Os σ i / 2)) < i + 1 := fun _ => by
          have := cnt_mono (p := opn σ) (show 2 * (Os σ i / 2) ≤ Os σ i by omega)
          omega
        have k2 : opn σ (2 * (Os σ i / 2) + 1) → cnt (opn σ) (2 * (Os σ i / 2) + 1) < i + 1 := fun q => by
          by_cases e2 : Os σ i % 2 = 0
          · exact absurd ⟨e2, by rw [show 2 * (Os σ i / 2) + 1 = Os σ i + 1 by omega] at q; exact q⟩ e
          · have := cnt_mono (p := opn σ) (show 2 * (Os σ i / 2) + 1 ≤ Os σ i by omega)
            omega
        unfold bad at *
        rw [← who_kn k1 (by omega), ← who_kn k2 (by omega)]
        exact hb
  · intro h k hk
    obtain ⟨a1, a2, a3⟩ := h k hk
    refine ⟨fun hn => ⟨hc k hk hn, a2 hn⟩, fun hb => ?_, fun hb => a3 (bad_le (by omega) hb)⟩
    have e : fac (Os σ k) = Os σ k - 1 := if_neg (by have := hb.1; omega)
    rw [e] at a1
    obtain ⟨p0, p1⟩ := bnd_pos hb hk
    have := a1 hb.2
    rw [← p1, who_Os (by omega)] at this
    exact this
theorem bI_inj {p q : Prop} : bI p = bI q ↔ (p ↔ q) := by
  constructor
  · intro h
    by_cases hp : p <;> by_cases hq : q
    · exact ⟨fun _ => hq, fun _ => hp⟩
    · rw [bI_t hp, bI_f hq] at h; exact absurd h (by decide)
    · rw [bI_f hp, bI_t hq] at h; exact absurd h (by decide)
    · exact ⟨fun a => absurd a hp, fun a => absurd a hq⟩
  · exact bI_congr
theorem cW_inj {σ : ST} {t j i : Nat} (hn : ¬ cW σ t i = pn σ) : cW σ t j = cW σ t i ↔ cg (nC σ) t j = cg (nC σ) t i := by
  constructor
  · intro h
    unfold cW at h hn
    by_cases e : cg (nC σ) t i < nC σ
    · rw [if_pos e] at h
      by_cases e2 : cg (nC σ) t j < nC σ
      · rw [if_pos e2] at h; exact Cd_inj e2 e h
      · rw [if_neg e2] at h
        have := (Cd_ok e).1
        omega
    · rw [if_neg e] at hn; exact absurd rfl hn
  · intro h; unfold cW; rw [h]
theorem Os_inj {σ : ST} {j k : Nat} (hj : j < mO σ) (hk : k < mO σ) (e : Os σ j = Os σ k) : j = k := pos_inj hj hk e
theorem cW_c {σ : ST} {t k : Nat} (h : ¬ cW σ t k = pn σ) : cand σ (cW σ t k) := by
  unfold cW at *
  by_cases e : cg (nC σ) t k < nC σ
  · rw [if_pos e]; exact (Cd_ok e).2
  · rw [if_neg e] at h; exact absurd rfl h
set_option maxRecDepth 20000 in
theorem k_al_lp {d b : Nat} {K : KM} {I : IM} {R : RM} {Q : QT} {n0 tw : Nat} {σ : ST} {c : Nat → Nat} {t i : Nat} (hd : 2 ≤ d) (hW : CW n0 σ K I R) (hX : FX σ tw I R) (hO : mO σ ≤ 4) (hc : ∀ j, j < mO σ → c j ≤ pn σ) (hs : Sts σ c (mO σ) I) (hch : ∀ j, j < mO σ → c j = cW σ t j) (h4 : ∀ j, j < mO σ → I (MN 4) j = nI (cg (nC σ) t j)) (hio : i < mO σ) (h1a : opn σ (fac (Os σ i)) → (c i = pn σ ↔ who σ c (mO σ) (fac (Os σ i)) = pn σ)) (q : Q (.inl (some (pI (bI (Al σ c i))))) K I R) : ∀ (n u : Nat) (hdi : ¬ c i = pn σ → ∀ j, j < u → ¬ c j = c i), i - u < n → u ≤ i → Mw d b N_X2_isAllowed 45 [some (pR (some MEN)), some (pI (nI i)), some (pI (nI (Os σ i))), some (pI (nI (fac (Os σ i)))), some (pI (nI u))] [] K I R Q := by
  obtain ⟨d9, rfl⟩ : ∃ d9, d = d9 + 1 := ⟨d - 1, by omega⟩
  intro n
  induction n with
  | zero => intro u hdi hn; exact absurd hn (Nat.not_lt_zero _)
  | succ n ih =>
    intro u hdi hn hi
    have hS := hW.1.1
    have hR := hW.2.1
    have hV := hW.2.2
    have hpp := hW.2.2.1.2
    have hdd := hW.2.2.2.2.1.2
    have hz6 : mn σ (dn σ) ≤ 6 := (CW_c hW (d := dn σ) (by omega)).2.2.1
    have hop := (Os_lt hio).1
    have hfl : fac (Os σ i) < 2 * mn σ (dn σ) := by unfold fac; split <;> omega
    have hci := hc i hio
    have hwf := who_lt hV hc (s := fac (Os σ i)) hfl
    have hc10 : nC σ ≤ pn σ := cnt_le _ _
    have hcgu : cg (nC σ) t u ≤ nC σ := cg_le
    have hcgi : cg (nC σ) t i ≤ nC σ := cg_le
    refine mw_iload i_23_45 (x := nI u) rfl ?_
    refine mw_iload i_23_46 (x := nI i) rfl ?_
    refine mw_ic i_23_47 (p := i ≤ u) (nI_leI (by omega) (by omega)) (fun c1 => ?_) (fun c1 => ?_)
    · skip
      refine mw_aload i_23_67 (L := MEN) rfl ?_
      refine mw_iload i_23_68 (x := nI (Os σ i)) rfl ?_
      refine mw_const i_23_69 (v := nI 2) (by decide) ?_
      refine mw_idiv i_23_70 (by decide) (w := nI ((Os σ i) / 2)) (pk_div (by omega) (by omega) (by omega)) ?_
      refine mw_callV i_23_71 mf_18 (as := [pI (nI ((Os σ i) / 2))]) (rest := []) (d' := d9) (b' := b) (ls0 := [some (pR (some MEN)), some (pI (nI ((Os σ i) / 2))), none, none, none, none]) rfl rfl rfl (Nat.le_of_ble_eq_true rfl) hS.2.1.2.2.2.2 rfl rfl rfl ?_
      refine k_bar (by omega) hW hX (by omega) hc hs ?_
      refine aft_v ?_
      refine mw_neB i_23_72 rfl (fun c2 => ?_) (fun c2 => ?_)
      · skip
        refine mw_const i_23_75 (v := nI 0) (by decide) ?_
        refine mw_iret i_23_76 (x := nI 0) (fun _ => (by decide)) ?_
        rw [show nI 0 = bI (Al σ c i) from (bI_f (fun h => h.2.2 c2)).symm]
        exact q
      · skip
        refine mw_const i_23_73 (v := nI 1) (by decide) ?_
        refine mw_goto i_23_74 ?_
        refine mw_iret i_23_76 (x := nI 1) (fun _ => (by decide)) ?_
        rw [show nI 1 = bI (Al σ c i) from (bI_t ⟨h1a, fun h9 j hj => hdi h9 j (by omega), c2⟩).symm]
        exact q
    · skip
      refine mw_aload i_23_48 (L := MEN) rfl ?_
      refine mw_getR i_23_49 hS.2.1.2.2.2.2 (q := some (MN 0)) (hS.2.2.2.2 0 (by omega)).1 ?_
      refine mw_iload i_23_50 (x := nI (Os σ i)) rfl ?_
      refine mw_iald i_23_51 (jn := Os σ i) (n := 12) (by omega) (by omega) (show K (MN 0) = some (7, 12) from (hS.2.2.2.2 0 (by omega)).2) (by decide) (v := sv (pn σ) (c i)) ((hs _ (by omega)).trans (by rw [who_Os hio])) ?_
      refine mw_const i_23_52 (v := (-1)) (by decide) ?_
      refine mw_ic i_23_53 (p := (sv (pn σ) (c i)) = (-1)) Iff.rfl (fun c3 => ?_) (fun c3 => ?_)
      · skip
        refine mw_iinc i_23_65 (x := nI u) (v := nI (u + 1)) (ls' := [some (pR (some MEN)), some (pI (nI i)), some (pI (nI (Os σ i))), some (pI (nI (fac (Os σ i)))), some (pI (nI (u + 1)))]) rfl (nI_add _ _) rfl ?_
        refine mw_goto i_23_66 ?_
        exact ih (u + 1) (fun h9 => absurd ((sv_iff (by omega)).mp c3) h9) (by omega) (by omega)
      · skip
        refine mw_aload i_23_54 (L := MEN) rfl ?_
        refine mw_getR i_23_55 hS.2.1.2.2.2.2 (q := some (MN 4)) (hS.2.2.2.2 4 (by omega)).1 ?_
        refine mw_iload i_23_56 (x := nI u) rfl ?_
        refine mw_iald i_23_57 (jn := u) (n := 4) (by omega) (by omega) (show K (MN 4) = some (7, 4) from (hS.2.2.2.2 4 (by omega)).2) (by decide) (v := nI (cg (nC σ) t u)) (h4 u (by omega)) ?_
        refine mw_aload i_23_58 (L := MEN) rfl ?_
        refine mw_getR i_23_59 hS.2.1.2.2.2.2 (q := some (MN 4)) (hS.2.2.2.2 4 (by omega)).1 ?_
        refine mw_iload i_23_60 (x := nI i) rfl ?_
        refine mw_iald i_23_61 (jn := i) (n := 4) (by omega) (by omega) (show K (MN 4) = some (7, 4) from (hS.2.2.2.2 4 (by omega)).2) (by decide) (v := nI (cg (nC σ) t i)) (h4 i (by omega)) ?_
        refine mw_ic i_23_62 (p := ¬ (cg (nC σ) t u) = (cg (nC σ) t i)) (not_congr (nI_eq (by omega) (by omega))) (fun c4 => ?_) (fun c4 => ?_)
        · skip
          refine mw_iinc i_23_65 (x := nI u) (v := nI (u + 1)) (ls' := [some (pR (some MEN)), some (pI (nI i)), some (pI (nI (Os σ i))), some (pI (nI (fac (Os σ i)))), some (pI (nI (u + 1)))]) rfl (nI_add _ _) rfl ?_
          refine mw_goto i_23_66 ?_
          exact ih (u + 1) (fun h9 j hj => by
            by_cases e9 : j = u
            · rw [e9, hch u (by omega), hch i hio, cW_inj (by rw [← hch i hio]; exact h9)]; omega
            · exact hdi h9 j (by omega)) (by omega) (by omega)
        · skip
          refine mw_const i_23_63 (v := nI 0) (by decide) ?_
          refine mw_iret i_23_64 (x := nI 0) (fun _ => (by decide)) ?_
          rw [show nI 0 = bI (Al σ c i) from (bI_f (fun h => h.2.1 (fun q => c3 ((sv_iff (by omega)).mpr q)) u (by omega) (by rw [hch u (by omega), hch i hio]; exact (cW_inj (by rw [← hch i hio]; exact fun q => c3 ((sv_iff (by omega)).mpr q))).mpr (by omega)))).symm]
          exact q
set_option maxRecDepth 20000 in
set_option maxHeartbeats 400000 in
theorem k_al2 {d b : Nat} {K : KM} {I : IM} {R : RM} {Q : QT} {n0 tw : Nat} {σ : ST} {c : Nat → Nat} {t i : Nat} (hd : 2 ≤ d) (hW : CW n0 σ K I R) (hX : FX σ tw I R) (hO : mO σ ≤ 4) (hc : ∀ j, j < mO σ → c j ≤ pn σ) (hs : Sts σ c (mO σ) I) (hch : ∀ j, j < mO σ → c j = cW σ t j) (h4 : ∀ j, j < mO σ → I (MN 4) j = nI (cg (nC σ) t j)) (hio : i < mO σ) (h1a : opn σ (fac (Os σ i)) → (c i = pn σ ↔ who σ c (mO σ) (fac (Os σ i)) = pn σ)) (q : Q (.inl (some (pI (bI (Al σ c i))))) K I R) : Mw d b N_X2_isAllowed 43 [some (pR (some MEN)), some (pI (nI i)), some (pI (nI (Os σ i))), some (pI (nI (fac (Os σ i)))), none] [] K I R Q := by
  obtain ⟨d9, rfl⟩ : ∃ d9, d = d9 + 1 := ⟨d - 1, by omega⟩
  refine mw_const i_23_43 (v := nI 0) (by decide) ?_
  refine mw_istore i_23_44 (ls' := [some (pR (some MEN)), some (pI (nI i)), some (pI (nI (Os σ i))), some (pI (nI (fac (Os σ i)))), some (pI (nI 0))]) rfl (Nat.le_of_ble_eq_true rfl) ?_
  exact k_al_lp (by omega) hW hX hO hc hs hch h4 hio h1a q (i + 1) 0 (fun _ j hj => absurd hj (Nat.not_lt_zero _)) (by omega) (by omega)
set_option maxRecDepth 20000 in
set_option maxHeartbeats 400000 in
theorem k_al1 {d b : Nat} {K : KM} {I : IM} {R : RM} {Q : QT} {n0 tw : Nat} {σ : ST} {c : Nat → Nat} {t i : Nat} (hd : 2 ≤ d) (hW : CW n0 σ K I R) (hX : FX σ tw I R) (hO : mO σ ≤ 4) (hc : ∀ j, j < mO σ → c j ≤ pn σ) (hs : Sts σ c (mO σ) I) (hch : ∀ j, j < mO σ → c j = cW σ t j) (h4 : ∀ j, j < mO σ → I (MN 4) j = nI (cg (nC σ) t j)) (hio : i < mO σ)  (q : Q (.inl (some (pI (bI (Al σ c i))))) K I R) : Mw d b N_X2_isAllowed 17 [some (pR (some MEN)), some (pI (nI i)), some (pI (nI (Os σ i))), some (pI (nI (fac (Os σ i)))), none] [] K I R Q := by
  obtain ⟨d9, rfl⟩ : ∃ d9, d = d9 + 1 := ⟨d - 1, by omega⟩
  have hS := hW.1.1
  have hR := hW.2.1
  have hV := hW.2.2
  have hpp := hW.2.2.1.2
  have hdd := hW.2.2.2.2.1.2
  have hz6 : mn σ (dn σ) ≤ 6 := (CW_c hW (d := dn σ) (by omega)).2.2.1
  have hop := (Os_lt hio).1
  have hfl : fac (Os σ i) < 2 * mn σ (dn σ) := by unfold fac; split <;> omega
  have hci := hc i hio
  have hwf := who_lt hV hc (s := fac (Os σ i)) hfl
  refine mw_aload i_23_17 (L := MEN) rfl ?_
  refine mw_getR i_23_18 hS.2.1.2.2.2.2 (q := some (MN 1)) (hS.2.2.2.2 1 (by omega)).1 ?_
  refine mw_iload i_23_19 (x := nI (fac (Os σ i))) rfl ?_
  refine mw_bald i_23_20 (jn := fac (Os σ i)) (n := 12) (by omega) (by omega) (show K (MN 1) = some (8, 12) from (hS.2.2.2.2 1 (by omega)).2) (v := bI (opn σ (fac (Os σ i)))) (hX.2.2.2.2.2.1 _ (by omega)) ?_
  refine mw_eqB i_23_21 rfl (fun c1 => ?_) (fun c1 => ?_)
  · skip
    exact k_al2 (by omega) hW hX hO hc hs hch h4 hio (fun h9 => absurd h9 c1) q
  · skip
    have hof := c1
    have J2 : Mw (d9 + 1) b 23 31 [some (pR (some MEN)), some (pI (nI i)), some (pI (nI (Os σ i))), some (pI (nI (fac (Os σ i)))), none] [pI (bI (c i = pn σ))] K I R Q := by
      have J3 : Mw (d9 + 1) b 23 40 [some (pR (some MEN)), some (pI (nI i)), some (pI (nI (Os σ i))), some (pI (nI (fac (Os σ i)))), none] [pI (bI (who σ c (mO σ) (fac (Os σ i)) = pn σ)), pI (bI (c i = pn σ))] K I R Q := by
        refine mw_ic i_23_40 (p := (bI (c i = pn σ)) = (bI (who σ c (mO σ) (fac (Os σ i)) = pn σ))) Iff.rfl (fun c4 => ?_) (fun c4 => ?_)
        · skip
          exact k_al2 (by omega) hW hX hO hc hs hch h4 hio (fun _ => bI_inj.mp c4) q
        · skip
          refine mw_const i_23_41 (v := nI 0) (by decide) ?_
          refine mw_iret i_23_42 (x := nI 0) (fun _ => (by decide)) ?_
          rw [show nI 0 = bI (Al σ c i) from (bI_f (fun h => c4 (by rw [bI_inj]; exact h.1 hof))).symm]
          exact q
      refine mw_aload i_23_31 (L := MEN) rfl ?_
      refine mw_getR i_23_32 hS.2.1.2.2.2.2 (q := some (MN 0)) (hS.2.2.2.2 0 (by omega)).1 ?_
      refine mw_iload i_23_33 (x := nI (fac (Os σ i))) rfl ?_
      refine mw_iald i_23_34 (jn := fac (Os σ i)) (n := 12) (by omega) (by omega) (show K (MN 0) = some (7, 12) from (hS.2.2.2.2 0 (by omega)).2) (by decide) (v := sv (pn σ) (who σ c (mO σ) (fac (Os σ i)))) (hs _ (by omega)) ?_
      refine mw_const i_23_35 (v := (-1)) (by decide) ?_
      refine mw_ic i_23_36 (p := ¬ (sv (pn σ) (who σ c (mO σ) (fac (Os σ i)))) = (-1)) Iff.rfl (fun c5 => ?_) (fun c5 => ?_)
      · skip
        refine mw_const i_23_39 (v := nI 0) (by decide) ?_
        rw [show nI 0 = bI (who σ c (mO σ) (fac (Os σ i)) = pn σ) from (bI_f ((fun h9 => c5 ((sv_iff (by omega)).mpr h9)))).symm]
        exact J3
      · skip
        refine mw_const i_23_37 (v := nI 1) (by decide) ?_
        refine mw_goto i_23_38 ?_
        rw [show nI 1 = bI (who σ c (mO σ) (fac (Os σ i)) = pn σ) from (bI_t (((sv_iff (by omega)).mp (Classical.not_not.mp c5)))).symm]
        exact J3
    refine mw_aload i_23_22 (L := MEN) rfl ?_
    refine mw_getR i_23_23 hS.2.1.2.2.2.2 (q := some (MN 0)) (hS.2.2.2.2 0 (by omega)).1 ?_
    refine mw_iload i_23_24 (x := nI (Os σ i)) rfl ?_
    refine mw_iald i_23_25 (jn := Os σ i) (n := 12) (by omega) (by omega) (show K (MN 0) = some (7, 12) from (hS.2.2.2.2 0 (by omega)).2) (by decide) (v := sv (pn σ) (c i)) ((hs _ (by omega)).trans (by rw [who_Os hio])) ?_
    refine mw_const i_23_26 (v := (-1)) (by decide) ?_
    refine mw_ic i_23_27 (p := ¬ (sv (pn σ) (c i)) = (-1)) Iff.rfl (fun c6 => ?_) (fun c6 => ?_)
    · skip
      refine mw_const i_23_30 (v := nI 0) (by decide) ?_
      rw [show nI 0 = bI (c i = pn σ) from (bI_f ((fun h9 => c6 ((sv_iff (by omega)).mpr h9)))).symm]
      exact J2
    · skip
      refine mw_const i_23_28 (v := nI 1) (by decide) ?_
      refine mw_goto i_23_29 ?_
      rw [show nI 1 = bI (c i = pn σ) from (bI_t (((sv_iff (by omega)).mp (Classical.not_not.mp c6)))).symm]
      exact J2
set_option maxRecDepth 20000 in
set_option maxHeartbeats 400000 in
theorem k_al {d b : Nat} {K : KM} {I : IM} {R : RM} {Q : QT} {n0 tw : Nat} {σ : ST} {c : Nat → Nat} {t i : Nat} (hd : 2 ≤ d) (hW : CW n0 σ K I R) (hX : FX σ tw I R) (hO : mO σ ≤ 4) (hc : ∀ j, j < mO σ → c j ≤ pn σ) (hs : Sts σ c (mO σ) I) (hch : ∀ j, j < mO σ → c j = cW σ t j) (h4 : ∀ j, j < mO σ → I (MN 4) j = nI (cg (nC σ) t j)) (hio : i < mO σ)  (q : Q (.inl (some (pI (bI (Al σ c i))))) K I R) : Mw d b N_X2_isAllowed 0 [some (pR (some MEN)), some (pI (nI i)), none, none, none] [] K I R Q := by
  obtain ⟨d9, rfl⟩ : ∃ d9, d = d9 + 1 := ⟨d - 1, by omega⟩
  have hS := hW.1.1
  have hR := hW.2.1
  have hV := hW.2.2
  have hpp := hW.2.2.1.2
  have hdd := hW.2.2.2.2.1.2
  have hz6 : mn σ (dn σ) ≤ 6 := (CW_c hW (d := dn σ) (by omega)).2.2.1
  have hop := (Os_lt hio).1
  have hfl : fac (Os σ i) < 2 * mn σ (dn σ) := by unfold fac; split <;> omega
  have hci := hc i hio
  have hwf := who_lt hV hc (s := fac (Os σ i)) hfl
  refine mw_aload i_23_0 (L := MEN) rfl ?_
  refine mw_getR i_23_1 hS.2.1.2.2.2.2 (q := some (MN 2)) (hS.2.2.2.2 2 (by omega)).1 ?_
  refine mw_iload i_23_2 (x := nI i) rfl ?_
  refine mw_iald i_23_3 (jn := i) (n := 4) (by omega) (by omega) (show K (MN 2) = some (7, 4) from (hS.2.2.2.2 2 (by omega)).2) (by decide) (v := nI (Os σ i)) (hX.2.2.2.2.2.2.1 i (by omega)) ?_
  refine mw_istore i_23_4 (ls' := [some (pR (some MEN)), some (pI (nI i)), some (pI (nI (Os σ i))), none, none]) rfl (Nat.le_of_ble_eq_true rfl) ?_
  refine mw_iload i_23_5 (x := nI (Os σ i)) rfl ?_
  refine mw_const i_23_6 (v := nI 2) (by decide) ?_
  refine mw_irem i_23_7 (by decide) (w := nI ((Os σ i) % 2)) (pk_rem (by omega) (by omega) (by omega)) ?_
  refine mw_if i_23_8 (p := ¬ (nI ((Os σ i) % 2)) = nI 0) Iff.rfl (fun c1 => ?_) (fun c1 => ?_)
  · skip
    have hm2 : ¬ Os σ i % 2 = 0 := fun h => c1 (by rw [h])
    refine mw_iload i_23_13 (x := nI (Os σ i)) rfl ?_
    refine mw_const i_23_14 (v := nI 1) (by decide) ?_
    refine mw_isub i_23_15 (w := nI ((Os σ i) - 1)) (pk_sub (by omega)) ?_
    refine mw_istore i_23_16 (ls' := [some (pR (some MEN)), some (pI (nI i)), some (pI (nI (Os σ i))), some (pI (nI ((Os σ i) - 1))), none]) rfl (Nat.le_of_ble_eq_true rfl) ?_
    have e9 : fac (Os σ i) = (Os σ i) - 1 := by
      unfold fac
      first | exact if_pos hm2 | exact if_neg hm2
    rw [← e9]
    exact k_al1 hd hW hX hO hc hs hch h4 hio q
  · skip
    have hm2 : Os σ i % 2 = 0 := nI_inj (Classical.not_not.mp c1) (by omega) (by omega)
    refine mw_iload i_23_9 (x := nI (Os σ i)) rfl ?_
    refine mw_const i_23_10 (v := nI 1) (by decide) ?_
    refine mw_iadd i_23_11 (w := nI (Os σ i + 1)) (nI_add _ _) ?_
    refine mw_goto i_23_12 ?_
    refine mw_istore i_23_16 (ls' := [some (pR (some MEN)), some (pI (nI i)), some (pI (nI (Os σ i))), some (pI (nI (Os σ i + 1))), none]) rfl (Nat.le_of_ble_eq_true rfl) ?_
    have e9 : fac (Os σ i) = Os σ i + 1 := by
      unfold fac
      first | exact if_pos hm2 | exact if_neg hm2
    rw [← e9]
    exact k_al1 hd hW hX hO hc hs hch h4 hio q
set_option maxRecDepth 20000 in
set_option maxHeartbeats 400000 in
theorem k_sum1_lp {d : Nat} {b : Nat} {K : KM} {R : RM} {Q : QT} {n0 tw t : Nat} {σ : ST} {I0 : IM} (hd : 1 ≤ d) (hO : mO σ ≤ 4) (q : ∀ I' u, CW n0 σ K I' R → FX σ tw I' R → FrX I0 I' → (∀ j, j < mO σ → I' (MN 4) j = nI (cg (nC σ) t j)) → Sts σ (cW σ t) (mO σ) I' → Mw d b N_X2_sumOfWay 35 [some (pR (some MEN)), some (pI (nI (mO σ))), some (pI (nI (mO σ))), u] [] K I' R Q) : ∀ (n i : Nat) (I : IM) (u3 : Option PV), mO σ - i < n → i ≤ mO σ → (CW n0 σ K I R) → (FX σ tw I R) → (FrX I0 I) → (∀ j, j < mO σ → I (MN 4) j = nI (cg (nC σ) t j)) → (∀ s, s < 2 * mn σ (dn σ) → ¬ opn σ s → I (MN 0) s = sv (pn σ) (sw σ s)) → (∀ k, k < i → I (MN 0) (Os σ k) = sv (pn σ) (cW σ t k)) → Mw d b N_X2_sumOfWay 7 [some (pR (some MEN)), some (pI (nI (mO σ))), some (pI (nI i)), u3] [] K I R Q := by
  obtain ⟨d9, rfl⟩ : ∃ d9, d = d9 + 1 := ⟨d - 1, by omega⟩
  intro n
  induction n with
  | zero => intro i I u3 hn; exact absurd hn (Nat.not_lt_zero _)
  | succ n ih =>
    intro i I u3 hn hi hW hX hF h4 hcl hsk
    have hS := hW.1.1
    have hR := hW.2.1
    have hV := hW.2.2
    have hpp := hW.2.2.1.2
    have hdd := hW.2.2.2.2.1.2
    have hz6 : mn σ (dn σ) ≤ 6 := (CW_c hW (d := dn σ) (by omega)).2.2.1
    have hOs : ∀ k, k < mO σ → Os σ k < 2 * mn σ (dn σ) := fun k hk => (Os_lt hk).1
    have hc10 : nC σ ≤ pn σ := cnt_le _ _
    have hcgi : cg (nC σ) t i ≤ nC σ := cg_le
    refine mw_iload i_22_7 (x := nI i) rfl ?_
    refine mw_iload i_22_8 (x := nI (mO σ)) rfl ?_
    refine mw_ic i_22_9 (p := (mO σ) ≤ i) (nI_leI (by omega) (by omega)) (fun c1 => ?_) (fun c1 => ?_)
    · skip
      obtain rfl : i = mO σ := by omega
      refine q I _ hW hX hF h4 (fun s9 hs9 => ?_)
      unfold who
      by_cases e9 : opn σ s9
      · have hl : cnt (opn σ) s9 < mO σ := cnt_lt hs9 e9
        rw [if_pos e9, if_pos hl, ← hsk _ hl]
        show I (MN 0) s9 = I (MN 0) (pos (opn σ) (2 * mn σ (dn σ)) (cnt (opn σ) s9))
        rw [pos_cnt hs9 e9]
      · rw [if_neg e9]; exact hcl s9 hs9 e9
    · skip
      have hoi := hOs i (by omega)
      refine mw_aload i_22_10 (L := MEN) rfl ?_
      refine mw_getR i_22_11 hS.2.1.2.2.2.2 (q := some (MN 0)) (hS.2.2.2.2 0 (by omega)).1 ?_
      refine mw_aload i_22_12 (L := MEN) rfl ?_
      refine mw_getR i_22_13 hS.2.1.2.2.2.2 (q := some (MN 2)) (hS.2.2.2.2 2 (by omega)).1 ?_
      refine mw_iload i_22_14 (x := nI i) rfl ?_
      refine mw_iald i_22_15 (jn := i) (n := 4) (by omega) (by omega) (show K (MN 2) = some (7, 4) from (hS.2.2.2.2 2 (by omega)).2) (by decide) (v := nI (Os σ i)) (hX.2.2.2.2.2.2.1 i (by omega)) ?_
      refine mw_aload i_22_16 (L := MEN) rfl ?_
      refine mw_getR i_22_17 hS.2.1.2.2.2.2 (q := some (MN 4)) (hS.2.2.2.2 4 (by omega)).1 ?_
      refine mw_iload i_22_18 (x := nI i) rfl ?_
      refine mw_iald i_22_19 (jn := i) (n := 4) (by omega) (by omega) (show K (MN 4) = some (7, 4) from (hS.2.2.2.2 4 (by omega)).2) (by decide) (v := nI (cg (nC σ) t i)) (h4 i (by omega)) ?_
      refine mw_aload i_22_20 (L := MEN) rfl ?_
      refine mw_get i_22_21 hS.2.1.2.2.2.2 (v := nI (nC σ)) hX.2.2.2.2.1 ?_
      refine mw_ic i_22_22 (p := (nC σ) ≤ (cg (nC σ) t i)) (nI_leI (by omega) (by omega)) (fun c2 => ?_) (fun c2 => ?_)
      · skip
        refine mw_const i_22_31 (v := (-1)) (by decide) ?_
        obtain ⟨I23, e23⟩ : ∃ I23, I23 = up2 I (MN 0) (Os σ i) (-1) := ⟨_, rfl⟩
        refine mw_iast i_22_32 (jn := Os σ i) (n := 12) (by omega) (by omega) (x := (-1)) (show K (MN 0) = some (7, 12) from (hS.2.2.2.2 0 (by omega)).2) (I' := I23) e23.symm ?_
        refine mw_iinc i_22_33 (x := nI i) (v := nI (i + 1)) (ls' := [some (pR (some MEN)), some (pI (nI (mO σ))), some (pI (nI (i + 1))), u3]) rfl (nI_add _ _) rfl ?_
        refine mw_goto i_22_34 ?_
        have ev : I23 (MN 0) (Os σ i) = sv (pn σ) (cW σ t i) := by
          rw [e23, up2_at, upd_at]
          exact Eq.symm (show sv (pn σ) (if cg (nC σ) t i < nC σ then Cd σ (cg (nC σ) t i) else pn σ) = _ from (by rw [if_neg (show ¬ cg (nC σ) t i < nC σ by omega), sv_P]))
        exact ih (i + 1) I23 _ (by omega) (by omega) (CW_N hW (FrN_X (e23.symm ▸ FrX_up FrX_rfl (by decide))) FrR_rfl) (FX_X hX (e23.symm ▸ FrX_up FrX_rfl (by decide))) (e23.symm ▸ FrX_up hF (by decide)) (fun j hj => by rw [e23, up2_ne (by simp)]; exact h4 j hj) (fun s9 hs9 ho9 => by
          rw [e23, up2_at, upd_ne (fun e9 => ho9 (by rw [e9]; exact (Os_lt (σ := σ) (by omega)).2.1))]; exact hcl s9 hs9 ho9) (fun k hk => by
          by_cases e9 : k = i
          · rw [e9]; exact ev
          · rw [e23, up2_at, upd_ne (fun e8 => e9 (Os_inj (by omega) (by omega) e8))]; exact hsk k (by omega))
      · skip
        have hcdi := (Cd_ok (σ := σ) (i := cg (nC σ) t i) (by omega)).1
        refine mw_aload i_22_23 (L := MEN) rfl ?_
        refine mw_getR i_22_24 hS.2.1.2.2.2.2 (q := some (MN 5)) (hS.2.2.2.2 5 (by omega)).1 ?_
        refine mw_aload i_22_25 (L := MEN) rfl ?_
        refine mw_getR i_22_26 hS.2.1.2.2.2.2 (q := some (MN 4)) (hS.2.2.2.2 4 (by omega)).1 ?_
        refine mw_iload i_22_27 (x := nI i) rfl ?_
        refine mw_iald i_22_28 (jn := i) (n := 4) (by omega) (by omega) (show K (MN 4) = some (7, 4) from (hS.2.2.2.2 4 (by omega)).2) (by decide) (v := nI (cg (nC σ) t i)) (h4 i (by omega)) ?_
        refine mw_iald i_22_29 (jn := cg (nC σ) t i) (n := 10) (by omega) (by omega) (show K (MN 5) = some (7, 10) from (hS.2.2.2.2 5 (by omega)).2) (by decide) (v := nI (Cd σ (cg (nC σ) t i))) (hX.2.2.2.2.2.2.2 (cg (nC σ) t i) (by omega)).1 ?_
        refine mw_goto i_22_30 ?_
        obtain ⟨I24, e24⟩ : ∃ I24, I24 = up2 I (MN 0) (Os σ i) (nI (Cd σ (cg (nC σ) t i))) := ⟨_, rfl⟩
        refine mw_iast i_22_32 (jn := Os σ i) (n := 12) (by omega) (by omega) (x := nI (Cd σ (cg (nC σ) t i))) (show K (MN 0) = some (7, 12) from (hS.2.2.2.2 0 (by omega)).2) (I' := I24) e24.symm ?_
        refine mw_iinc i_22_33 (x := nI i) (v := nI (i + 1)) (ls' := [some (pR (some MEN)), some (pI (nI (mO σ))), some (pI (nI (i + 1))), u3]) rfl (nI_add _ _) rfl ?_
        refine mw_goto i_22_34 ?_
        have ev : I24 (MN 0) (Os σ i) = sv (pn σ) (cW σ t i) := by
          rw [e24, up2_at, upd_at]
          exact Eq.symm (show sv (pn σ) (if cg (nC σ) t i < nC σ then Cd σ (cg (nC σ) t i) else pn σ) = _ from (by rw [if_pos (show cg (nC σ) t i < nC σ by omega), sv_n (by have := (Cd_ok (σ := σ) (i := cg (nC σ) t i) (by omega)).1; omega)]))
        exact ih (i + 1) I24 _ (by omega) (by omega) (CW_N hW (FrN_X (e24.symm ▸ FrX_up FrX_rfl (by decide))) FrR_rfl) (FX_X hX (e24.symm ▸ FrX_up FrX_rfl (by decide))) (e24.symm ▸ FrX_up hF (by decide)) (fun j hj => by rw [e24, up2_ne (by simp)]; exact h4 j hj) (fun s9 hs9 ho9 => by
          rw [e24, up2_at, upd_ne (fun e9 => ho9 (by rw [e9]; exact (Os_lt (σ := σ) (by omega)).2.1))]; exact hcl s9 hs9 ho9) (fun k hk => by
          by_cases e9 : k = i
          · rw [e9]; exact ev
          · rw [e24, up2_at, upd_ne (fun e8 => e9 (Os_inj (by omega) (by omega) e8))]; exact hsk k (by omega))
set_option maxRecDepth 20000 in
theorem k_sum2_lp {d b : Nat} {K : KM} {I : IM} {R : RM} {Q : QT} {n0 tw t : Nat} {σ : ST} (hd : 3 ≤ d) (hW : CW n0 σ K I R) (hX : FX σ tw I R) (hO : mO σ ≤ 4) (hs : Sts σ (cW σ t) (mO σ) I) (h4 : ∀ j, j < mO σ → I (MN 4) j = nI (cg (nC σ) t j)) (q : Q (.inl (some (pI (Vv σ tw (cW σ t))))) K I R) : ∀ (n i : Nat) (hal : ∀ j, j < i → Al σ (cW σ t) j), mO σ - i < n → i ≤ mO σ → Mw d b N_X2_sumOfWay 39 [some (pR (some MEN)), some (pI (nI (mO σ))), some (pI (smW σ tw (cW σ t) i)), some (pI (nI i))] [] K I R Q := by
  obtain ⟨d9, rfl⟩ : ∃ d9, d = d9 + 1 := ⟨d - 1, by omega⟩
  intro n
  induction n with
  | zero => intro i hal hn; exact absurd hn (Nat.not_lt_zero _)
  | succ n ih =>
    intro i hal hn hi
    have hS := hW.1.1
    have hR := hW.2.1
    have hV := hW.2.2
    have hpp := hW.2.2.1.2
    have hdd := hW.2.2.2.2.1.2
    have hz6 : mn σ (dn σ) ≤ 6 := (CW_c hW (d := dn σ) (by omega)).2.2.1
    have hc10 : nC σ ≤ pn σ := cnt_le _ _
    have hcgi : cg (nC σ) t i ≤ nC σ := cg_le
    refine mw_iload i_22_39 (x := nI i) rfl ?_
    refine mw_iload i_22_40 (x := nI (mO σ)) rfl ?_
    refine mw_ic i_22_41 (p := (mO σ) ≤ i) (nI_leI (by omega) (by omega)) (fun c1 => ?_) (fun c1 => ?_)
    · skip
      refine mw_iload i_22_69 (x := smW σ tw (cW σ t) i) rfl ?_
      refine mw_iretI i_22_70 (x := smW σ tw (cW σ t) i) rt_22 ?_
      obtain rfl : i = mO σ := by omega
      have hv : Vv σ tw (cW σ t) = smW σ tw (cW σ t) (mO σ) := if_pos ((PVd_Al (fun k _ => cW_c)).mpr (fun j hj => hal j hj))
      rw [hv] at q
      exact q
    · skip
      refine mw_aload i_22_42 (L := MEN) rfl ?_
      refine mw_iload i_22_43 (x := nI i) rfl ?_
      refine mw_callV i_22_44 mf_23 (as := [pI (nI i)]) (rest := []) (d' := d9) (b' := b) (ls0 := [some (pR (some MEN)), some (pI (nI i)), none, none, none]) rfl rfl rfl (Nat.le_of_ble_eq_true rfl) hS.2.1.2.2.2.2 rfl rfl rfl ?_
      refine k_al (t := t) (i := i) (by omega) hW hX hO (fun j _ => cW_le) hs (fun _ _ => rfl) h4 (by omega) ?_
      refine aft_v ?_
      refine mw_neB i_22_45 rfl (fun c2 => ?_) (fun c2 => ?_)
      · skip
        refine mw_iload i_22_48 (x := smW σ tw (cW σ t) i) rfl ?_
        refine mw_aload i_22_49 (L := MEN) rfl ?_
        refine mw_getR i_22_50 hS.2.1.2.2.2.2 (q := some (MN 4)) (hS.2.2.2.2 4 (by omega)).1 ?_
        refine mw_iload i_22_51 (x := nI i) rfl ?_
        refine mw_iald i_22_52 (jn := i) (n := 4) (by omega) (by omega) (show K (MN 4) = some (7, 4) from (hS.2.2.2.2 4 (by omega)).2) (by decide) (v := nI (cg (nC σ) t i)) (h4 i (by omega)) ?_
        refine mw_aload i_22_53 (L := MEN) rfl ?_
        refine mw_get i_22_54 hS.2.1.2.2.2.2 (v := nI (nC σ)) hX.2.2.2.2.1 ?_
        refine mw_ic i_22_55 (p := (nC σ) ≤ (cg (nC σ) t i)) (nI_leI (by omega) (by omega)) (fun c3 => ?_) (fun c3 => ?_)
        · skip
          refine mw_const i_22_64 (v := nI 0) (by decide) ?_
          refine mw_iadd i_22_65 (w := smW σ tw (cW σ t) (i + 1)) (show smW σ tw (cW σ t) i + nI 0 = smW σ tw (cW σ t) i + wo σ tw (if cg (nC σ) t i < nC σ then Cd σ (cg (nC σ) t i) else pn σ) from by rw [if_neg (show ¬ cg (nC σ) t i < nC σ by omega), wo_P]) ?_
          refine mw_istore i_22_66 (ls' := [some (pR (some MEN)), some (pI (nI (mO σ))), some (pI (smW σ tw (cW σ t) (i + 1))), some (pI (nI i))]) rfl (Nat.le_of_ble_eq_true rfl) ?_
          refine mw_iinc i_22_67 (x := nI i) (v := nI (i + 1)) (ls' := [some (pR (some MEN)), some (pI (nI (mO σ))), some (pI (smW σ tw (cW σ t) (i + 1))), some (pI (nI (i + 1)))]) rfl (nI_add _ _) rfl ?_
          refine mw_goto i_22_68 ?_
          exact ih (i + 1) (fun j hj => by
            by_cases e9 : j = i
            · rw [e9]; first | exact c2 | exact Classical.not_not.mp c2
            · exact hal j (by omega)) (by omega) (by omega)
        · skip
          have hcdi := (Cd_ok (σ := σ) (i := cg (nC σ) t i) (by omega)).1
          refine mw_aload i_22_56 (L := MEN) rfl ?_
          refine mw_getR i_22_57 hS.2.1.2.2.2.2 (q := some (MN 6)) (hS.2.2.2.2 6 (by omega)).1 ?_
          refine mw_aload i_22_58 (L := MEN) rfl ?_
          refine mw_getR i_22_59 hS.2.1.2.2.2.2 (q := some (MN 4)) (hS.2.2.2.2 4 (by omega)).1 ?_
          refine mw_iload i_22_60 (x := nI i) rfl ?_
          refine mw_iald i_22_61 (jn := i) (n := 4) (by omega) (by omega) (show K (MN 4) = some (7, 4) from (hS.2.2.2.2 4 (by omega)).2) (by decide) (v := nI (cg (nC σ) t i)) (h4 i (by omega)) ?_
          refine mw_iald i_22_62 (jn := cg (nC σ) t i) (n := 10) (by omega) (by omega) (show K (MN 6) = some (7, 10) from (hS.2.2.2.2 6 (by omega)).2) (by decide) (v := wrt σ tw (Cd σ (cg (nC σ) t i))) (hX.2.2.2.2.2.2.2 (cg (nC σ) t i) (by omega)).2 ?_
          refine mw_goto i_22_63 ?_
          refine mw_iadd i_22_65 (w := smW σ tw (cW σ t) (i + 1)) (show smW σ tw (cW σ t) i + wrt σ tw (Cd σ (cg (nC σ) t i)) = smW σ tw (cW σ t) i + wo σ tw (if cg (nC σ) t i < nC σ then Cd σ (cg (nC σ) t i) else pn σ) from by rw [if_pos (show cg (nC σ) t i < nC σ by omega), wo_n (Cd_ok (σ := σ) (i := cg (nC σ) t i) (by omega)).1]) ?_
          refine mw_istore i_22_66 (ls' := [some (pR (some MEN)), some (pI (nI (mO σ))), some (pI (smW σ tw (cW σ t) (i + 1))), some (pI (nI i))]) rfl (Nat.le_of_ble_eq_true rfl) ?_
          refine mw_iinc i_22_67 (x := nI i) (v := nI (i + 1)) (ls' := [some (pR (some MEN)), some (pI (nI (mO σ))), some (pI (smW σ tw (cW σ t) (i + 1))), some (pI (nI (i + 1)))]) rfl (nI_add _ _) rfl ?_
          refine mw_goto i_22_68 ?_
          exact ih (i + 1) (fun j hj => by
            by_cases e9 : j = i
            · rw [e9]; first | exact c2 | exact Classical.not_not.mp c2
            · exact hal j (by omega)) (by omega) (by omega)
      · skip
        refine mw_const i_22_46 (v := (-1)) (by decide) ?_
        refine mw_iretI i_22_47 (x := (-1)) rt_22 ?_
        have hv : Vv σ tw (cW σ t) = (-1) := if_neg (fun h => c2 ((PVd_Al (fun k _ => cW_c)).mp h i (by omega)))
        rw [hv] at q
        exact q
