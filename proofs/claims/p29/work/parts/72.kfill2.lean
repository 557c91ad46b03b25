/-! the mender goes through the ways: place for place -/
def FillC (n0 tw : Nat) (σ : ST) (K : KM) (R : RM) (p : Nat) : Prop := ∀ (d b : Nat) (I : IM) (Q : QT) (c : Nat → Nat) (sm : Int32), mO σ - p + 3 ≤ d → CW n0 σ K I R → FX σ tw I R → Sts σ c p I → Tkn σ c p I → Bst σ tw (pre (pn σ) c p * (pn σ + 1) ^ (mO σ - p)) I → PVd σ c p → (∀ j, j < p → c j ≤ pn σ) → sm = smW σ tw c p → (∀ I', FrX I I' → Sts σ c p I' → Tkn σ c p I' → Bst σ tw ((pre (pn σ) c p + 1) * (pn σ + 1) ^ (mO σ - p)) I' → Q (.inl none) K I' R) → Mw d b N_X2_fillFrom 0 [some (pR (some MEN)), some (pI (nI p)), some (pI sm), none, none, none, none] [] K I R Q
theorem Bst_no {σ : ST} {tw n : Nat} {I : IM} (h : Bst σ tw n I) (hn : ¬ (Wb (Vw σ tw) n).1 < Vw σ tw n) : Bst σ tw (n + 1) I := by
  unfold Bst
  rw [Wb_s, if_neg hn]
  exact h
theorem Bst_yes {σ : ST} {tw n : Nat} {I : IM} (hv : (Wb (Vw σ tw) n).1 < Vw σ tw n) (e13 : I MEN 13 = Vw σ tw n) (e3 : ∀ k, k < mO σ → I (MN 3) k = sv (pn σ) (dig (pn σ) (mO σ) n k)) : Bst σ tw (n + 1) I := by
  unfold Bst
  rw [Wb_s, if_pos hv]
  exact ⟨e13, fun _ => e3⟩
theorem Bst_eq {σ : ST} {tw n m : Nat} {I I' : IM} (h : Bst σ tw n I) (e13 : I' MEN 13 = I MEN 13) (e3 : I' (MN 3) = I (MN 3)) (e : Wb (Vw σ tw) m = Wb (Vw σ tw) n) : Bst σ tw m I' := by
  unfold Bst
  rw [e13, e3, e]
  exact h
theorem who_bnd {σ : ST} {c : Nat → Nat} {p : Nat} (hp : p < mO σ) (hb : bnd σ p) (hc : ∀ j, j < p → c j ≤ pn σ) (h10 : pn σ ≤ 10) : sv (pn σ) (who σ c p (Os σ p - 1)) = (-1) ↔ c (p - 1) = pn σ := by
  obtain ⟨h0, h1⟩ := bnd_pos hb hp
  have hl := Os_lt (σ := σ) (p := p - 1) (by omega)
  rw [h1] at hl
  have e : who σ c p (Os σ p - 1) = c (p - 1) := by
    unfold who
    rw [if_pos hl.2.1, hl.2.2, if_pos (by omega)]
  rw [e]
  exact sv_iff (by have := hc (p - 1) (by omega); omega)
theorem Lk_no_bnd {σ : ST} {c : Nat → Nat} {p e : Nat} (hp : p < mO σ) (hb : bnd σ p) (h : ¬ (e = pn σ ↔ c (p - 1) = pn σ)) : ¬ Lk σ (upn c p e) p := fun q => by
  have h0 := (bnd_pos hb hp).1
  have := q.2.1 hb
  rw [upn_at, upn_ne (by omega)] at this
  exact h this
theorem PVd_up {σ : ST} {c : Nat → Nat} {p e : Nat} (hp : p < mO σ) (h : PVd σ c p) (hl : Lk σ (upn c p e) p) : PVd σ (upn c p e) (p + 1) := fun k hk => by
  by_cases q : k = p
  · rw [q]; exact hl
  · exact (Lk_congr (by omega) (fun j hj => (upn_ne (by omega)).symm)).mp (h k (by omega))
theorem up_le {σ : ST} {c : Nat → Nat} {p e : Nat} (hc : ∀ j, j < p → c j ≤ pn σ) (he : e ≤ pn σ) : ∀ j, j < p + 1 → upn c p e j ≤ pn σ := fun j hj => by
  by_cases q : j = p
  · rw [q, upn_at]; exact he
  · rw [upn_ne q]; exact hc j (by omega)
theorem smW_up {σ : ST} {tw : Nat} {c : Nat → Nat} {p e : Nat} : smW σ tw (upn c p e) (p + 1) = smW σ tw c p + wo σ tw e := by
  show smI _ p + wo σ tw (upn c p e p) = _
  rw [upn_at]
  have : smI (fun k => wo σ tw (upn c p e k)) p = smI (fun k => wo σ tw (c k)) p := smI_congr (fun k hk => by rw [upn_ne (by omega)])
  rw [this]
  rfl
theorem wo_P {σ : ST} {tw : Nat} : wo σ tw (pn σ) = nI 0 := if_pos rfl
theorem wo_n {σ : ST} {tw w : Nat} (h : w < pn σ) : wo σ tw w = wrt σ tw w := if_neg (by omega)
theorem add0 (x : Int32) : x + nI 0 = x := Int32.add_zero x
/-- the seats behind a comer at the next place -/
theorem Sts_up {σ : ST} {c : Nat → Nat} {p e : Nat} {I I' : IM} (hp : p < mO σ) (h : ∀ s, s < 2 * mn σ (dn σ) → s ≠ Os σ p → I (MN 0) s = sv (pn σ) (who σ c p s)) (e0 : I' (MN 0) = upd (I (MN 0)) (Os σ p) (sv (pn σ) e)) : Sts σ (upn c p e) (p + 1) I' := fun s hs => by
  rw [e0]
  by_cases q : s = Os σ p
  · rw [q, upd_at, who_at hp]
  · rw [upd_ne q, who_ne hp hs q]; exact h s hs q
theorem Sts_dn {σ : ST} {c : Nat → Nat} {p e : Nat} {I I' : IM} (hp : p < mO σ) (h : Sts σ (upn c p e) (p + 1) I) (e0 : I' (MN 0) = I (MN 0)) : ∀ s, s < 2 * mn σ (dn σ) → s ≠ Os σ p → I' (MN 0) s = sv (pn σ) (who σ c p s) := fun s hs q => by
  rw [e0, h s hs, who_ne hp hs q]
theorem Sts_P {σ : ST} {c : Nat → Nat} {p : Nat} {I : IM} (hp : p < mO σ) (h : Sts σ (upn c p (pn σ)) (p + 1) I) : Sts σ c p I := fun s hs => by rw [h s hs, who_P hp hs]
theorem Tkn_up {σ : ST} {c : Nat → Nat} {p i : Nat} {I I' : IM} (hi : i < nC σ) (h : Tkn σ c p I) (e7 : I' (MN 7) = upd (I (MN 7)) i (nI 1)) : Tkn σ (upn c p (Cd σ i)) (p + 1) I' := fun k hk => by
  rw [e7]
  by_cases q : k = i
  · rw [q, upd_at]
    exact (bI_t ⟨p, by omega, upn_at⟩).symm
  · rw [upd_ne q, h k hk]
    refine bI_congr ⟨fun ⟨j, hj, e⟩ => ⟨j, by omega, by rw [upn_ne (by omega)]; exact e⟩, fun ⟨j, hj, e⟩ => ?_⟩
    by_cases q2 : j = p
    · rw [q2, upn_at] at e
      exact absurd (Cd_inj hi hk e).symm q
    · rw [upn_ne q2] at e
      exact ⟨j, by omega, e⟩
theorem Tkn_dn {σ : ST} {c : Nat → Nat} {p i : Nat} {I I' : IM} (hi : i < nC σ) (hn : ¬ ∃ j, j < p ∧ c j = Cd σ i) (h : Tkn σ (upn c p (Cd σ i)) (p + 1) I) (e7 : I' (MN 7) = upd (I (MN 7)) i (nI 0)) : Tkn σ c p I' := fun k hk => by
  rw [e7]
  by_cases q : k = i
  · rw [q, upd_at]
    exact (bI_f hn).symm
  · rw [upd_ne q, h k hk]
    refine bI_congr ⟨fun ⟨j, hj, e⟩ => ?_, fun ⟨j, hj, e⟩ => ⟨j, by omega, by rw [upn_ne (by omega)]; exact e⟩⟩
    by_cases q2 : j = p
    · rw [q2, upn_at] at e
      exact absurd (Cd_inj hi hk e).symm q
    · rw [upn_ne q2] at e
      exact ⟨j, by omega, e⟩
theorem Tkn_P {σ : ST} {c : Nat → Nat} {p : Nat} {I I' : IM} (e7 : I' (MN 7) = I (MN 7)) : Tkn σ c p I ↔ Tkn σ (upn c p (pn σ)) (p + 1) I' := by
  have e : ∀ k, k < nC σ → ((∃ j, j < p ∧ c j = Cd σ k) ↔ ∃ j, j < p + 1 ∧ upn c p (pn σ) j = Cd σ k) := fun k hk => ⟨fun ⟨j, hj, e⟩ => ⟨j, by omega, by rw [upn_ne (by omega)]; exact e⟩, fun ⟨j, hj, e⟩ => by
    by_cases q2 : j = p
    · rw [q2, upn_at] at e
      have := (Cd_ok hk).1
      omega
    · rw [upn_ne q2] at e
      exact ⟨j, by omega, e⟩⟩
  unfold Tkn
  rw [e7]
  exact ⟨fun a k hk => by rw [a k hk, bI_congr (e k hk)], fun a k hk => by rw [a k hk, bI_congr (e k hk)]⟩
set_option maxRecDepth 20000 in
set_option maxHeartbeats 400000 in
theorem k_fill_end {d b : Nat} {K : KM} {I : IM} {R : RM} {Q : QT} {n0 tw : Nat} {σ : ST} {c : Nat → Nat} {sm : Int32} (hd : 1 ≤ d) (hW : CW n0 σ K I R) (hX : FX σ tw I R) (hO : mO σ ≤ 4) (hs : Sts σ c (mO σ) I) (ht : Tkn σ c (mO σ) I) (hb : Bst σ tw (pre (pn σ) c (mO σ) * (pn σ + 1) ^ (mO σ - (mO σ))) I) (hP : PVd σ c (mO σ)) (hc : ∀ j, j < (mO σ) → c j ≤ pn σ) (hsm : sm = smW σ tw c (mO σ)) (q : ∀ I', FrX I I' → Sts σ c (mO σ) I' → Tkn σ c (mO σ) I' → Bst σ tw ((pre (pn σ) c (mO σ) + 1) * (pn σ + 1) ^ (mO σ - (mO σ))) I' → Q (.inl none) K I' R) : Mw d b N_X2_fillFrom 0 [some (pR (some MEN)), some (pI (nI (mO σ))), some (pI sm), none, none, none, none] [] K I R Q := by
  obtain ⟨d9, rfl⟩ : ∃ d9, d = d9 + 1 := ⟨d - 1, by omega⟩
  have hS := hW.1.1
  have hR := hW.2.1
  have hV := hW.2.2
  have hpp := hW.2.2.1.2
  have hdd := hW.2.2.2.2.1.2
  have hz6 : mn σ (dn σ) ≤ 6 := (CW_c hW (d := dn σ) (by omega)).2.2.1
  refine mw_iload i_16_0 (x := nI (mO σ)) rfl ?_
  refine mw_aload i_16_1 (L := MEN) rfl ?_
  refine mw_get i_16_2 hS.2.1.2.2.2.2 (v := nI (mO σ)) hX.2.2.2.1 ?_
  refine mw_ic i_16_3 (p := (mO σ) ≤ (mO σ)) (nI_leI (by omega) (by omega)) (fun c1 => ?_) (fun c1 => ?_)
  · skip
    refine mw_aload i_16_7 (L := MEN) rfl ?_
    refine mw_iload i_16_8 (x := sm) rfl ?_
    refine mw_callV i_16_9 mf_17 (as := [pI sm]) (rest := []) (d' := d9) (b' := b) (ls0 := [some (pR (some MEN)), some (pI sm), none]) rfl rfl rfl (Nat.le_of_ble_eq_true rfl) hS.2.1.2.2.2.2 rfl rfl rfl ?_
    refine k_keep hS hO hz6 hX hb.1 (fun hlt => ?_) (fun hlt I9 hF9 h09 h79 h139 h39 => ?_)
    · skip
      refine aft_n ?_
      refine mw_ret i_16_10 ?_
      obtain ⟨v1, v2⟩ := Vw_at (tw := tw) hc hP
      have e1 : pre (pn σ) c (mO σ) * (pn σ + 1) ^ (mO σ - mO σ) = pre (pn σ) c (mO σ) := by rw [Nat.sub_self, Nat.pow_zero, Nat.mul_one]
      have e2 : (pre (pn σ) c (mO σ) + 1) * (pn σ + 1) ^ (mO σ - mO σ) = pre (pn σ) c (mO σ) + 1 := by rw [Nat.sub_self, Nat.pow_zero, Nat.mul_one]
      rw [e2] at q
      rw [e1] at hb hlt
      rw [hsm, ← v1] at hlt
      exact q I FrX_rfl hs ht (Bst_no hb hlt)
    · skip
      refine aft_n ?_
      refine mw_ret i_16_10 ?_
      obtain ⟨v1, v2⟩ := Vw_at (tw := tw) hc hP
      have e1 : pre (pn σ) c (mO σ) * (pn σ + 1) ^ (mO σ - mO σ) = pre (pn σ) c (mO σ) := by rw [Nat.sub_self, Nat.pow_zero, Nat.mul_one]
      have e2 : (pre (pn σ) c (mO σ) + 1) * (pn σ + 1) ^ (mO σ - mO σ) = pre (pn σ) c (mO σ) + 1 := by rw [Nat.sub_self, Nat.pow_zero, Nat.mul_one]
      rw [e2] at q
      rw [e1] at hb hlt
      rw [hsm, ← v1] at hlt
      refine q I9 hF9 (fun s9 hs9 => by rw [h09]; exact hs s9 hs9) (fun i9 hi9 => by rw [h79]; exact ht i9 hi9) (Bst_yes hlt (by rw [v1, h139, hsm]) (fun k hk => ?_))
      have ho := Os_lt hk
      rw [h39 k hk, hs _ ho.1, v2 k hk]
      unfold who
      rw [if_pos ho.2.1, ho.2.2, if_pos hk]
  · skip
    exact absurd (Nat.le_refl (mO σ)) c1
set_option maxRecDepth 20000 in
set_option maxHeartbeats 400000 in
theorem k_fill_lp {d : Nat} {b : Nat} {K : KM} {R : RM} {Q : QT} {n0 tw : Nat} {σ : ST} {c : Nat → Nat} {p : Nat} {sm : Int32} {I0 : IM} (hd : 1 ≤ d) (hd3 : mO σ - p + 3 ≤ d) (hW0 : CW n0 σ K I0 R) (hO : mO σ ≤ 4) (hp : p < mO σ) (hrec : FillC n0 tw σ K R (p + 1)) (hP : PVd σ c p) (hc : ∀ j, j < p → c j ≤ pn σ) (hsm : sm = smW σ tw c p) (q97 : ∀ i I, FX σ tw I R → FrX I0 I → (∀ s, s < 2 * mn σ (dn σ) → s ≠ Os σ p → I (MN 0) s = sv (pn σ) (who σ c p s)) → Tkn σ c p I → Bst σ tw (bg σ c p (pn σ)) I → Mw d b N_X2_fillFrom 97 [some (pR (some MEN)), some (pI (nI p)), some (pI sm), some (pI (nI (Os σ p))), some (pI (bI (bnd σ p))), some (pI (bI (bnd σ p ∧ c (p - 1) = pn σ))), some (pI (nI i))] [] K I R Q) : ∀ (n i : Nat) (I : IM), nC σ - i < n → i ≤ nC σ → (FX σ tw I R) → (FrX I0 I) → (∀ s, s < 2 * mn σ (dn σ) → s ≠ Os σ p → I (MN 0) s = sv (pn σ) (who σ c p s)) → (Tkn σ c p I) → (Bst σ tw (bg σ c p (ei σ i)) I) → Mw d b N_X2_fillFrom 48 [some (pR (some MEN)), some (pI (nI p)), some (pI sm), some (pI (nI (Os σ p))), some (pI (bI (bnd σ p))), some (pI (bI (bnd σ p ∧ c (p - 1) = pn σ))), some (pI (nI i))] [] K I R Q := by
  obtain ⟨d9, rfl⟩ : ∃ d9, d = d9 + 1 := ⟨d - 1, by omega⟩
  intro n
  induction n with
  | zero => intro i I  hn; exact absurd hn (Nat.not_lt_zero _)
  | succ n ih =>
    intro i I  hn hi hX hF hs ht hb
    have hW := CW_N hW0 (FrN_X hF) FrR_rfl
    have hS := hW.1.1
    have hR := hW.2.1
    have hV := hW.2.2
    have hpp := hW.2.2.1.2
    have hdd := hW.2.2.2.2.1.2
    have hz6 : mn σ (dn σ) ≤ 6 := (CW_c hW (d := dn σ) (by omega)).2.2.1
    have hop := (Os_lt hp).1
    have hc10 : nC σ ≤ pn σ := cnt_le _ _
    refine mw_iload i_16_48 (x := nI i) rfl ?_
    refine mw_aload i_16_49 (L := MEN) rfl ?_
    refine mw_get i_16_50 hS.2.1.2.2.2.2 (v := nI (nC σ)) hX.2.2.2.2.1 ?_
    refine mw_ic i_16_51 (p := (nC σ) ≤ i) (nI_leI (by omega) (by omega)) (fun c1 => ?_) (fun c1 => ?_)
    · skip
      exact q97 i I hX hF hs ht (Bst_eq hb rfl rfl (Wb_nos hp hc (ei_P hi) (by omega) (fun k h1 h2 => Lk_no_cand (by omega) (ei_gap hi h1 (fun h => absurd h (by omega)) (by omega)))))
    · skip
      have hin : i < nC σ := by omega
      have hcd := Cd_ok hin
      have hcp := hcd.1
      have hgap : Wb (Vw σ tw) (bg σ c p (Cd σ i)) = Wb (Vw σ tw) (bg σ c p (ei σ i)) := Wb_nos hp hc (ei_le hin) (by omega) (fun k h1 h2 => Lk_no_cand (by omega) (ei_gap (by omega) h1 (fun _ => h2) (by omega)))
      refine mw_iload i_16_52 (x := bI (bnd σ p ∧ c (p - 1) = pn σ)) rfl ?_
      refine mw_neB i_16_53 rfl (fun c2 => ?_) (fun c2 => ?_)
      · skip
        exact q97 i I hX hF hs ht (Bst_eq hb rfl rfl (Wb_nos hp hc (ei_P hi) (by omega) (fun k h1 h2 => Lk_no_bnd hp c2.1 (fun h => absurd (h.mpr c2.2) (by omega)))))
      · skip
        refine mw_aload i_16_54 (L := MEN) rfl ?_
        refine mw_getR i_16_55 hS.2.1.2.2.2.2 (q := some (MN 7)) (hS.2.2.2.2 7 (by omega)).1 ?_
        refine mw_iload i_16_56 (x := nI i) rfl ?_
        refine mw_bald i_16_57 (jn := i) (n := 10) (by omega) (by omega) (show K (MN 7) = some (8, 10) from (hS.2.2.2.2 7 (by omega)).2) (v := bI (∃ j, j < p ∧ c j = Cd σ i)) (ht i (by omega)) ?_
        refine mw_eqB i_16_58 rfl (fun c3 => ?_) (fun c3 => ?_)
        · skip
          refine mw_aload i_16_60 (L := MEN) rfl ?_
          refine mw_getR i_16_61 hS.2.1.2.2.2.2 (q := some (MN 0)) (hS.2.2.2.2 0 (by omega)).1 ?_
          refine mw_iload i_16_62 (x := nI (Os σ p)) rfl ?_
          refine mw_aload i_16_63 (L := MEN) rfl ?_
          refine mw_getR i_16_64 hS.2.1.2.2.2.2 (q := some (MN 5)) (hS.2.2.2.2 5 (by omega)).1 ?_
          refine mw_iload i_16_65 (x := nI i) rfl ?_
          refine mw_iald i_16_66 (jn := i) (n := 10) (by omega) (by omega) (show K (MN 5) = some (7, 10) from (hS.2.2.2.2 5 (by omega)).2) (by decide) (v := nI (Cd σ i)) (hX.2.2.2.2.2.2.2 i (by omega)).1 ?_
          obtain ⟨I24, e24⟩ : ∃ I24, I24 = up2 I (MN 0) (Os σ p) (nI (Cd σ i)) := ⟨_, rfl⟩
          refine mw_iast i_16_67 (jn := Os σ p) (n := 12) (by omega) (by omega) (x := nI (Cd σ i)) (show K (MN 0) = some (7, 12) from (hS.2.2.2.2 0 (by omega)).2) (I' := I24) e24.symm ?_
          refine mw_aload i_16_68 (L := MEN) rfl ?_
          refine mw_iload i_16_69 (x := nI (Os σ p)) rfl ?_
          refine mw_const i_16_70 (v := nI 2) (by decide) ?_
          refine mw_idiv i_16_71 (by decide) (w := nI ((Os σ p) / 2)) (pk_div (by omega) (by omega) (by omega)) ?_
          have hX1 : FX σ tw I24 R := FX_X hX (e24.symm ▸ FrX_up FrX_rfl (by decide))
          have hs1 : Sts σ (upn c p (Cd σ i)) (p + 1) I24 := Sts_up hp hs (by rw [e24, up2_at, sv_n (by omega)])
          have hW1 := CW_N hW (FrN_X (e24.symm ▸ FrX_up FrX_rfl (by decide))) FrR_rfl
          refine mw_callV i_16_72 mf_18 (as := [pI (nI ((Os σ p) / 2))]) (rest := []) (d' := d9) (b' := b) (ls0 := [some (pR (some MEN)), some (pI (nI ((Os σ p) / 2))), none, none, none, none]) rfl rfl rfl (Nat.le_of_ble_eq_true rfl) hS.2.1.2.2.2.2 rfl rfl rfl ?_
          refine k_bar (by omega) hW1 hX1 (by omega) (up_le hc (by omega)) hs1 ?_
          refine aft_v ?_
          refine mw_neB i_16_73 rfl (fun c5 => ?_) (fun c5 => ?_)
          · skip
            refine mw_iinc i_16_95 (x := nI i) (v := nI (i + 1)) (ls' := [some (pR (some MEN)), some (pI (nI p)), some (pI sm), some (pI (nI (Os σ p))), some (pI (bI (bnd σ p))), some (pI (bI (bnd σ p ∧ c (p - 1) = pn σ))), some (pI (nI (i + 1)))]) rfl (nI_add _ _) rfl ?_
            refine mw_goto i_16_96 ?_
            exact ih (i + 1) I24 (by omega) (by omega) hX1 (FrX_tr hF (e24.symm ▸ FrX_up FrX_rfl (by decide))) (Sts_dn hp hs1 rfl) (fun i9 hi9 => by rw [e24, up2_ne (by simp)]; exact ht i9 hi9) (Bst_eq hb (by rw [e24, up2_ne (by simp)]) (by rw [e24, up2_ne (by simp)]) ((Wb_no hp hc (by omega) (fun h => h.2.2 c5)).trans hgap))
          · skip
            refine mw_aload i_16_74 (L := MEN) rfl ?_
            refine mw_getR i_16_75 hS.2.1.2.2.2.2 (q := some (MN 7)) (hS.2.2.2.2 7 (by omega)).1 ?_
            refine mw_iload i_16_76 (x := nI i) rfl ?_
            refine mw_const i_16_77 (v := nI 1) (by decide) ?_
            obtain ⟨I26, e26⟩ : ∃ I26, I26 = up2 I24 (MN 7) i (nI 1) := ⟨_, rfl⟩
            refine mw_bast i_16_78 (jn := i) (n := 10) (by omega) (by omega) (x := nI 1) (show K (MN 7) = some (8, 10) from (hS.2.2.2.2 7 (by omega)).2) (by decide) (I' := I26) e26.symm ?_
            refine mw_aload i_16_79 (L := MEN) rfl ?_
            refine mw_iload i_16_80 (x := nI p) rfl ?_
            refine mw_const i_16_81 (v := nI 1) (by decide) ?_
            refine mw_iadd i_16_82 (w := nI (p + 1)) (nI_add _ _) ?_
            refine mw_iload i_16_83 (x := sm) rfl ?_
            refine mw_aload i_16_84 (L := MEN) rfl ?_
            refine mw_getR i_16_85 hS.2.1.2.2.2.2 (q := some (MN 6)) (hS.2.2.2.2 6 (by omega)).1 ?_
            refine mw_iload i_16_86 (x := nI i) rfl ?_
            refine mw_iald i_16_87 (jn := i) (n := 10) (by omega) (by omega) (show K (MN 6) = some (7, 10) from (hS.2.2.2.2 6 (by omega)).2) (by decide) (v := wrt σ tw (Cd σ i)) (by rw [e26, up2_ne (by simp), e24, up2_ne (by simp)]; exact (hX.2.2.2.2.2.2.2 i (by omega)).2) ?_
            refine mw_iadd i_16_88 (w := (sm + (wrt σ tw (Cd σ i)))) rfl ?_
            have hX2 : FX σ tw I26 R := FX_X hX1 (e26.symm ▸ FrX_up FrX_rfl (by decide))
            have hW2 := CW_N hW1 (FrN_X (e26.symm ▸ FrX_up FrX_rfl (by decide))) FrR_rfl
            have hL : Lk σ (upn c p (Cd σ i)) p := ⟨fun _ => by rw [upn_at]; exact ⟨hcd.2, fun j hj => by rw [upn_ne (by omega)]; exact fun q => c3 ⟨j, hj, q⟩⟩, fun hbn => by rw [upn_at, upn_ne (by have := (bnd_pos hbn hp).1; omega)]; exact ⟨fun q => absurd q (by omega), fun q => absurd ⟨hbn, q⟩ c2⟩, c5⟩
            refine mw_callS i_16_89 mf_16 (as := [pR (some MEN), pI (nI (p + 1)), pI (sm + (wrt σ tw (Cd σ i)))]) (rest := []) (d' := d9) (b' := b) (ls0 := [some (pR (some MEN)), some (pI (nI (p + 1))), some (pI (sm + (wrt σ tw (Cd σ i)))), none, none, none, none]) rfl rfl rfl (Nat.le_of_ble_eq_true rfl) rfl rfl rfl ?_
            refine hrec _ _ _ _ (upn c p (Cd σ i)) _ (by omega) hW2 hX2 (fun s9 hs9 => by rw [e26, up2_ne (by simp)]; exact hs1 s9 hs9) (Tkn_up hin ht (by rw [e26, up2_at, e24, up2_ne (by simp)])) (Bst_eq hb (by rw [e26, up2_ne (by simp), e24, up2_ne (by simp)]) (by rw [e26, up2_ne (by simp), e24, up2_ne (by simp)]) (by rw [bg_in]; exact hgap)) (PVd_up hp hP hL) (up_le hc (by omega)) (by rw [smW_up, wo_n hcd.1, hsm]) ?_
            intro I9 hF9 hs9 ht9 hb9
            rw [bg_out] at hb9
            refine aft_n ?_
            refine mw_aload i_16_90 (L := MEN) rfl ?_
            refine mw_getR i_16_91 hS.2.1.2.2.2.2 (q := some (MN 7)) (hS.2.2.2.2 7 (by omega)).1 ?_
            refine mw_iload i_16_92 (x := nI i) rfl ?_
            refine mw_const i_16_93 (v := nI 0) (by decide) ?_
            obtain ⟨I27, e27⟩ : ∃ I27, I27 = up2 I9 (MN 7) i (nI 0) := ⟨_, rfl⟩
            refine mw_bast i_16_94 (jn := i) (n := 10) (by omega) (by omega) (x := nI 0) (show K (MN 7) = some (8, 10) from (hS.2.2.2.2 7 (by omega)).2) (by decide) (I' := I27) e27.symm ?_
            refine mw_iinc i_16_95 (x := nI i) (v := nI (i + 1)) (ls' := [some (pR (some MEN)), some (pI (nI p)), some (pI sm), some (pI (nI (Os σ p))), some (pI (bI (bnd σ p))), some (pI (bI (bnd σ p ∧ c (p - 1) = pn σ))), some (pI (nI (i + 1)))]) rfl (nI_add _ _) rfl ?_
            refine mw_goto i_16_96 ?_
            exact ih (i + 1) I27 (by omega) (by omega) (FX_X (FX_X hX2 hF9) (e27.symm ▸ FrX_up FrX_rfl (by decide))) (FrX_tr hF (FrX_tr (FrX_tr (e26.symm ▸ FrX_up (e24.symm ▸ FrX_up FrX_rfl (by decide)) (by decide)) hF9) (e27.symm ▸ FrX_up FrX_rfl (by decide)))) (Sts_dn hp hs9 (by rw [e27, up2_ne (by simp)])) (Tkn_dn hin c3 ht9 (by rw [e27, up2_at])) (Bst_eq hb9 (by rw [e27, up2_ne (by simp)]) (by rw [e27, up2_ne (by simp)]) rfl)
        · skip
          refine mw_goto i_16_59 ?_
          refine mw_iinc i_16_95 (x := nI i) (v := nI (i + 1)) (ls' := [some (pR (some MEN)), some (pI (nI p)), some (pI sm), some (pI (nI (Os σ p))), some (pI (bI (bnd σ p))), some (pI (bI (bnd σ p ∧ c (p - 1) = pn σ))), some (pI (nI (i + 1)))]) rfl (nI_add _ _) rfl ?_
          refine mw_goto i_16_96 ?_
          exact ih (i + 1) I (by omega) (by omega) hX hF hs ht (Bst_eq hb rfl rfl ((Wb_no hp hc (by omega) (by obtain ⟨j, hj, e⟩ := c3; exact Lk_no_dist hcp hj e)).trans hgap))
