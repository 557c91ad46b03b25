/-! the law injures -/
theorem up_self {σ : ST} {k j : Nat} {v : Int32} (h : v = σ k j) : ups σ k j v = σ := by
  funext q r
  unfold ups
  split
  · rename_i e; subst e
    unfold upd
    split
    · rename_i e; subst e; exact h
    · rfl
  · rfl
theorem hdv_n {σ : ST} {i h : Nat} (hh : h ≤ 1000) (e : σ 7 i = nI h) (hd : dn σ ≤ 999) : hdv σ i = (if h + 1 ≤ 2 then nI (dn σ + 30 * (h + 1)) else nI 10000) := by
  unfold hdv
  rw [e, nI_add]
  by_cases h0 : h = 0
  · subst h0; rw [if_pos rfl, if_pos (by decide)]
  · by_cases h1 : h = 1
    · subst h1; rw [if_neg (by decide), if_pos rfl, if_pos (by decide)]
    · rw [if_neg (fun q => by have := (nI_eq (by omega) (by decide)).mp q; omega), if_neg (fun q => by have := (nI_eq (by omega) (by decide)).mp q; omega), if_neg (by omega)]
theorem mxo_le {σ : ST} {i : Nat} {bf : Int32} (h : σ 6 i ≤ bf) : bf = mxo σ i bf := by
  unfold mxo
  by_cases q : σ 6 i < bf
  · rw [if_pos q]
  · rw [if_neg q]; exact Int32.le_antisymm (Int32.not_lt.mp q) h
theorem mxo_gt {σ : ST} {i : Nat} {bf : Int32} (h : ¬ σ 6 i ≤ bf) : σ 6 i = mxo σ i bf := by
  unfold mxo
  rw [if_neg (fun q => h (Int32.le_of_lt q))]
theorem mxo_n {n : Nat} {σ : ST} {I : IM} (hL : LR n σ I) {i ub : Nat} (hi : i < 7) (hb : ub ≤ 10000) : ∃ u, u ≤ 10000 ∧ mxo σ i (nI ub) = nI u := by
  obtain ⟨u, hu, e⟩ := (hL.1 i hi).2.2.2.2.2.2.2.2.2.1
  unfold mxo
  split
  · exact ⟨ub, hb, rfl⟩
  · exact ⟨u, hu, e⟩
/-- the titles below k are vacant, if it is a long hurt -/
noncomputable def vgS (p : Prop) (σ : ST) (i k : Nat) : ST := @ite _ p (Classical.propDecidable _) (vaS σ i k) σ
theorem ch_dec {x : Int32} {i : Nat} : x + nI 1 = nI i + nI 1 ↔ x = nI i := ⟨fun h => by have := congrArg (fun y => y - nI 1) h; simp only [Int32.add_sub_cancel] at this; exact this, fun h => by rw [h]⟩
theorem ch_dec2 {x : Int32} {i : Nat} : x + nI 1 = nI (i + 1) ↔ x = nI i := by rw [← nI_add]; exact ch_dec
theorem big_iff {u d : Nat} (hu : u ≤ 10000) (hd : d ≤ 1000) : u ≤ d + 60 ↔ ¬ nI 60 < nI u - nI d := by
  rw [Int32.lt_iff_toInt_lt, pk_sub_toInt (by omega) (by omega), nI_toInt (by decide)]
  omega
theorem vg_o {p : Prop} {τ : ST} {i k q : Nat} (h : q ≠ 15) (h2 : q ≠ 16) (h3 : q ≠ 17) : vgS p τ i k q = τ q := by
  unfold vgS
  split
  · exact va_o h h2 h3 k
  · rfl
theorem vg_end {τ : ST} {i : Nat} {bf : Int32} : vgS (nI 60 < mxo τ i bf - τ 0 0) (ups τ 6 i (mxo τ i bf)) i (tn τ) = hrS τ i bf := by
  unfold vgS hrS
  by_cases h : nI 60 < mxo τ i bf - τ 0 0
  · rw [if_pos h, if_pos h]
  · rw [if_neg h, if_neg h]
theorem vg_f {p : Prop} {τ : ST} {i k : Nat} (h : ¬ chO (vgS p τ i k) k = nI i ∨ ¬ p) : vgS p τ i (k + 1) = vgS p τ i k := by
  unfold vgS at *
  by_cases hp : p
  · rw [if_pos hp] at h
    rw [if_pos hp, if_pos hp]
    exact va_f (h.resolve_right (fun q => q hp))
  · rw [if_neg hp, if_neg hp]
theorem vg_t {p : Prop} {τ : ST} {i k : Nat} (hp : p) (h : chO (vgS p τ i k) k = nI i) : vgS p τ i (k + 1) = crn (vgS p τ i k) k (lnO (vgS p τ i k) k) (-1) (τ 0 0) := by
  unfold vgS at *
  rw [if_pos hp] at h
  rw [if_pos hp, if_pos hp]
  exact va_t h
theorem vg_ln {p : Prop} {τ : ST} {i m : Nat} (hm : m < 512) (h : ∀ t, t < 4 → τ 17 t = nI (lnO τ t) ∧ lnO τ t ≤ m) (k t : Nat) (ht : t < 4) : vgS p τ i k 17 t = nI (lnO (vgS p τ i k) t) ∧ lnO (vgS p τ i k) t ≤ m + 1 := by
  unfold vgS
  split
  · exact va_ln hm h k t ht
  · exact ⟨(h t ht).1, by have := (h t ht).2; omega⟩
set_option maxRecDepth 20000 in
set_option maxHeartbeats 400000 in
theorem c_hurt_lp {d : Nat} {b : Nat} {K : KM} {R : RM} {Q : QT} {nn m i u ub : Nat} {σ τ : ST} {I0 : IM} {u3 u5 u6 u7 : Option PV} (hd : 1 ≤ d) (hQ : KQ K) (hi : i < 7) (hu : u ≤ 10000) (hd9 : dn σ ≤ 1000) (hu7 : mxo τ i (nI ub) = nI u) (hm : m < 512) (h00 : τ 0 0 = nI (dn σ)) (hlt : ∀ t, t < 4 → τ 17 t = nI (lnO τ t) ∧ lnO τ t ≤ m)  (q : ∀ I', FrQ I0 I' → LR nn (vgS (nI 60 < mxo τ i (nI ub) - τ 0 0) (ups τ 6 i (mxo τ i (nI ub))) i 2) I' → Mw d b N_L_isHurted 136 [some (pR (some RING)), some (pR (some QW)), some (pR (some QM)), u3, some (pI (nI i)), u5, u6, u7, some (pI (nI 2))] [] K I' R Q) : ∀ (n k : Nat) (I : IM), 2 - k < n → k ≤ 2 → (FrQ I0 I) → (LR nn (vgS (nI 60 < mxo τ i (nI ub) - τ 0 0) (ups τ 6 i (mxo τ i (nI ub))) i k) I) → Mw d b N_L_isHurted 105 [some (pR (some RING)), some (pR (some QW)), some (pR (some QM)), u3, some (pI (nI i)), u5, u6, u7, some (pI (nI k))] [] K I R Q := by
  obtain ⟨d9, rfl⟩ : ∃ d9, d = d9 + 1 := ⟨d - 1, by omega⟩
  intro n
  induction n with
  | zero => intro k I  hn; exact absurd hn (Nat.not_lt_zero _)
  | succ n ih =>
    intro k I  hn hi hF hL
    have vg_6 : ∀ {k : Nat}, vgS (nI 60 < mxo τ i (nI ub) - τ 0 0) (ups τ 6 i (mxo τ i (nI ub))) i k 6 i = (ups τ 6 i (mxo τ i (nI ub))) 6 i := fun {k} => by rw [vg_o (by decide) (by decide) (by decide)]
    have hu6 : (ups τ 6 i (mxo τ i (nI ub))) 6 i = nI u := by rw [ups_at, upd_at]; exact hu7
    have vg_0 : ∀ {k : Nat}, vgS (nI 60 < mxo τ i (nI ub) - τ 0 0) (ups τ 6 i (mxo τ i (nI ub))) i k 0 0 = τ 0 0 := fun {k} => by rw [vg_o (by decide) (by decide) (by decide), ups_ne (by decide)]
    have hln := fun k t ht => vg_ln (p := nI 60 < mxo τ i (nI ub) - τ 0 0) (τ := (ups τ 6 i (mxo τ i (nI ub)))) (i := i) (m := m) hm (fun t ht => by show (ups τ 6 i (mxo τ i (nI ub))) 17 t = nI (lnO (ups τ 6 i (mxo τ i (nI ub))) t) ∧ lnO (ups τ 6 i (mxo τ i (nI ub))) t ≤ m; unfold lnO; rw [ups_ne (by decide)]; exact hlt t ht) k t ht
    refine mw_iload i_97_105 (x := nI k) rfl ?_
    refine mw_const i_97_106 (v := nI 2) (by decide) ?_
    refine mw_ic i_97_107 (p := 2 ≤ k) (nI_leI (by omega) (by omega)) (fun c1 => ?_) (fun c1 => ?_)
    · skip
      obtain rfl : k = 2 := by omega
      exact q _ hF hL
    · skip
      refine mw_aload i_97_108 (L := QM) rfl ?_
      refine mw_const i_97_109 (v := nI 10) (by decide) ?_
      refine mw_iload i_97_110 (x := nI k) rfl ?_
      refine mw_iadd i_97_111 (w := nI (10 + k)) (nI_add _ _) ?_
      refine mw_iald i_97_112 (jn := 10 + k) (n := 18) (by omega) (by omega) hQ.2.2.2.2.2 (by decide) (v := (chO (vgS (nI 60 < mxo τ i (nI ub) - τ 0 0) (ups τ 6 i (mxo τ i (nI ub))) i k) k + nI 1)) (hL.2.2.2.2.2.2.2.1 k (by omega)).1 ?_
      refine mw_iload i_97_113 (x := nI i) rfl ?_
      refine mw_const i_97_114 (v := nI 1) (by decide) ?_
      refine mw_iadd i_97_115 (w := nI (i + 1)) (nI_add _ _) ?_
      refine mw_ic i_97_116 (p := ¬ (chO (vgS (nI 60 < mxo τ i (nI ub) - τ 0 0) (ups τ 6 i (mxo τ i (nI ub))) i k) k + nI 1) = (nI (i + 1))) Iff.rfl (fun c2 => ?_) (fun c2 => ?_)
      · skip
        refine mw_iinc i_97_134 (x := nI k) (v := nI (k + 1)) (ls' := [some (pR (some RING)), some (pR (some QW)), some (pR (some QM)), u3, some (pI (nI i)), u5, u6, u7, some (pI (nI (k + 1)))]) rfl (nI_add _ _) rfl ?_
        refine mw_goto i_97_135 ?_
        refine ih (k + 1) I (by omega) (by omega) hF ?_
        rw [vg_f (Or.inl (fun h => c2 (ch_dec2.mpr h)))]
        exact hL
      · skip
        refine mw_aload i_97_117 (L := QW) rfl ?_
        refine mw_const i_97_118 (v := nI 9) (by decide) ?_
        refine mw_iload i_97_119 (x := nI i) rfl ?_
        refine mw_imul i_97_120 (w := nI (9 * i)) (pk_mul _ _) ?_
        refine mw_const i_97_121 (v := nI 4) (by decide) ?_
        refine mw_iadd i_97_122 (w := nI (9 * i + 4)) (nI_add _ _) ?_
        refine mw_iald i_97_123 (jn := 9 * i + 4) (n := 63) (by omega) (by omega) hQ.1 (by decide) (v := nI u) (((hL.1 i (by omega)).2.2.2.2.1.trans (vg_6 (k := k))).trans hu6) ?_
        refine mw_aload i_97_124 (L := QM) rfl ?_
        refine mw_const i_97_125 (v := nI 0) (by decide) ?_
        refine mw_iald i_97_126 (jn := 0) (n := 18) (by omega) (by omega) hQ.2.2.2.2.2 (by decide) (v := nI (dn σ)) (hL.2.2.2.2.1.trans ((vg_0 (k := k)).trans h00)) ?_
        refine mw_const i_97_127 (v := nI 60) (by decide) ?_
        refine mw_iadd i_97_128 (w := nI (dn σ + 60)) (nI_add _ _) ?_
        refine mw_ic i_97_129 (p := u ≤ (dn σ + 60)) (nI_leI (by omega) (by omega)) (fun c3 => ?_) (fun c3 => ?_)
        · skip
          refine mw_iinc i_97_134 (x := nI k) (v := nI (k + 1)) (ls' := [some (pR (some RING)), some (pR (some QW)), some (pR (some QM)), u3, some (pI (nI i)), u5, u6, u7, some (pI (nI (k + 1)))]) rfl (nI_add _ _) rfl ?_
          refine mw_goto i_97_135 ?_
          refine ih (k + 1) I (by omega) (by omega) hF ?_
          rw [vg_f (Or.inr (fun h => (big_iff hu hd9).mp c3 (by rw [hu7, h00] at h; exact h)))]
          exact hL
        · skip
          refine mw_aload i_97_130 (L := QM) rfl ?_
          refine mw_iload i_97_131 (x := nI k) rfl ?_
          refine mw_const i_97_132 (v := (-1)) (by decide) ?_
          refine mw_callS i_97_133 mf_84 (as := [pR (some QM), pI (nI k), pI (-1)]) (rest := []) (d' := d9) (b' := b) (ls0 := [some (pR (some QM)), some (pI (nI k)), some (pI (-1))]) rfl rfl rfl (Nat.le_of_ble_eq_true rfl) rfl rfl rfl ?_
          refine b_crown (l := lnO (vgS (nI 60 < mxo τ i (nI ub) - τ 0 0) (ups τ 6 i (mxo τ i (nI ub))) i k) k) (y := τ 0 0) hQ hL (by omega) (by have := (hln k k (by omega)).2; omega) (hln k k (by omega)).1 (fun t ht => by have := (hln k t (by omega)).2; unfold lnO at this; omega) (Or.inl rfl) ?_
          intro I9 hF9 hL9
          refine aft_n ?_
          refine mw_iinc i_97_134 (x := nI k) (v := nI (k + 1)) (ls' := [some (pR (some RING)), some (pR (some QW)), some (pR (some QM)), u3, some (pI (nI i)), u5, u6, u7, some (pI (nI (k + 1)))]) rfl (nI_add _ _) rfl ?_
          refine mw_goto i_97_135 ?_
          refine ih (k + 1) I9 (by omega) (by omega) (FrQ_tr hF hF9) ?_
          rw [vg_t (Classical.not_not.mp (fun h => c3 ((big_iff hu hd9).mpr (fun q => h (by rw [hu7, h00]; exact q))))) (ch_dec2.mp (Classical.not_not.mp c2)), show (ups τ 6 i (mxo τ i (nI ub))) 0 0 = τ 0 0 by rw [ups_ne (by decide)]]
          exact hL9
set_option maxRecDepth 20000 in
set_option maxHeartbeats 400000 in
theorem c_hurt_tail {d b : Nat} {K : KM} {I : IM} {R : RM} {Q : QT} {n m i u ub : Nat} {σ τ : ST} {u3 u5 u6 u8 : Option PV} (hd : 1 ≤ d) (hQ : KQ K) (hi : i < 7) (hu : u ≤ 10000) (hd9 : dn σ ≤ 1000) (hu7 : mxo τ i (nI ub) = nI u) (hm : m < 512) (h00 : τ 0 0 = nI (dn σ)) (hlt : ∀ t, t < 4 → τ 17 t = nI (lnO τ t) ∧ lnO τ t ≤ m) (hL : LR n τ I) (htn : tn τ = 2)  (q : ∀ I', FrQ I I' → LR n (hrS τ i (nI ub)) I' → Mw d b N_L_isHurted 136 [some (pR (some RING)), some (pR (some QW)), some (pR (some QM)), u3, some (pI (nI i)), u5, u6, some (pI (nI ub)), some (pI (nI 2))] [] K I' R Q) : Mw d b N_L_isHurted 78 [some (pR (some RING)), some (pR (some QW)), some (pR (some QM)), u3, some (pI (nI i)), u5, u6, some (pI (nI ub)), u8] [] K I R Q := by
  obtain ⟨d9, rfl⟩ : ∃ d9, d = d9 + 1 := ⟨d - 1, by omega⟩
  refine mw_aload i_97_78 (L := QW) rfl ?_
  refine mw_const i_97_79 (v := nI 9) (by decide) ?_
  refine mw_iload i_97_80 (x := nI i) rfl ?_
  refine mw_imul i_97_81 (w := nI (9 * i)) (pk_mul _ _) ?_
  refine mw_const i_97_82 (v := nI 4) (by decide) ?_
  refine mw_iadd i_97_83 (w := nI (9 * i + 4)) (nI_add _ _) ?_
  have J1 : Mw (d9 + 1) b 97 102 [some (pR (some RING)), some (pR (some QW)), some (pR (some QM)), u3, some (pI (nI i)), u5, u6, some (pI (nI ub)), u8] [pI (mxo τ i (nI ub)), pI (nI (9 * i + 4)), pR (some QW)] K I R Q := by
    obtain ⟨I22, e22⟩ : ∃ I22, I22 = up2 I QW (9 * i + 4) (mxo τ i (nI ub)) := ⟨_, rfl⟩
    refine mw_iast i_97_102 (jn := 9 * i + 4) (n := 63) (by omega) (by omega) (x := mxo τ i (nI ub)) hQ.1 (I' := I22) e22.symm ?_
    have hL3 : LR n (ups τ 6 i (mxo τ i (nI ub))) I22 := by rw [e22]; exact LR_unt hL hu hu7
    refine mw_const i_97_103 (v := nI 0) (by decide) ?_
    refine mw_istore i_97_104 (ls' := [some (pR (some RING)), some (pR (some QW)), some (pR (some QM)), u3, some (pI (nI i)), u5, u6, some (pI (nI ub)), some (pI (nI 0))]) rfl (Nat.le_of_ble_eq_true rfl) ?_
    have hlp := c_hurt_lp (I0 := I22) (b := b) (R := R) (Q := Q) (u3 := u3) (u5 := u5) (u6 := u6) (u7 := some (pI (nI ub))) hd hQ hi hu hd9 hu7 hm h00 hlt (fun I9 f9 l9 => q I9 (FrQ_tr (show FrQ I I22 from by rw [e22]; exact FrQ_up FrQ_rfl rfl) f9) (by rw [← vg_end, htn]; exact l9)) 3 0 I22 (by omega) (by omega) FrQ_rfl (by show LR n (vgS _ _ i 0) _; unfold vgS; split <;> exact hL3)
    exact hlp
  refine mw_aload i_97_84 (L := QW) rfl ?_
  refine mw_const i_97_85 (v := nI 9) (by decide) ?_
  refine mw_iload i_97_86 (x := nI i) rfl ?_
  refine mw_imul i_97_87 (w := nI (9 * i)) (pk_mul _ _) ?_
  refine mw_const i_97_88 (v := nI 4) (by decide) ?_
  refine mw_iadd i_97_89 (w := nI (9 * i + 4)) (nI_add _ _) ?_
  refine mw_iald i_97_90 (jn := 9 * i + 4) (n := 63) (by omega) (by omega) hQ.1 (by decide) (v := τ 6 i) (hL.1 i (by omega)).2.2.2.2.1 ?_
  refine mw_iload i_97_91 (x := nI ub) rfl ?_
  refine mw_ic i_97_92 (p := (τ 6 i) ≤ (nI ub)) Iff.rfl (fun c4 => ?_) (fun c4 => ?_)
  · skip
    refine mw_iload i_97_101 (x := nI ub) rfl ?_
    exact mw_top (show nI ub = mxo τ i (nI ub) from mxo_le c4) J1
  · skip
    refine mw_aload i_97_93 (L := QW) rfl ?_
    refine mw_const i_97_94 (v := nI 9) (by decide) ?_
    refine mw_iload i_97_95 (x := nI i) rfl ?_
    refine mw_imul i_97_96 (w := nI (9 * i)) (pk_mul _ _) ?_
    refine mw_const i_97_97 (v := nI 4) (by decide) ?_
    refine mw_iadd i_97_98 (w := nI (9 * i + 4)) (nI_add _ _) ?_
    refine mw_iald i_97_99 (jn := 9 * i + 4) (n := 63) (by omega) (by omega) hQ.1 (by decide) (v := τ 6 i) (hL.1 i (by omega)).2.2.2.2.1 ?_
    refine mw_goto i_97_100 ?_
    exact mw_top (show τ 6 i = mxo τ i (nI ub) from mxo_gt c4) J1
set_option maxRecDepth 20000 in
set_option maxHeartbeats 400000 in
theorem c_isHurted {d b : Nat} {K : KM} {I : IM} {R : RM} {Q : QT} {L n z : Nat} {σ : ST} (hd : 20 ≤ d) (hW9 : WQ L n σ K I R) (hn : n < 512) (hz : z < 1000000000)  (q : ∀ σ' K' I' R', WQ L (n + 1) σ' K' I' R' → Q (.inl (some (pI (nI 1)))) K' I' R') : Mw d (b + 14) N_L_isHurted 0 [some (pR (some RING)), some (pR (some QW)), some (pR (some QM)), some (pI (nI z)), none, none, none, none, none] [] K I R Q := by
  obtain ⟨d9, rfl⟩ : ∃ d9, d = d9 + 1 := ⟨d - 1, by omega⟩
  obtain ⟨hW, hL, hQ, hK0⟩ := hW9
  have hV := hW.2.2
  have hdd9 := hV.2.2.1.2
  have h10 := hL.2.2.2.2.2.2.2.2.2.1
  have hd0 := hV.2.2.1.1
  obtain ⟨i, ei⟩ : ∃ i, i = z % 7 := ⟨_, rfl⟩
  have hi : i < 7 := by rw [ei]; exact Nat.mod_lt _ (by decide)
  obtain ⟨dd, edd⟩ : ∃ dd, dd = 1 + z / 28 % (if z / 5 % 3 = 0 then 200 else 5) := ⟨_, rfl⟩
  have hdd : 1 ≤ dd ∧ dd ≤ 200 := by
    rw [edd]
    split
    · omega
    · omega
  obtain ⟨h, hh, eh⟩ := (hV.2.2.2.1 i (by omega)).2.2.2.2.1
  refine mw_iload i_97_0 (x := nI z) rfl ?_
  refine mw_const i_97_1 (v := nI 7) (by decide) ?_
  refine mw_irem i_97_2 (by decide) (w := nI i) (by rw [ei]; exact pk_rem (by omega) (by decide) (by decide)) ?_
  refine mw_istore i_97_3 (ls' := [some (pR (some RING)), some (pR (some QW)), some (pR (some QM)), some (pI (nI z)), some (pI (nI i)), none, none, none, none]) rfl (Nat.le_of_ble_eq_true rfl) ?_
  have J1 : Mw (d9 + 1) (b + 14) 97 13 [some (pR (some RING)), some (pR (some QW)), some (pR (some QM)), some (pI (nI z)), some (pI (nI i)), none, none, none, none] [pI (bI (nI (z / 7 % 4) = nI 0))] K I R Q := by
    refine mw_istore i_97_13 (ls' := [some (pR (some RING)), some (pR (some QW)), some (pR (some QM)), some (pI (nI z)), some (pI (nI i)), some (pI (bI (nI (z / 7 % 4) = nI 0))), none, none, none]) rfl (Nat.le_of_ble_eq_true rfl) ?_
    have J2 : Mw (d9 + 1) (b + 14) 97 29 [some (pR (some RING)), some (pR (some QW)), some (pR (some QM)), some (pI (nI z)), some (pI (nI i)), some (pI (bI (nI (z / 7 % 4) = nI 0))), none, none, none] [pI (nI dd)] K I R Q := by
      refine mw_istore i_97_29 (ls' := [some (pR (some RING)), some (pR (some QW)), some (pR (some QM)), some (pI (nI z)), some (pI (nI i)), some (pI (bI (nI (z / 7 % 4) = nI 0))), some (pI (nI dd)), none, none]) rfl (Nat.le_of_ble_eq_true rfl) ?_
      refine mw_aload i_97_30 (L := QW) rfl ?_
      refine mw_const i_97_31 (v := nI 9) (by decide) ?_
      refine mw_iload i_97_32 (x := nI i) rfl ?_
      refine mw_imul i_97_33 (w := nI (9 * i)) (pk_mul _ _) ?_
      refine mw_const i_97_34 (v := nI 5) (by decide) ?_
      refine mw_iadd i_97_35 (w := nI (9 * i + 5)) (nI_add _ _) ?_
      refine mw_dup2 i_97_36 trivial trivial ?_
      refine mw_iald i_97_37 (jn := 9 * i + 5) (n := 63) (by omega) (by omega) hQ.1 (by decide) (v := σ 7 i) (hL.1 i (by omega)).2.2.2.2.2.1 ?_
      refine mw_iload i_97_38 (x := bI (nI (z / 7 % 4) = nI 0)) rfl ?_
      refine mw_eqB i_97_39 rfl (fun c3 => ?_) (fun c3 => ?_)
      · skip
        refine mw_const i_97_42 (v := nI 0) (by decide) ?_
        refine mw_iadd i_97_43 (w := ((σ 7 i) + (nI 0))) rfl ?_
        obtain ⟨I24, e24⟩ : ∃ I24, I24 = up2 I QW (9 * i + 5) ((σ 7 i) + (nI 0)) := ⟨_, rfl⟩
        refine mw_iast i_97_44 (jn := 9 * i + 5) (n := 63) (by omega) (by omega) (x := ((σ 7 i) + (nI 0))) hQ.1 (I' := I24) e24.symm ?_
        have hLb : LR n σ I24 := by
          have := LR_fld hL (i := i) (v := σ 7 i + nI 0) (Or.inr (Or.inr (Or.inl ⟨rfl, rfl⟩))) (fun h => absurd h (by decide))
          rw [up_self (add0 _)] at this
          rw [e24]; exact this
        refine mw_iload i_97_45 (x := bI (nI (z / 7 % 4) = nI 0)) rfl ?_
        refine mw_ifT i_97_46 (bI_0.mpr c3) ?_
        refine mw_aload i_97_72 (L := QM) rfl ?_
        refine mw_const i_97_73 (v := nI 0) (by decide) ?_
        refine mw_iald i_97_74 (jn := 0) (n := 18) (by omega) (by omega) hQ.2.2.2.2.2 (by decide) (v := nI (dn σ)) (hLb.2.2.2.2.1.trans hd0) ?_
        refine mw_iload i_97_75 (x := nI dd) rfl ?_
        refine mw_iadd i_97_76 (w := nI (dn σ + dd)) (nI_add _ _) ?_
        refine mw_istore i_97_77 (ls' := [some (pR (some RING)), some (pR (some QW)), some (pR (some QM)), some (pI (nI z)), some (pI (nI i)), some (pI (bI (nI (z / 7 % 4) = nI 0))), some (pI (nI dd)), some (pI (nI (dn σ + dd))), none]) rfl (Nat.le_of_ble_eq_true rfl) ?_
        have hub : dn σ + dd ≤ 10000 := by omega
        have h00 : σ 0 0 = nI (dn σ) := hV.2.2.1.1
        have hlt := hV.2.2.2.2.1
        have htn : tn σ = 2 := hL.2.2.2.2.2.2.2.2.2.2.1
        obtain ⟨u, hu, eu⟩ := mxo_n hLb hi hub
        refine c_hurt_tail (σ := σ) (τ := σ) (ub := (dn σ + dd)) (by omega) hQ hi hu (by omega) eu hn h00 hlt hLb htn (fun I80 hF80 hL9 => ?_)
        have hW1 : CW n σ K I80 R := CW_Q hW (FrQ_tr (show FrQ I I24 from by rw [e24]; exact FrQ_up FrQ_rfl rfl) hF80)
        refine mw_iload i_97_136 (x := bI (nI (z / 7 % 4) = nI 0)) rfl ?_
        refine mw_ifT i_97_137 (bI_0.mpr c3) ?_
        refine mw_aload i_97_142 (L := RING) rfl ?_
        refine mw_iload i_97_143 (x := nI i) rfl ?_
        refine mw_iload i_97_144 (x := nI dd) rfl ?_
        refine mw_callV i_97_145 mf_40 (as := [pI (nI i), pI (nI dd)]) (rest := []) (d' := d9) (b' := b + 7) (ls0 := [some (pR (some RING)), some (pI (nI i)), some (pI (nI dd))]) rfl rfl rfl (Nat.le_of_ble_eq_true rfl) hW.1.1.1.1 rfl (by omega) rfl ?_
        refine k_hurt (by omega) hW1 (by omega) hn (fun h => absurd ⟨i, by omega, rfl⟩ h) (fun x hx ex h => absurd (show inr (nI dd) (nI 1) (nI 200) from ⟨nI_le hdd.1 (by omega), nI_le hdd.2 (by decide)⟩) h) (fun x hx ex h I9 hF9 hR9 v hv => ?_)
        obtain rfl := nI_inj ex (by omega) (by omega)
        rw [nI_add] at hR9 hv
        refine aft_v ?_
        refine mw_aload i_97_146 (L := QW) rfl ?_
        refine mw_const i_97_147 (v := nI 9) (by decide) ?_
        refine mw_iload i_97_148 (x := nI i) rfl ?_
        refine mw_imul i_97_149 (w := nI (9 * i)) (pk_mul _ _) ?_
        refine mw_const i_97_150 (v := nI 4) (by decide) ?_
        refine mw_iadd i_97_151 (w := nI (9 * i + 4)) (nI_add _ _) ?_
        refine mw_iald i_97_152 (jn := 9 * i + 4) (n := 63) (by omega) (by omega) hQ.1 (by decide) (v := hrS σ i (nI (dn σ + dd)) 6 i) ((congrFun (hF9 QW (by decide)) _).trans (hL9.1 i (by omega)).2.2.2.2.1) ?_
        have hx9 : v = hrS σ i (nI (dn σ + dd)) 6 i := hv
        refine mw_icF i_97_153 (fun h => h hx9) ?_
        refine mw_const i_97_154 (v := nI 1) (by decide) ?_
        refine mw_goto i_97_155 ?_
        refine mw_iret i_97_157 (x := nI 1) (fun _ => (by decide)) ?_
        exact q _ K I9 R ⟨⟨hW.1, hR9, IV_hr hn hV.2.2.2.2.1 (IV_up hV (Nat.le_succ n))⟩, LR_n (LR_C0 hL9 hF9) (Nat.le_succ n), hQ, hK0⟩
      · skip
        refine mw_const i_97_40 (v := nI 1) (by decide) ?_
        refine mw_goto i_97_41 ?_
        refine mw_iadd i_97_43 (w := ((σ 7 i) + (nI 1))) rfl ?_
        obtain ⟨I25, e25⟩ : ∃ I25, I25 = up2 I QW (9 * i + 5) ((σ 7 i) + (nI 1)) := ⟨_, rfl⟩
        refine mw_iast i_97_44 (jn := 9 * i + 5) (n := 63) (by omega) (by omega) (x := ((σ 7 i) + (nI 1))) hQ.1 (I' := I25) e25.symm ?_
        obtain ⟨S6, eS6⟩ : ∃ S6, S6 = ups σ 7 i (σ 7 i + nI 1) := ⟨_, rfl⟩
        have hL6 : LR n S6 I25 := by rw [e25, eS6]; exact LR_fld hL (Or.inr (Or.inr (Or.inl ⟨rfl, rfl⟩))) (fun h => absurd h (by decide))
        have h0S6 : S6 0 0 = nI (dn σ) := by rw [eS6, ups_ne (by decide)]; exact hd0
        refine mw_iload i_97_45 (x := bI (nI (z / 7 % 4) = nI 0)) rfl ?_
        refine mw_ifF i_97_46 (bI_n0.mpr c3) ?_
        have J7 : Mw (d9 + 1) (b + 14) 97 77 [some (pR (some RING)), some (pR (some QW)), some (pR (some QM)), some (pI (nI z)), some (pI (nI i)), some (pI (bI (nI (z / 7 % 4) = nI 0))), some (pI (nI dd)), none, none] [pI (hdv σ i)] K I25 R Q := by
          refine mw_istore i_97_77 (ls' := [some (pR (some RING)), some (pR (some QW)), some (pR (some QM)), some (pI (nI z)), some (pI (nI i)), some (pI (bI (nI (z / 7 % 4) = nI 0))), some (pI (nI dd)), some (pI (hdv σ i)), none]) rfl (Nat.le_of_ble_eq_true rfl) ?_
          obtain ⟨ub, hub, eub⟩ : ∃ ub, ub ≤ 10000 ∧ hdv σ i = nI ub := by
            rw [hdv_n (by omega) eh (by omega)]
            split
            · exact ⟨_, by omega, rfl⟩
            · exact ⟨_, by omega, rfl⟩
          rw [eub]
          have h00 : S6 0 0 = nI (dn σ) := by rw [eS6, ups_ne (by decide)]; exact hV.2.2.1.1
          have hlt : ∀ t, t < 4 → S6 17 t = nI (lnO S6 t) ∧ lnO S6 t ≤ n := fun t ht => by unfold lnO; rw [eS6, ups_ne (by decide)]; exact hV.2.2.2.2.1 t ht
          have htn : tn S6 = 2 := by unfold tn; rw [eS6, ups_ne (by decide)]; exact hL.2.2.2.2.2.2.2.2.2.2.1
          obtain ⟨u, hu, eu⟩ := mxo_n hL6 hi hub
          refine c_hurt_tail (σ := σ) (τ := S6) (ub := ub) (by omega) hQ hi hu (by omega) eu hn h00 hlt hL6 htn (fun I80 hF80 hL9 => ?_)
          have hW1 : CW n σ K I80 R := CW_Q hW (FrQ_tr (show FrQ I I25 from by rw [e25]; exact FrQ_up FrQ_rfl rfl) hF80)
          refine mw_iload i_97_136 (x := bI (nI (z / 7 % 4) = nI 0)) rfl ?_
          refine mw_ifF i_97_137 (bI_n0.mpr c3) ?_
          refine mw_aload i_97_138 (L := RING) rfl ?_
          refine mw_iload i_97_139 (x := nI i) rfl ?_
          refine mw_callV i_97_140 mf_41 (as := [pI (nI i)]) (rest := []) (d' := d9) (b' := b + 7) (ls0 := [some (pR (some RING)), some (pI (nI i)), none]) rfl rfl rfl (Nat.le_of_ble_eq_true rfl) hW.1.1.1.1 rfl (by omega) rfl ?_
          refine k_head (by omega) hW1 (by omega) hn (fun h => absurd ⟨i, by omega, rfl⟩ h) (fun x hx ex I9 hF9 hR9 v hv => ?_)
          obtain rfl := nI_inj ex (by omega) (by omega)
          refine aft_v ?_
          refine mw_goto i_97_141 ?_
          refine mw_aload i_97_146 (L := QW) rfl ?_
          refine mw_const i_97_147 (v := nI 9) (by decide) ?_
          refine mw_iload i_97_148 (x := nI i) rfl ?_
          refine mw_imul i_97_149 (w := nI (9 * i)) (pk_mul _ _) ?_
          refine mw_const i_97_150 (v := nI 4) (by decide) ?_
          refine mw_iadd i_97_151 (w := nI (9 * i + 4)) (nI_add _ _) ?_
          refine mw_iald i_97_152 (jn := 9 * i + 4) (n := 63) (by omega) (by omega) hQ.1 (by decide) (v := hrS S6 i (nI ub) 6 i) ((congrFun (hF9 QW (by decide)) _).trans (hL9.1 i (by omega)).2.2.2.2.1) ?_
          have hx9 : v = hrS S6 i (nI ub) 6 i := by rw [hv]; show hrS (ups σ 7 i (σ 7 i + nI 1)) i (hdv σ i) 6 i = _; rw [eub, eS6]
          refine mw_icF i_97_153 (fun h => h hx9) ?_
          refine mw_const i_97_154 (v := nI 1) (by decide) ?_
          refine mw_goto i_97_155 ?_
          refine mw_iret i_97_157 (x := nI 1) (fun _ => (by decide)) ?_
          exact q _ K I9 R ⟨⟨hW.1, hR9, IV_head hn hV⟩, LR_n (LR_C0 (by show LR n (hrS (ups σ 7 i (σ 7 i + nI 1)) i (hdv σ i)) _; rw [eub, ← eS6]; exact hL9) hF9) (Nat.le_succ n), hQ, hK0⟩
        refine mw_aload i_97_47 (L := QW) rfl ?_
        refine mw_const i_97_48 (v := nI 9) (by decide) ?_
        refine mw_iload i_97_49 (x := nI i) rfl ?_
        refine mw_imul i_97_50 (w := nI (9 * i)) (pk_mul _ _) ?_
        refine mw_const i_97_51 (v := nI 5) (by decide) ?_
        refine mw_iadd i_97_52 (w := nI (9 * i + 5)) (nI_add _ _) ?_
        refine mw_iald i_97_53 (jn := 9 * i + 5) (n := 63) (by omega) (by omega) hQ.1 (by decide) (v := nI (h + 1)) ((hL6.1 i (by omega)).2.2.2.2.2.1.trans (by rw [eS6, ups_at, upd_at, eh]; exact nI_add h 1)) ?_
        refine mw_const i_97_54 (v := nI 2) (by decide) ?_
        refine mw_ic i_97_55 (p := (h + 1) ≤ 2) (nI_leI (by omega) (by omega)) (fun c8 => ?_) (fun c8 => ?_)
        · skip
          refine mw_aload i_97_58 (L := QM) rfl ?_
          refine mw_const i_97_59 (v := nI 0) (by decide) ?_
          refine mw_iald i_97_60 (jn := 0) (n := 18) (by omega) (by omega) hQ.2.2.2.2.2 (by decide) (v := nI (dn σ)) (hL6.2.2.2.2.1.trans h0S6) ?_
          refine mw_const i_97_61 (v := nI 30) (by decide) ?_
          refine mw_aload i_97_62 (L := QW) rfl ?_
          refine mw_const i_97_63 (v := nI 9) (by decide) ?_
          refine mw_iload i_97_64 (x := nI i) rfl ?_
          refine mw_imul i_97_65 (w := nI (9 * i)) (pk_mul _ _) ?_
          refine mw_const i_97_66 (v := nI 5) (by decide) ?_
          refine mw_iadd i_97_67 (w := nI (9 * i + 5)) (nI_add _ _) ?_
          refine mw_iald i_97_68 (jn := 9 * i + 5) (n := 63) (by omega) (by omega) hQ.1 (by decide) (v := nI (h + 1)) ((hL6.1 i (by omega)).2.2.2.2.2.1.trans (by rw [eS6, ups_at, upd_at, eh]; exact nI_add h 1)) ?_
          refine mw_imul i_97_69 (w := nI (30 * (h + 1))) (pk_mul _ _) ?_
          refine mw_iadd i_97_70 (w := nI (dn σ + (30 * (h + 1)))) (nI_add _ _) ?_
          refine mw_goto i_97_71 ?_
          exact mw_top (show nI (dn σ + (30 * (h + 1))) = hdv σ i from by rw [hdv_n (by omega) eh (by omega), if_pos c8]) J7
        · skip
          refine mw_const i_97_56 (v := nI 10000) (by decide) ?_
          refine mw_goto i_97_57 ?_
          exact mw_top (show nI 10000 = hdv σ i from by rw [hdv_n (by omega) eh (by omega), if_neg c8]) J7
    refine mw_const i_97_14 (v := nI 1) (by decide) ?_
    refine mw_iload i_97_15 (x := nI z) rfl ?_
    refine mw_const i_97_16 (v := nI 28) (by decide) ?_
    refine mw_idiv i_97_17 (by decide) (w := nI (z / 28)) (pk_div (by omega) (by omega) (by omega)) ?_
    refine mw_iload i_97_18 (x := nI z) rfl ?_
    refine mw_const i_97_19 (v := nI 5) (by decide) ?_
    refine mw_idiv i_97_20 (by decide) (w := nI (z / 5)) (pk_div (by omega) (by omega) (by omega)) ?_
    refine mw_const i_97_21 (v := nI 3) (by decide) ?_
    refine mw_irem i_97_22 (by decide) (w := nI ((z / 5) % 3)) (pk_rem (by omega) (by omega) (by omega)) ?_
    refine mw_if i_97_23 (p := ¬ (nI ((z / 5) % 3)) = nI 0) Iff.rfl (fun c9 => ?_) (fun c9 => ?_)
    · skip
      refine mw_const i_97_26 (v := nI 5) (by decide) ?_
      refine mw_irem i_97_27 (by decide) (w := nI ((z / 28) % 5)) (pk_rem (by omega) (by omega) (by omega)) ?_
      refine mw_iadd i_97_28 (w := nI (1 + ((z / 28) % 5))) (nI_add _ _) ?_
      exact mw_top (show nI (1 + ((z / 28) % 5)) = nI dd from congrArg nI (by rw [edd, if_neg (fun h => c9 (by rw [h]))])) J2
    · skip
      refine mw_const i_97_24 (v := nI 200) (by decide) ?_
      refine mw_goto i_97_25 ?_
      refine mw_irem i_97_27 (by decide) (w := nI ((z / 28) % 200)) (pk_rem (by omega) (by omega) (by omega)) ?_
      refine mw_iadd i_97_28 (w := nI (1 + ((z / 28) % 200))) (nI_add _ _) ?_
      exact mw_top (show nI (1 + ((z / 28) % 200)) = nI dd from congrArg nI (by rw [edd, if_pos ((nI_eq (by omega) (by decide)).mp (Classical.not_not.mp c9))])) J2
  refine mw_iload i_97_4 (x := nI z) rfl ?_
  refine mw_const i_97_5 (v := nI 7) (by decide) ?_
  refine mw_idiv i_97_6 (by decide) (w := nI (z / 7)) (pk_div (by omega) (by omega) (by omega)) ?_
  refine mw_const i_97_7 (v := nI 4) (by decide) ?_
  refine mw_irem i_97_8 (by decide) (w := nI ((z / 7) % 4)) (pk_rem (by omega) (by omega) (by omega)) ?_
  refine mw_if i_97_9 (p := ¬ (nI ((z / 7) % 4)) = nI 0) Iff.rfl (fun c10 => ?_) (fun c10 => ?_)
  · skip
    refine mw_const i_97_12 (v := nI 0) (by decide) ?_
    exact mw_top (show nI 0 = bI (nI (z / 7 % 4) = nI 0) from (bI_f (c10)).symm) J1
  · skip
    refine mw_const i_97_10 (v := nI 1) (by decide) ?_
    refine mw_goto i_97_11 ?_
    exact mw_top (show nI 1 = bI (nI (z / 7 % 4) = nI 0) from (bI_t ((Classical.not_not.mp c10))).symm) J1
