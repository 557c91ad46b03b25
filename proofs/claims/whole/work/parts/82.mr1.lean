/-! the reference: what it tells itself -/
theorem rm {I : IM} {σ : ST} (h : mv I = σ) {k : Nat} (hk : k ≠ 0 ∧ k ≠ 14 ∧ k ≠ 18 ∧ k < 24) (j : Nat) : I (MA k) j = σ k j := (mv_r hk.1 hk.2.1 hk.2.2.1 hk.2.2.2 j).trans (by rw [h])
theorem rs {I : IM} {σ : ST} (h : mv I = σ) {k : Nat} (hk : k = 0 ∨ k = 14 ∨ k = 18) : I MO k = σ k 0 := (mv_d hk).trans (by rw [h])
/-- only the reference's rows change -/
def FrA (I I' : IM) : Prop := ∀ L : Lb, L.1 ≠ 3 → I' L = I L
theorem FrA_rfl {I : IM} : FrA I I := fun _ _ => rfl
theorem FrA_tr {I I' I'' : IM} (h : FrA I I') (h' : FrA I' I'') : FrA I I'' := fun L a => (h' L a).trans (h L a)
theorem FrA_up {I I' : IM} (h : FrA I I') {L : Lb} (hL : L.1 = 3) {k : Nat} {x : Int32} : FrA I (up2 I' L k x) := fun q a => by
  rw [up2_ne (fun e => by subst e; exact a hL)]
  exact h q a
theorem FrM_A {I I' : IM} (h : FrA I I') : FrM I I' := fun L _ b => h L b
theorem cntB {p : Nat → Prop} {i : Nat} : nI (cnt p i) + bI (p i) = nI (cnt p (i + 1)) := by
  by_cases h : p i
  · rw [cnt_t h, bI_t h]; exact nI_add _ _
  · rw [cnt_f h, bI_f h]; exact add0 _
theorem smI0 {f : Nat → Int32} : smI f 0 = nI 0 := rfl
set_option maxRecDepth 20000 in
set_option maxHeartbeats 400000 in
theorem m_isMatch_o {d b : Nat} {K : KM} {I : IM} {R : RM} {Q : QT} {n0 : Nat} {σ : ST} {its ma : Int32} (hd : 1 ≤ d) (hM : MK K R) (hm : mv I = σ) (hV : IV n0 σ) (hx : ¬ isN its 1000) (q : Q (.inl (some (pI (bI False)))) K I R) : Mw d b N_X6_isMatch 0 [some (pR (some MO)), some (pI its), some (pI ma)] [] K I R Q := by
  obtain ⟨d9, rfl⟩ : ∃ d9, d = d9 + 1 := ⟨d - 1, by omega⟩
  refine mw_iload i_80_0 (x := its) rfl ?_
  refine mw_const i_80_1 (v := nI 0) (by decide) ?_
  refine mw_const i_80_2 (v := nI 999) (by decide) ?_
  refine mw_callS i_80_3 mf_75 (as := [pI its, pI (nI 0), pI (nI 999)]) (rest := []) (d' := d9) (b' := b) (ls0 := [some (pI its), some (pI (nI 0)), some (pI (nI 999))]) rfl rfl rfl (Nat.le_of_ble_eq_true rfl) rfl rfl rfl ?_
  refine m_in ?_
  rw [bI_congr (inr_isN (x := its) (n := 999) (by decide))]
  refine aft_v ?_
  refine mw_eqB i_80_4 rfl (fun c1 => ?_) (fun c1 => ?_)
  · skip
    refine mw_const i_80_17 (v := nI 0) (by decide) ?_
    refine mw_iret i_80_18 (x := nI 0) (fun _ => (by decide)) ?_
    rw [bI_f (fun h => h)] at q
    exact q
  · skip
    exact absurd c1 hx
set_option maxRecDepth 20000 in
set_option maxHeartbeats 400000 in
theorem m_isMatch {d b : Nat} {K : KM} {I : IM} {R : RM} {Q : QT} {n0 : Nat} {σ : ST} {x : Nat} {ma : Int32} (hd : 1 ≤ d) (hM : MK K R) (hm : mv I = σ) (hV : IV n0 σ) (hx : x < 1000) (q : Q (.inl (some (pI (bI (isN ma (mn σ x)))))) K I R) : Mw d b N_X6_isMatch 0 [some (pR (some MO)), some (pI (nI x)), some (pI ma)] [] K I R Q := by
  obtain ⟨d9, rfl⟩ : ∃ d9, d = d9 + 1 := ⟨d - 1, by omega⟩
  have h6 := (hV.2.2.2.2.2.1 x hx).2.1
  refine mw_iload i_80_0 (x := nI x) rfl ?_
  refine mw_const i_80_1 (v := nI 0) (by decide) ?_
  refine mw_const i_80_2 (v := nI 999) (by decide) ?_
  refine mw_callS i_80_3 mf_75 (as := [pI (nI x), pI (nI 0), pI (nI 999)]) (rest := []) (d' := d9) (b' := b) (ls0 := [some (pI (nI x)), some (pI (nI 0)), some (pI (nI 999))]) rfl rfl rfl (Nat.le_of_ble_eq_true rfl) rfl rfl rfl ?_
  refine m_in ?_
  rw [bI_congr (inr_isN (x := nI x) (n := 999) (by decide))]
  refine aft_v ?_
  refine mw_eqB i_80_4 rfl (fun c1 => ?_) (fun c1 => ?_)
  · skip
    exact absurd ⟨x, hx, rfl⟩ c1
  · skip
    refine mw_iload i_80_5 (x := ma) rfl ?_
    refine mw_const i_80_6 (v := nI 0) (by decide) ?_
    refine mw_aload i_80_7 (L := MO) rfl ?_
    refine mw_getR i_80_8 (MK_o hM) (q := some (MA 20)) (MK_r hM 20 (by decide)) ?_
    refine mw_iload i_80_9 (x := nI x) rfl ?_
    refine mw_iald i_80_10 (jn := x) (n := 1000) (by omega) (by omega) (show K (MA 20) = some (7, 1000) from MK_k hM 20 (by decide)) (by decide) (v := nI (mn σ x)) ((rm hm (by decide) x).trans (hV.2.2.2.2.2.1 x (by omega)).1) ?_
    refine mw_const i_80_11 (v := nI 1) (by decide) ?_
    refine mw_isub i_80_12 (w := ((nI (mn σ x)) - (nI 1))) rfl ?_
    refine mw_callS i_80_13 mf_75 (as := [pI ma, pI (nI 0), pI ((nI (mn σ x)) - (nI 1))]) (rest := []) (d' := d9) (b' := b) (ls0 := [some (pI ma), some (pI (nI 0)), some (pI ((nI (mn σ x)) - (nI 1)))]) rfl rfl rfl (Nat.le_of_ble_eq_true rfl) rfl rfl rfl ?_
    refine m_in ?_
    rw [bI_congr (inr_isN1 (x := ma) (n := (mn σ x)) (by omega))]
    refine aft_v ?_
    refine mw_eqB i_80_14 rfl (fun c2 => ?_) (fun c2 => ?_)
    · skip
      refine mw_const i_80_17 (v := nI 0) (by decide) ?_
      refine mw_iret i_80_18 (x := nI 0) (fun _ => (by decide)) ?_
      rw [show nI 0 = bI (isN ma (mn σ x)) from (bI_f (c2)).symm]
      exact q
    · skip
      refine mw_const i_80_15 (v := nI 1) (by decide) ?_
      refine mw_goto i_80_16 ?_
      refine mw_iret i_80_18 (x := nI 1) (fun _ => (by decide)) ?_
      rw [show nI 1 = bI (isN ma (mn σ x)) from (bI_t (c2)).symm]
      exact q
set_option maxRecDepth 20000 in
set_option maxHeartbeats 400000 in
theorem m_champ {d b : Nat} {K : KM} {I : IM} {R : RM} {Q : QT} {n0 : Nat} {σ : ST} {t : Nat} (hM : MK K R) (hm : mv I = σ) (hV : IV n0 σ) (ht : t < 4) (hn9 : n0 ≤ 512) (q : Q (.inl (some (pI (chO σ t)))) K I R) : Mw d b N_X6_championOf 0 [some (pR (some MO)), some (pI (nI t))] [] K I R Q := by
  have hl := (hV.2.2.2.2.1 t ht).1
  have hl9 := (hV.2.2.2.2.1 t ht).2
  refine mw_aload i_88_0 (L := MO) rfl ?_
  refine mw_getR i_88_1 (MK_o hM) (q := some (MA 17)) (MK_r hM 17 (by decide)) ?_
  refine mw_iload i_88_2 (x := nI t) rfl ?_
  refine mw_iald i_88_3 (jn := t) (n := 4) (by omega) (by omega) (show K (MA 17) = some (7, 4) from MK_k hM 17 (by decide)) (by decide) (v := nI (lnO σ t)) ((rm hm (by decide) t).trans (hV.2.2.2.2.1 t (by omega)).1) ?_
  refine mw_if i_88_4 (p := ¬ (nI (lnO σ t)) = nI 0) Iff.rfl (fun c1 => ?_) (fun c1 => ?_)
  · skip
    have hl0 : lnO σ t ≠ 0 := fun h => c1 (by rw [h])
    refine mw_aload i_88_7 (L := MO) rfl ?_
    refine mw_getR i_88_8 (MK_o hM) (q := some (MA 15)) (MK_r hM 15 (by decide)) ?_
    refine mw_const i_88_9 (v := nI 2000) (by decide) ?_
    refine mw_iload i_88_10 (x := nI t) rfl ?_
    refine mw_imul i_88_11 (w := nI (2000 * t)) (pk_mul _ _) ?_
    refine mw_aload i_88_12 (L := MO) rfl ?_
    refine mw_getR i_88_13 (MK_o hM) (q := some (MA 17)) (MK_r hM 17 (by decide)) ?_
    refine mw_iload i_88_14 (x := nI t) rfl ?_
    refine mw_iald i_88_15 (jn := t) (n := 4) (by omega) (by omega) (show K (MA 17) = some (7, 4) from MK_k hM 17 (by decide)) (by decide) (v := nI (lnO σ t)) ((rm hm (by decide) t).trans (hV.2.2.2.2.1 t (by omega)).1) ?_
    refine mw_iadd i_88_16 (w := nI (2000 * t + (lnO σ t))) (nI_add _ _) ?_
    refine mw_const i_88_17 (v := nI 1) (by decide) ?_
    refine mw_isub i_88_18 (w := nI ((2000 * t + (lnO σ t)) - 1)) (pk_sub (by omega)) ?_
    refine mw_iald i_88_19 (jn := (2000 * t + (lnO σ t)) - 1) (n := 8000) (by omega) (by omega) (show K (MA 15) = some (7, 8000) from MK_k hM 15 (by decide)) (by decide) (v := σ 15 ((2000 * t + (lnO σ t)) - 1)) (rm hm (by decide) ((2000 * t + (lnO σ t)) - 1)) ?_
    refine mw_iretI i_88_20 (x := σ 15 ((2000 * t + (lnO σ t)) - 1)) rt_88 ?_
    rw [show σ 15 (2000 * t + lnO σ t - 1) = chO σ t from by
      unfold chO
      rw [if_neg (by rw [hl]; exact c1), show (σ 17 t).toNatClampNeg = lnO σ t from rfl, show 2000 * t + (lnO σ t - 1) = 2000 * t + lnO σ t - 1 by omega]]
    exact q
  · skip
    refine mw_const i_88_5 (v := (-1)) (by decide) ?_
    refine mw_goto i_88_6 ?_
    refine mw_iretI i_88_20 (x := (-1)) rt_88 ?_
    rw [show (-1 : Int32) = chO σ t from (if_pos (by rw [hl]; exact Classical.not_not.mp c1)).symm]
    exact q
set_option maxRecDepth 20000 in
set_option maxHeartbeats 400000 in
theorem m_crowns {d b : Nat} {K : KM} {I : IM} {R : RM} {Q : QT} {σ : ST} {t l : Nat} {x : Int32} (hM : MK K R) (hm : mv I = σ) (ht : t < 4) (hl : σ 17 t = nI l) (hl9 : l < 1000) (q : ∀ I', FrA I I' → mv I' = crn σ t l x (σ 0 0) → Q (.inl none) K I' R) : Mw d b N_X6_crowns 0 [some (pR (some MO)), some (pI (nI t)), some (pI x)] [] K I R Q := by
  refine mw_aload i_89_0 (L := MO) rfl ?_
  refine mw_getR i_89_1 (MK_o hM) (q := some (MA 15)) (MK_r hM 15 (by decide)) ?_
  refine mw_const i_89_2 (v := nI 2000) (by decide) ?_
  refine mw_iload i_89_3 (x := nI t) rfl ?_
  refine mw_imul i_89_4 (w := nI (2000 * t)) (pk_mul _ _) ?_
  refine mw_aload i_89_5 (L := MO) rfl ?_
  refine mw_getR i_89_6 (MK_o hM) (q := some (MA 17)) (MK_r hM 17 (by decide)) ?_
  refine mw_iload i_89_7 (x := nI t) rfl ?_
  refine mw_iald i_89_8 (jn := t) (n := 4) (by omega) (by omega) (show K (MA 17) = some (7, 4) from MK_k hM 17 (by decide)) (by decide) (v := nI l) ((rm hm (by decide) t).trans hl) ?_
  refine mw_iadd i_89_9 (w := nI (2000 * t + l)) (nI_add _ _) ?_
  refine mw_iload i_89_10 (x := x) rfl ?_
  obtain ⟨I21, e21⟩ : ∃ I21, I21 = up2 I (MA 15) (2000 * t + l) x := ⟨_, rfl⟩
  refine mw_iast i_89_11 (jn := 2000 * t + l) (n := 8000) (by omega) (by omega) (x := x) (show K (MA 15) = some (7, 8000) from MK_k hM 15 (by decide)) (I' := I21) e21.symm ?_
  refine mw_aload i_89_12 (L := MO) rfl ?_
  refine mw_getR i_89_13 (MK_o hM) (q := some (MA 16)) (MK_r hM 16 (by decide)) ?_
  refine mw_const i_89_14 (v := nI 2000) (by decide) ?_
  refine mw_iload i_89_15 (x := nI t) rfl ?_
  refine mw_imul i_89_16 (w := nI (2000 * t)) (pk_mul _ _) ?_
  refine mw_aload i_89_17 (L := MO) rfl ?_
  refine mw_getR i_89_18 (MK_o hM) (q := some (MA 17)) (MK_r hM 17 (by decide)) ?_
  refine mw_iload i_89_19 (x := nI t) rfl ?_
  refine mw_iald i_89_20 (jn := t) (n := 4) (by omega) (by omega) (show K (MA 17) = some (7, 4) from MK_k hM 17 (by decide)) (by decide) (v := nI l) (by rw [e21, up2_ne (by simp)]; exact ((rm hm (by decide) t).trans hl)) ?_
  refine mw_iadd i_89_21 (w := nI (2000 * t + l)) (nI_add _ _) ?_
  refine mw_aload i_89_22 (L := MO) rfl ?_
  refine mw_get i_89_23 (MK_o hM) (v := σ 0 0) (by rw [e21, up2_ne (by simp)]; exact (rs hm (by decide))) ?_
  obtain ⟨I22, e22⟩ : ∃ I22, I22 = up2 I21 (MA 16) (2000 * t + l) (σ 0 0) := ⟨_, rfl⟩
  refine mw_iast i_89_24 (jn := 2000 * t + l) (n := 8000) (by omega) (by omega) (x := σ 0 0) (show K (MA 16) = some (7, 8000) from MK_k hM 16 (by decide)) (I' := I22) e22.symm ?_
  refine mw_aload i_89_25 (L := MO) rfl ?_
  refine mw_getR i_89_26 (MK_o hM) (q := some (MA 17)) (MK_r hM 17 (by decide)) ?_
  refine mw_iload i_89_27 (x := nI t) rfl ?_
  refine mw_dup2 i_89_28 trivial trivial ?_
  refine mw_iald i_89_29 (jn := t) (n := 4) (by omega) (by omega) (show K (MA 17) = some (7, 4) from MK_k hM 17 (by decide)) (by decide) (v := nI l) (by rw [e22, up2_ne (by simp), e21, up2_ne (by simp)]; exact ((rm hm (by decide) t).trans hl)) ?_
  refine mw_const i_89_30 (v := nI 1) (by decide) ?_
  refine mw_iadd i_89_31 (w := nI (l + 1)) (nI_add _ _) ?_
  obtain ⟨I23, e23⟩ : ∃ I23, I23 = up2 I22 (MA 17) t (nI (l + 1)) := ⟨_, rfl⟩
  refine mw_iast i_89_32 (jn := t) (n := 4) (by omega) (by omega) (x := nI (l + 1)) (show K (MA 17) = some (7, 4) from MK_k hM 17 (by decide)) (I' := I23) e23.symm ?_
  refine mw_ret i_89_33 ?_
  refine q _ ((e23.symm ▸ FrA_up ((e22.symm ▸ FrA_up ((e21.symm ▸ FrA_up (FrA_rfl) rfl)) rfl)) rfl)) ?_
  rw [e23, mv_a (by decide) (by decide) (by decide) (by decide), e22, mv_a (by decide) (by decide) (by decide) (by decide), e21, mv_a (by decide) (by decide) (by decide) (by decide), hm]
  unfold crn
  rfl
theorem Ex_u {p : Nat → Prop} {n : Nat} (h : Ex p n) : Ex p (n + 1) := by
  obtain ⟨j, hj, hp⟩ := h
  exact ⟨j, by omega, hp⟩
theorem Ex_n {p : Nat → Prop} {n : Nat} (h : p n) : Ex p (n + 1) := ⟨n, by omega, h⟩
set_option maxRecDepth 20000 in
theorem m_onCard_lp {d b : Nat} {K : KM} {I : IM} {R : RM} {Q : QT} {n0 : Nat} {σ : ST} {x : Nat} {v : Int32} (hd : 1 ≤ d) (hM : MK K R) (hm : mv I = σ) (hV : IV n0 σ) (hx : x < 1000) (q : Q (.inl (some (pI (bI (onC σ x v))))) K I R) : ∀ (n i : Nat), mn σ x - i < n → i ≤ mn σ x → Mw d b N_X6_isOnCard 4 [some (pR (some MO)), some (pI (nI x)), some (pI v), some (pI (bI (Ex (fun j => σ 19 (36 * x + 6 * j) = v ∨ σ 19 (36 * x + 6 * j + 1) = v) i))), some (pI (nI i))] [] K I R Q := by
  obtain ⟨d9, rfl⟩ : ∃ d9, d = d9 + 1 := ⟨d - 1, by omega⟩
  intro n
  induction n with
  | zero => intro i hn; exact absurd hn (Nat.not_lt_zero _)
  | succ n ih =>
    intro i hn hi
    have hpp := hV.1.2
    have htt := hV.2.1.2
    have hdd := hV.2.2.1.2
    have h6 := (hV.2.2.2.2.2.1 x hx).2.1
    refine mw_iload i_90_4 (x := nI i) rfl ?_
    refine mw_aload i_90_5 (L := MO) rfl ?_
    refine mw_getR i_90_6 (MK_o hM) (q := some (MA 20)) (MK_r hM 20 (by decide)) ?_
    refine mw_iload i_90_7 (x := nI x) rfl ?_
    refine mw_iald i_90_8 (jn := x) (n := 1000) (by omega) (by omega) (show K (MA 20) = some (7, 1000) from MK_k hM 20 (by decide)) (by decide) (v := nI (mn σ x)) ((rm hm (by decide) x).trans (hV.2.2.2.2.2.1 x (by omega)).1) ?_
    refine mw_ic i_90_9 (p := (mn σ x) ≤ i) (nI_leI (by omega) (by omega)) (fun c1 => ?_) (fun c1 => ?_)
    · skip
      refine mw_iload i_90_32 (x := bI (Ex (fun j => σ 19 (36 * x + 6 * j) = v ∨ σ 19 (36 * x + 6 * j + 1) = v) i)) rfl ?_
      refine mw_iretB i_90_33 ?_
      obtain rfl : i = mn σ x := by omega
      exact q
    · skip
      have J2 : Mw (d9 + 1) b 90 29 [some (pR (some MO)), some (pI (nI x)), some (pI v), some (pI (bI (Ex (fun j => σ 19 (36 * x + 6 * j) = v ∨ σ 19 (36 * x + 6 * j + 1) = v) i))), some (pI (nI i))] [pI (bI (Ex (fun j => σ 19 (36 * x + 6 * j) = v ∨ σ 19 (36 * x + 6 * j + 1) = v) (i + 1)))] K I R Q := by
        refine mw_istore i_90_29 (ls' := [some (pR (some MO)), some (pI (nI x)), some (pI v), some (pI (bI (Ex (fun j => σ 19 (36 * x + 6 * j) = v ∨ σ 19 (36 * x + 6 * j + 1) = v) (i + 1)))), some (pI (nI i))]) rfl (Nat.le_of_ble_eq_true rfl) ?_
        refine mw_iinc i_90_30 (x := nI i) (v := nI (i + 1)) (ls' := [some (pR (some MO)), some (pI (nI x)), some (pI v), some (pI (bI (Ex (fun j => σ 19 (36 * x + 6 * j) = v ∨ σ 19 (36 * x + 6 * j + 1) = v) (i + 1)))), some (pI (nI (i + 1)))]) rfl (nI_add _ _) rfl ?_
        refine mw_goto i_90_31 ?_
        exact ih (i + 1) (by omega) (by omega)
      refine mw_iload i_90_10 (x := bI (Ex (fun j => σ 19 (36 * x + 6 * j) = v ∨ σ 19 (36 * x + 6 * j + 1) = v) i)) rfl ?_
      refine mw_neB i_90_11 rfl (fun c3 => ?_) (fun c3 => ?_)
      · skip
        refine mw_const i_90_26 (v := nI 1) (by decide) ?_
        refine mw_goto i_90_27 ?_
        rw [show nI 1 = bI (Ex (fun j => σ 19 (36 * x + 6 * j) = v ∨ σ 19 (36 * x + 6 * j + 1) = v) (i + 1)) from (bI_t ((Ex_u c3))).symm]
        exact J2
      · skip
        refine mw_aload i_90_12 (L := MO) rfl ?_
        refine mw_iload i_90_13 (x := nI x) rfl ?_
        refine mw_iload i_90_14 (x := nI i) rfl ?_
        refine mw_const i_90_15 (v := nI 0) (by decide) ?_
        refine mw_callV i_90_16 mf_81 (as := [pI (nI x), pI (nI i), pI (nI 0)]) (rest := []) (d' := d9) (b' := b) (ls0 := [some (pR (some MO)), some (pI (nI x)), some (pI (nI i)), some (pI (nI 0))]) rfl rfl rfl (Nat.le_of_ble_eq_true rfl) (MK_o hM) rfl rfl rfl ?_
        refine m_of hM (by omega) (by omega) (by omega) ?_
        rw [show I (MA 19) (36 * x + 6 * i + 0) = σ 19 (36 * x + 6 * i) from rm hm (by decide) _]
        refine aft_v ?_
        refine mw_iload i_90_17 (x := v) rfl ?_
        refine mw_ic i_90_18 (p := (σ 19 (36 * x + 6 * i)) = v) Iff.rfl (fun c4 => ?_) (fun c4 => ?_)
        · skip
          refine mw_const i_90_26 (v := nI 1) (by decide) ?_
          refine mw_goto i_90_27 ?_
          rw [show nI 1 = bI (Ex (fun j => σ 19 (36 * x + 6 * j) = v ∨ σ 19 (36 * x + 6 * j + 1) = v) (i + 1)) from (bI_t ((Ex_n (by first | exact Or.inl c4 | exact Or.inr (Classical.not_not.mp c4) | exact Or.inr c4)))).symm]
          exact J2
        · skip
          refine mw_aload i_90_19 (L := MO) rfl ?_
          refine mw_iload i_90_20 (x := nI x) rfl ?_
          refine mw_iload i_90_21 (x := nI i) rfl ?_
          refine mw_const i_90_22 (v := nI 1) (by decide) ?_
          refine mw_callV i_90_23 mf_81 (as := [pI (nI x), pI (nI i), pI (nI 1)]) (rest := []) (d' := d9) (b' := b) (ls0 := [some (pR (some MO)), some (pI (nI x)), some (pI (nI i)), some (pI (nI 1))]) rfl rfl rfl (Nat.le_of_ble_eq_true rfl) (MK_o hM) rfl rfl rfl ?_
          refine m_of hM (by omega) (by omega) (by omega) ?_
          rw [show I (MA 19) (36 * x + 6 * i + 1) = σ 19 (36 * x + 6 * i + 1) from rm hm (by decide) _]
          refine aft_v ?_
          refine mw_iload i_90_24 (x := v) rfl ?_
          refine mw_ic i_90_25 (p := ¬ (σ 19 (36 * x + 6 * i + 1)) = v) Iff.rfl (fun c5 => ?_) (fun c5 => ?_)
          · skip
            refine mw_const i_90_28 (v := nI 0) (by decide) ?_
            rw [show nI 0 = bI (Ex (fun j => σ 19 (36 * x + 6 * j) = v ∨ σ 19 (36 * x + 6 * j + 1) = v) (i + 1)) from (bI_f ((Ex_s c3 (fun h => h.elim c4 (fun h => c5 h))))).symm]
            exact J2
          · skip
            refine mw_const i_90_26 (v := nI 1) (by decide) ?_
            refine mw_goto i_90_27 ?_
            rw [show nI 1 = bI (Ex (fun j => σ 19 (36 * x + 6 * j) = v ∨ σ 19 (36 * x + 6 * j + 1) = v) (i + 1)) from (bI_t ((Ex_n (by first | exact Or.inl c5 | exact Or.inr (Classical.not_not.mp c5) | exact Or.inr c5)))).symm]
            exact J2
theorem m_onCard {d b : Nat} {K : KM} {I : IM} {R : RM} {Q : QT} {n0 : Nat} {σ : ST} {x : Nat} {v : Int32} (hd : 1 ≤ d) (hM : MK K R) (hm : mv I = σ) (hV : IV n0 σ) (hx : x < 1000) (q : Q (.inl (some (pI (bI (onC σ x v))))) K I R) : Mw d b N_X6_isOnCard 0 [some (pR (some MO)), some (pI (nI x)), some (pI v), none, none] [] K I R Q := by
  refine mw_const i_90_0 (v := nI 0) (by decide) ?_
  refine mw_istore i_90_1 (ls' := [some (pR (some MO)), some (pI (nI x)), some (pI v), some (pI (nI 0)), none]) rfl (Nat.le_of_ble_eq_true rfl) ?_
  refine mw_const i_90_2 (v := nI 0) (by decide) ?_
  refine mw_istore i_90_3 (ls' := [some (pR (some MO)), some (pI (nI x)), some (pI v), some (pI (nI 0)), some (pI (nI 0))]) rfl (Nat.le_of_ble_eq_true rfl) ?_
  have e : bI (Ex (fun j => σ 19 (36 * x + 6 * j) = v ∨ σ 19 (36 * x + 6 * j + 1) = v) 0) = nI 0 := bI_f Ex_0
  have z := m_onCard_lp (b := b) hd hM hm hV hx q (mn σ x + 1) 0 (by omega) (by omega)
  rw [e] at z
  exact z
set_option maxRecDepth 20000 in
theorem m_min_lp {d b : Nat} {K : KM} {I : IM} {R : RM} {Q : QT} {n0 : Nat} {σ : ST} {x : Nat} (hd : 1 ≤ d) (hM : MK K R) (hm : mv I = σ) (hV : IV n0 σ) (hx : x < 1000) (q : Q (.inl (some (pI (smI (fun j => σ 19 (36 * x + 6 * j + 3)) (mn σ x))))) K I R) : ∀ (n i : Nat), mn σ x - i < n → i ≤ mn σ x → Mw d b N_X6_minutesOf 4 [some (pR (some MO)), some (pI (nI x)), some (pI (smI (fun j => σ 19 (36 * x + 6 * j + 3)) i)), some (pI (nI i))] [] K I R Q := by
  obtain ⟨d9, rfl⟩ : ∃ d9, d = d9 + 1 := ⟨d - 1, by omega⟩
  intro n
  induction n with
  | zero => intro i hn; exact absurd hn (Nat.not_lt_zero _)
  | succ n ih =>
    intro i hn hi
    have hpp := hV.1.2
    have htt := hV.2.1.2
    have hdd := hV.2.2.1.2
    have h6 := (hV.2.2.2.2.2.1 x hx).2.1
    refine mw_iload i_91_4 (x := nI i) rfl ?_
    refine mw_aload i_91_5 (L := MO) rfl ?_
    refine mw_getR i_91_6 (MK_o hM) (q := some (MA 20)) (MK_r hM 20 (by decide)) ?_
    refine mw_iload i_91_7 (x := nI x) rfl ?_
    refine mw_iald i_91_8 (jn := x) (n := 1000) (by omega) (by omega) (show K (MA 20) = some (7, 1000) from MK_k hM 20 (by decide)) (by decide) (v := nI (mn σ x)) ((rm hm (by decide) x).trans (hV.2.2.2.2.2.1 x (by omega)).1) ?_
    refine mw_ic i_91_9 (p := (mn σ x) ≤ i) (nI_leI (by omega) (by omega)) (fun c1 => ?_) (fun c1 => ?_)
    · skip
      refine mw_iload i_91_20 (x := smI (fun j => σ 19 (36 * x + 6 * j + 3)) i) rfl ?_
      refine mw_iretI i_91_21 (x := smI (fun j => σ 19 (36 * x + 6 * j + 3)) i) rt_91 ?_
      obtain rfl : i = mn σ x := by omega
      exact q
    · skip
      refine mw_iload i_91_10 (x := smI (fun j => σ 19 (36 * x + 6 * j + 3)) i) rfl ?_
      refine mw_aload i_91_11 (L := MO) rfl ?_
      refine mw_iload i_91_12 (x := nI x) rfl ?_
      refine mw_iload i_91_13 (x := nI i) rfl ?_
      refine mw_const i_91_14 (v := nI 3) (by decide) ?_
      refine mw_callV i_91_15 mf_81 (as := [pI (nI x), pI (nI i), pI (nI 3)]) (rest := [pI (smI (fun j => σ 19 (36 * x + 6 * j + 3)) i)]) (d' := d9) (b' := b) (ls0 := [some (pR (some MO)), some (pI (nI x)), some (pI (nI i)), some (pI (nI 3))]) rfl rfl rfl (Nat.le_of_ble_eq_true rfl) (MK_o hM) rfl rfl rfl ?_
      refine m_of hM (by omega) (by omega) (by omega) ?_
      rw [show I (MA 19) (36 * x + 6 * i + 3) = σ 19 (36 * x + 6 * i + 3) from rm hm (by decide) _]
      refine aft_v ?_
      refine mw_iadd i_91_16 (w := smI (fun j => σ 19 (36 * x + 6 * j + 3)) (i + 1)) rfl ?_
      refine mw_istore i_91_17 (ls' := [some (pR (some MO)), some (pI (nI x)), some (pI (smI (fun j => σ 19 (36 * x + 6 * j + 3)) (i + 1))), some (pI (nI i))]) rfl (Nat.le_of_ble_eq_true rfl) ?_
      refine mw_iinc i_91_18 (x := nI i) (v := nI (i + 1)) (ls' := [some (pR (some MO)), some (pI (nI x)), some (pI (smI (fun j => σ 19 (36 * x + 6 * j + 3)) (i + 1))), some (pI (nI (i + 1)))]) rfl (nI_add _ _) rfl ?_
      refine mw_goto i_91_19 ?_
      exact ih (i + 1) (by omega) (by omega)
set_option maxRecDepth 20000 in
set_option maxHeartbeats 400000 in
theorem m_minutes {d b : Nat} {K : KM} {I : IM} {R : RM} {Q : QT} {n0 : Nat} {σ : ST} {x : Nat} (hd : 1 ≤ d) (hM : MK K R) (hm : mv I = σ) (hV : IV n0 σ) (hx : x < 1000) (q : Q (.inl (some (pI (smI (fun j => σ 19 (36 * x + 6 * j + 3)) (mn σ x))))) K I R) : Mw d b N_X6_minutesOf 0 [some (pR (some MO)), some (pI (nI x)), none, none] [] K I R Q := by
  obtain ⟨d9, rfl⟩ : ∃ d9, d = d9 + 1 := ⟨d - 1, by omega⟩
  refine mw_const i_91_0 (v := nI 0) (by decide) ?_
  refine mw_istore i_91_1 (ls' := [some (pR (some MO)), some (pI (nI x)), some (pI (nI 0)), none]) rfl (Nat.le_of_ble_eq_true rfl) ?_
  refine mw_const i_91_2 (v := nI 0) (by decide) ?_
  refine mw_istore i_91_3 (ls' := [some (pR (some MO)), some (pI (nI x)), some (pI (nI 0)), some (pI (nI 0))]) rfl (Nat.le_of_ble_eq_true rfl) ?_
  exact m_min_lp hd hM hm hV hx q (mn σ x + 1) 0 (by omega) (by omega)
