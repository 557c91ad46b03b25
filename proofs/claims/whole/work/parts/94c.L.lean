/-! the calls of the law: the class -/
/-- of what is not the class, the answer's cell alone changes -/
def FrO (I I' : IM) : Prop := ∀ L : Lb, L.1 < 4 → L ≠ OUT → I' L = I L
theorem FrO_rfl {I : IM} : FrO I I := fun _ _ _ => rfl
theorem FrO_C {I I' : IM} (h : FrC I I') : FrO I I' := fun L a _ => h L a
theorem FrO_up {I I' : IM} (h : FrO I I') {k : Nat} {x : Int32} : FrO I (up2 I' OUT k x) := fun L a b => by
  rw [up2_ne b]
  exact h L a b
theorem RC_O {σ : ST} {I : IM} {R : RM} (h : RC σ I R) {k : Nat} {x : Int32} : RC σ (up2 I OUT k x) R := RC_F h (fun L h1 _ _ _ _ => up2_ne (fun e => h1 (by rw [e])))
theorem CW_up {n : Nat} {σ : ST} {K : KM} {I : IM} {R : RM} (h : CW n σ K I R) : CW (n + 1) σ K I R := ⟨h.1, h.2.1, IV_up h.2.2 (Nat.le_succ n)⟩
theorem CW_O {n : Nat} {σ : ST} {K : KM} {I : IM} {R : RM} (h : CW n σ K I R) {k : Nat} {x : Int32} : CW n σ K (up2 I OUT k x) R := ⟨h.1, RC_O h.2.1, h.2.2⟩
theorem day_x {σ : ST} {day : Int32} (hd : dn σ ≤ 999) : inr day (nI (dn σ)) (nI 999) ↔ ∃ x, dn σ ≤ x ∧ x < 1000 ∧ day = nI x := by
  constructor
  · intro h
    have a1 := Int32.le_iff_toInt_le.mp h.1
    have a2 := Int32.le_iff_toInt_le.mp h.2
    rw [nI_toInt (by omega)] at a1 a2
    obtain ⟨x, hx, ex⟩ := (isN_i (x := day) (n := 1000) (by decide)).mpr ⟨by omega, by omega⟩
    refine ⟨x, ?_, hx, ex⟩
    rw [ex, nI_toInt (by omega)] at a1
    omega
  · rintro ⟨x, h1, h2, rfl⟩
    exact ⟨nI_le h1 (by omega), nI_le (by omega) (by decide)⟩
set_option maxRecDepth 20000 in
set_option maxHeartbeats 400000 in
theorem kL0 {d b : Nat} {K : KM} {I : IM} {R : RM} {Q : QT} {n : Nat} {σ : ST} {sk : Int32} {mi : Int32} {ro : Int32} (hd : 14 ≤ d) (hW : CW n σ K I R) (hn : n < 512) (hKO : K OUT = some (13, 1))  (q : ∀ K' I' R', FrKR K K' R R' → FrO I I' → CW (n + 1) (Fz0 σ sk mi ro).2.2 K' I' R' → ((Fz0 σ sk mi ro).1 = 0 → I' OUT 0 = (Fz0 σ sk mi ro).2.1) → Q (.inl (some (pI (nI (Fz0 σ sk mi ro).1)))) K' I' R') : Mw d (b + 7) N_L_wrestler 0 [some (pR (some RING)), some (pI sk), some (pI mi), some (pI ro), some (pR (some OUT)), none] [] K I R Q := by
  obtain ⟨d9, rfl⟩ : ∃ d9, d = d9 + 1 := ⟨d - 1, by omega⟩
  have hV := hW.2.2
  have hpp := hV.1.2
  have htt := hV.2.1.2
  have hdd := hV.2.2.1.2
  refine mw_aload i_132_0 (L := OUT) rfl ?_
  refine mw_const i_132_1 (v := nI 0) (by decide) ?_
  refine mw_aload i_132_2 (L := RING) rfl ?_
  refine mw_iload i_132_3 (x := sk) rfl ?_
  refine mw_iload i_132_4 (x := mi) rfl ?_
  refine mw_iload i_132_5 (x := ro) rfl ?_
  refine mw_callV i_132_6 mf_33 (as := [pI sk, pI mi, pI ro]) (rest := [pI (nI 0), pR (some OUT)]) (d' := d9) (b' := b) (ls0 := [some (pR (some RING)), some (pI sk), some (pI mi), some (pI ro), none]) rfl rfl rfl (Nat.le_of_ble_eq_true rfl) hW.1.1.1.1 rfl (by omega) rfl ?_
  refine k_wrestler (by omega) hW (by omega) hn (fun h => ?_) (fun h1 h => ?_) (fun h1 h2 I9 hF9 r9 v9 hv9 => ?_)
  · skip
    refine aft_h (t := 10) (by decide +kernel) ?_
    refine mw_astoreO i_132_10 (ls' := [some (pR (some RING)), some (pI sk), some (pI mi), some (pI ro), some (pR (some OUT)), some (pO)]) rfl (Nat.le_of_ble_eq_true rfl) ?_
    refine mw_const i_132_11 (v := nI 1) (by decide) ?_
    refine mw_iretI i_132_12 (x := nI 1) rt_132 ?_
    rw [Fz0_1 h] at q
    exact q K I R FrKR_rfl FrO_rfl (CW_up hW) (fun h => absurd h (Nat.succ_ne_zero _))
  · skip
    refine aft_h (t := 13) (by decide +kernel) ?_
    refine mw_astoreO i_132_13 (ls' := [some (pR (some RING)), some (pI sk), some (pI mi), some (pI ro), some (pR (some OUT)), some (pO)]) rfl (Nat.le_of_ble_eq_true rfl) ?_
    refine mw_const i_132_14 (v := nI 2) (by decide) ?_
    refine mw_iretI i_132_15 (x := nI 2) rt_132 ?_
    rw [Fz0_2 h1 h] at q
    exact q K I R FrKR_rfl FrO_rfl (CW_up hW) (fun h => absurd h (Nat.succ_ne_zero _))
  · skip
    refine aft_v ?_
    refine mw_i2l i_132_7 ?_
    obtain ⟨I21, e21⟩ : ∃ I21, I21 = up2 I9 OUT 0 v9 := ⟨_, rfl⟩
    refine mw_last i_132_8 (jn := 0) (n := 1) (by omega) (by omega) (x := v9) hKO (I' := I21) e21.symm ?_
    refine mw_goto i_132_9 ?_
    refine mw_const i_132_16 (v := nI 0) (by decide) ?_
    refine mw_iretI i_132_17 (x := nI 0) rt_132 ?_
    rw [Fz0_0 h1 h2] at q
    exact q K I21 R FrKR_rfl (e21.symm ▸ FrO_up (FrO_C hF9)) (by rw [e21]; exact ⟨hW.1, RC_O r9, IV_wr hV h1.1 h1.2.1 h1.2.2 h2⟩) (fun _ => by rw [e21, up2_at, upd_at]; exact hv9)
set_option maxRecDepth 20000 in
set_option maxHeartbeats 400000 in
theorem kL1 {d b : Nat} {K : KM} {I : IM} {R : RM} {Q : QT} {n : Nat} {σ : ST} (hd : 14 ≤ d) (hW : CW n σ K I R) (hn : n < 512) (hKO : K OUT = some (13, 1))  (q : ∀ K' I' R', FrKR K K' R R' → FrO I I' → CW (n + 1) (Fz1 σ).2.2 K' I' R' → ((Fz1 σ).1 = 0 → I' OUT 0 = (Fz1 σ).2.1) → Q (.inl (some (pI (nI (Fz1 σ).1)))) K' I' R') : Mw d (b + 7) N_L_title 0 [some (pR (some RING)), some (pR (some OUT)), none] [] K I R Q := by
  obtain ⟨d9, rfl⟩ : ∃ d9, d = d9 + 1 := ⟨d - 1, by omega⟩
  have hV := hW.2.2
  have hpp := hV.1.2
  have htt := hV.2.1.2
  have hdd := hV.2.2.1.2
  refine mw_aload i_133_0 (L := OUT) rfl ?_
  refine mw_const i_133_1 (v := nI 0) (by decide) ?_
  refine mw_aload i_133_2 (L := RING) rfl ?_
  refine mw_callV i_133_3 mf_34 (as := []) (rest := [pI (nI 0), pR (some OUT)]) (d' := d9) (b' := b) (ls0 := [some (pR (some RING))]) rfl rfl rfl (Nat.le_of_ble_eq_true rfl) hW.1.1.1.1 rfl (by omega) rfl ?_
  refine k_title (by omega) hW (by omega) hn (fun h => ?_) (fun h1 I9 hF9 r9 v9 hv9 => ?_)
  · skip
    refine aft_h (t := 7) (by decide +kernel) ?_
    refine mw_astoreO i_133_7 (ls' := [some (pR (some RING)), some (pR (some OUT)), some (pO)]) rfl (Nat.le_of_ble_eq_true rfl) ?_
    refine mw_const i_133_8 (v := nI 1) (by decide) ?_
    refine mw_iretI i_133_9 (x := nI 1) rt_133 ?_
    rw [Fz1_1 h] at q
    exact q K I R FrKR_rfl FrO_rfl (CW_up hW) (fun h => absurd h (Nat.succ_ne_zero _))
  · skip
    refine aft_v ?_
    refine mw_i2l i_133_4 ?_
    obtain ⟨I21, e21⟩ : ∃ I21, I21 = up2 I9 OUT 0 v9 := ⟨_, rfl⟩
    refine mw_last i_133_5 (jn := 0) (n := 1) (by omega) (by omega) (x := v9) hKO (I' := I21) e21.symm ?_
    refine mw_goto i_133_6 ?_
    refine mw_const i_133_10 (v := nI 0) (by decide) ?_
    refine mw_iretI i_133_11 (x := nI 0) rt_133 ?_
    rw [Fz1_0 h1] at q
    exact q K I21 R FrKR_rfl (e21.symm ▸ FrO_up (FrO_C hF9)) (by rw [e21]; exact ⟨hW.1, RC_O r9, IV_ti hV h1⟩) (fun _ => by rw [e21, up2_at, upd_at]; exact hv9)
set_option maxRecDepth 20000 in
set_option maxHeartbeats 400000 in
theorem kL2 {d b : Nat} {K : KM} {I : IM} {R : RM} {Q : QT} {n : Nat} {σ : ST} {w : Int32} {o : Int32} {un : Int32} (hd : 14 ≤ d) (hW : CW n σ K I R) (hn : n < 512) (hKO : K OUT = some (13, 1))  (q : ∀ K' I' R', FrKR K K' R R' → FrO I I' → CW (n + 1) (Fz2 σ w o un).2.2 K' I' R' → ((Fz2 σ w o un).1 = 0 → I' OUT 0 = (Fz2 σ w o un).2.1) → Q (.inl (some (pI (nI (Fz2 σ w o un).1)))) K' I' R') : Mw d (b + 7) N_L_clause 0 [some (pR (some RING)), some (pI w), some (pI o), some (pI un), some (pR (some OUT)), none] [] K I R Q := by
  obtain ⟨d9, rfl⟩ : ∃ d9, d = d9 + 1 := ⟨d - 1, by omega⟩
  have hV := hW.2.2
  have hpp := hV.1.2
  have htt := hV.2.1.2
  have hdd := hV.2.2.1.2
  refine mw_aload i_134_0 (L := OUT) rfl ?_
  refine mw_const i_134_1 (v := nI 0) (by decide) ?_
  refine mw_aload i_134_2 (L := RING) rfl ?_
  refine mw_iload i_134_3 (x := w) rfl ?_
  refine mw_iload i_134_4 (x := o) rfl ?_
  refine mw_iload i_134_5 (x := un) rfl ?_
  refine mw_callV i_134_6 mf_35 (as := [pI w, pI o, pI un]) (rest := [pI (nI 0), pR (some OUT)]) (d' := d9) (b' := b) (ls0 := [some (pR (some RING)), some (pI w), some (pI o), some (pI un), none, none]) rfl rfl rfl (Nat.le_of_ble_eq_true rfl) hW.1.1.1.1 rfl (by omega) rfl ?_
  refine k_clause (by omega) hW (by omega) hn (fun h => ?_) (fun x y hx hy ex ey h => ?_) (fun x y hx hy ex ey h2 I9 hF9 r9 v9 hv9 => ?_)
  · skip
    refine aft_h (t := 10) (by decide +kernel) ?_
    refine mw_astoreO i_134_10 (ls' := [some (pR (some RING)), some (pI w), some (pI o), some (pI un), some (pR (some OUT)), some (pO)]) rfl (Nat.le_of_ble_eq_true rfl) ?_
    refine mw_const i_134_11 (v := nI 1) (by decide) ?_
    refine mw_iretI i_134_12 (x := nI 1) rt_134 ?_
    rw [Fz2_1 h] at q
    exact q K I R FrKR_rfl FrO_rfl (CW_up hW) (fun h => absurd h (Nat.succ_ne_zero _))
  · skip
    refine aft_h (t := 13) (by decide +kernel) ?_
    refine mw_astoreO i_134_13 (ls' := [some (pR (some RING)), some (pI w), some (pI o), some (pI un), some (pR (some OUT)), some (pO)]) rfl (Nat.le_of_ble_eq_true rfl) ?_
    refine mw_const i_134_14 (v := nI 2) (by decide) ?_
    refine mw_iretI i_134_15 (x := nI 2) rt_134 ?_
    subst ex ey
    rw [Fz2_2 ⟨⟨x, hx, rfl⟩, ⟨y, hy, rfl⟩⟩ (fun h9 => h ⟨fun e => h9.1 (by rw [e]), h9.2⟩)] at q
    exact q K I R FrKR_rfl FrO_rfl (CW_up hW) (fun h => absurd h (Nat.succ_ne_zero _))
  · skip
    refine aft_v ?_
    refine mw_i2l i_134_7 ?_
    obtain ⟨I21, e21⟩ : ∃ I21, I21 = up2 I9 OUT 0 v9 := ⟨_, rfl⟩
    refine mw_last i_134_8 (jn := 0) (n := 1) (by omega) (by omega) (x := v9) hKO (I' := I21) e21.symm ?_
    refine mw_goto i_134_9 ?_
    refine mw_const i_134_16 (v := nI 0) (by decide) ?_
    refine mw_iretI i_134_17 (x := nI 0) rt_134 ?_
    subst ex ey
    rw [Fz2_0 ⟨⟨x, hx, rfl⟩, ⟨y, hy, rfl⟩⟩ ⟨fun e => h2.1 (nI_inj e (by omega) (by omega)), h2.2⟩, tk_n (show x < 2147483648 by omega), tk_n (show y < 2147483648 by omega)] at q
    exact q K I21 R FrKR_rfl (e21.symm ▸ FrO_up (FrO_C hF9)) (by rw [e21]; exact ⟨hW.1, RC_O r9, IV_clause hV h2.2⟩) (fun _ => by rw [e21, up2_at, upd_at]; exact hv9)
set_option maxRecDepth 20000 in
set_option maxHeartbeats 400000 in
theorem kL3 {d b : Nat} {K : KM} {I : IM} {R : RM} {Q : QT} {n : Nat} {σ : ST} {w : Int32} {day : Int32} (hd : 14 ≤ d) (hW : CW n σ K I R) (hn : n < 512) (hKO : K OUT = some (13, 1))  (q : ∀ K' I' R', FrKR K K' R R' → FrO I I' → CW (n + 1) (Fz3 σ w day).2.2 K' I' R' → ((Fz3 σ w day).1 = 0 → I' OUT 0 = (Fz3 σ w day).2.1) → Q (.inl (some (pI (nI (Fz3 σ w day).1)))) K' I' R') : Mw d (b + 7) N_L_protect 0 [some (pR (some RING)), some (pI w), some (pI day), some (pR (some OUT)), none] [] K I R Q := by
  obtain ⟨d9, rfl⟩ : ∃ d9, d = d9 + 1 := ⟨d - 1, by omega⟩
  have hV := hW.2.2
  have hpp := hV.1.2
  have htt := hV.2.1.2
  have hdd := hV.2.2.1.2
  refine mw_aload i_135_0 (L := OUT) rfl ?_
  refine mw_const i_135_1 (v := nI 0) (by decide) ?_
  refine mw_aload i_135_2 (L := RING) rfl ?_
  refine mw_iload i_135_3 (x := w) rfl ?_
  refine mw_iload i_135_4 (x := day) rfl ?_
  refine mw_callV i_135_5 mf_36 (as := [pI w, pI day]) (rest := [pI (nI 0), pR (some OUT)]) (d' := d9) (b' := b) (ls0 := [some (pR (some RING)), some (pI w), some (pI day), none]) rfl rfl rfl (Nat.le_of_ble_eq_true rfl) hW.1.1.1.1 rfl (by omega) rfl ?_
  refine k_protect (by omega) hW (by omega) hn (fun h => ?_) (fun x hx ex h => ?_) (fun x hx ex h2 I9 hF9 r9 v9 hv9 => ?_)
  · skip
    refine aft_h (t := 9) (by decide +kernel) ?_
    refine mw_astoreO i_135_9 (ls' := [some (pR (some RING)), some (pI w), some (pI day), some (pR (some OUT)), some (pO)]) rfl (Nat.le_of_ble_eq_true rfl) ?_
    refine mw_const i_135_10 (v := nI 1) (by decide) ?_
    refine mw_iretI i_135_11 (x := nI 1) rt_135 ?_
    rw [Fz3_1 h] at q
    exact q K I R FrKR_rfl FrO_rfl (CW_up hW) (fun h => absurd h (Nat.succ_ne_zero _))
  · skip
    refine aft_h (t := 12) (by decide +kernel) ?_
    refine mw_astoreO i_135_12 (ls' := [some (pR (some RING)), some (pI w), some (pI day), some (pR (some OUT)), some (pO)]) rfl (Nat.le_of_ble_eq_true rfl) ?_
    refine mw_const i_135_13 (v := nI 2) (by decide) ?_
    refine mw_iretI i_135_14 (x := nI 2) rt_135 ?_
    subst ex
    rw [Fz3_2 ⟨x, hx, rfl⟩ h] at q
    exact q K I R FrKR_rfl FrO_rfl (CW_up hW) (fun h => absurd h (Nat.succ_ne_zero _))
  · skip
    refine aft_v ?_
    refine mw_i2l i_135_6 ?_
    obtain ⟨I21, e21⟩ : ∃ I21, I21 = up2 I9 OUT 0 v9 := ⟨_, rfl⟩
    refine mw_last i_135_7 (jn := 0) (n := 1) (by omega) (by omega) (x := v9) hKO (I' := I21) e21.symm ?_
    refine mw_goto i_135_8 ?_
    refine mw_const i_135_15 (v := nI 0) (by decide) ?_
    refine mw_iretI i_135_16 (x := nI 0) rt_135 ?_
    subst ex
    rw [Fz3_0 ⟨x, hx, rfl⟩ h2, tk_n (show x < 2147483648 by omega)] at q
    exact q K I21 R FrKR_rfl (e21.symm ▸ FrO_up (FrO_C hF9)) (by rw [e21]; exact ⟨hW.1, RC_O r9, IV_prot hV⟩) (fun _ => by rw [e21, up2_at, upd_at]; exact hv9)
set_option maxRecDepth 20000 in
set_option maxHeartbeats 400000 in
theorem kL4 {d b : Nat} {K : KM} {I : IM} {R : RM} {Q : QT} {n : Nat} {σ : ST} {day : Int32} {tw : Int32} {fi : Int32} {se : Int32} {pb : Prop} {mi : Int32} {ti : Int32} (hd : 14 ≤ d) (hW : CW n σ K I R) (hn : n < 512) (hKO : K OUT = some (13, 1))  (q : ∀ K' I' R', FrKR K K' R R' → FrO I I' → CW (n + 1) (Fz4 σ day tw fi se pb mi ti).2.2 K' I' R' → ((Fz4 σ day tw fi se pb mi ti).1 = 0 → I' OUT 0 = (Fz4 σ day tw fi se pb mi ti).2.1) → Q (.inl (some (pI (nI (Fz4 σ day tw fi se pb mi ti).1)))) K' I' R') : Mw d (b + 61) N_L_book 0 [some (pR (some RING)), some (pI day), some (pI tw), some (pI fi), some (pI se), some (pI (bI pb)), some (pI mi), some (pI ti), some (pR (some OUT)), none] [] K I R Q := by
  obtain ⟨d9, rfl⟩ : ∃ d9, d = d9 + 1 := ⟨d - 1, by omega⟩
  have hV := hW.2.2
  have hpp := hV.1.2
  have htt := hV.2.1.2
  have hdd := hV.2.2.1.2
  refine mw_aload i_136_0 (L := OUT) rfl ?_
  refine mw_const i_136_1 (v := nI 0) (by decide) ?_
  refine mw_aload i_136_2 (L := RING) rfl ?_
  refine mw_iload i_136_3 (x := day) rfl ?_
  refine mw_iload i_136_4 (x := tw) rfl ?_
  refine mw_iload i_136_5 (x := fi) rfl ?_
  refine mw_iload i_136_6 (x := se) rfl ?_
  refine mw_iload i_136_7 (x := bI pb) rfl ?_
  refine mw_iload i_136_8 (x := mi) rfl ?_
  refine mw_iload i_136_9 (x := ti) rfl ?_
  refine mw_callV i_136_10 mf_37 (as := [pI day, pI tw, pI fi, pI se, pI (bI pb), pI mi, pI ti]) (rest := [pI (nI 0), pR (some OUT)]) (d' := d9) (b' := b) (ls0 := [some (pR (some RING)), some (pI day), some (pI tw), some (pI fi), some (pI se), some (pI (bI pb)), some (pI mi), some (pI ti), none, none, none, none]) rfl rfl rfl (Nat.le_of_ble_eq_true rfl) hW.1.1.1.1 rfl (by omega) rfl ?_
  refine k_book (by omega) hW (fun h => ?_) (fun t f s hb1 h => ?_) (fun t f s hb1 x hb2 h => ?_) (fun t f s hb1 x hb2 hA h => ?_) (fun t f s hb1 x hb2 hA hB K9 I9 R9 hX9 hK9 hF9 r9 => ?_)
  · skip
    refine aft_h (t := 14) (by decide +kernel) ?_
    refine mw_astoreO i_136_14 (ls' := [some (pR (some RING)), some (pI day), some (pI tw), some (pI fi), some (pI se), some (pI (bI pb)), some (pI mi), some (pI ti), some (pR (some OUT)), some (pO)]) rfl (Nat.le_of_ble_eq_true rfl) ?_
    refine mw_const i_136_15 (v := nI 1) (by decide) ?_
    refine mw_iretI i_136_16 (x := nI 1) rt_136 ?_
    rw [Fz4_1 (fun h9 => by obtain ⟨⟨t, ht, et⟩, ⟨f, hf, ef⟩, ⟨s, hs, es⟩, hti⟩ := h9; exact h t f s ⟨ht, hf, hs, et, ef, es, hti⟩)] at q
    exact q K I R FrKR_rfl FrO_rfl (CW_up hW) (fun h => absurd h (Nat.succ_ne_zero _))
  · skip
    refine aft_h (t := 17) (by decide +kernel) ?_
    refine mw_astoreO i_136_17 (ls' := [some (pR (some RING)), some (pI day), some (pI tw), some (pI fi), some (pI se), some (pI (bI pb)), some (pI mi), some (pI ti), some (pR (some OUT)), some (pO)]) rfl (Nat.le_of_ble_eq_true rfl) ?_
    refine mw_const i_136_18 (v := nI 2) (by decide) ?_
    refine mw_iretI i_136_19 (x := nI 2) rt_136 ?_
    obtain ⟨ht, hf, hs, et, ef, es, hti⟩ := hb1
    subst et ef es
    rw [Fz4_2 ⟨⟨t, ht, rfl⟩, ⟨f, hf, rfl⟩, ⟨s, hs, rfl⟩, hti⟩ (fun h9 => by obtain ⟨hdy, hmi, hfs⟩ := h9; obtain ⟨x, hxd, hx, ex⟩ := (day_x hdd).mp hdy; exact h x ⟨hxd, hx, ex, hmi, fun e => hfs (by rw [e])⟩)] at q
    exact q K I R FrKR_rfl FrO_rfl (CW_up hW) (fun h => absurd h (Nat.succ_ne_zero _))
  · skip
    refine aft_h (t := 20) (by decide +kernel) ?_
    refine mw_astoreO i_136_20 (ls' := [some (pR (some RING)), some (pI day), some (pI tw), some (pI fi), some (pI se), some (pI (bI pb)), some (pI mi), some (pI ti), some (pR (some OUT)), some (pO)]) rfl (Nat.le_of_ble_eq_true rfl) ?_
    refine mw_const i_136_21 (v := nI 3) (by decide) ?_
    refine mw_iretI i_136_22 (x := nI 3) rt_136 ?_
    obtain ⟨ht, hf, hs, et, ef, es, hti⟩ := hb1
    subst et ef es
    obtain ⟨hxd, hx, ex, hmi, hfs⟩ := hb2
    subst ex
    rw [Fz4_3 ⟨⟨t, ht, rfl⟩, ⟨f, hf, rfl⟩, ⟨s, hs, rfl⟩, hti⟩ ⟨(day_x hdd).mpr ⟨x, hxd, hx, rfl⟩, hmi, fun e => hfs (nI_inj e (by omega) (by omega))⟩ (fun h9 => by rw [tk_n (show x < 2147483648 by omega), tk_n (show t < 2147483648 by omega), tk_n (show f < 2147483648 by omega), tk_n (show s < 2147483648 by omega)] at h9; exact h h9.1)] at q
    exact q K I R FrKR_rfl FrO_rfl (CW_up hW) (fun h => absurd h (Nat.succ_ne_zero _))
  · skip
    refine aft_h (t := 20) (by decide +kernel) ?_
    refine mw_astoreO i_136_20 (ls' := [some (pR (some RING)), some (pI day), some (pI tw), some (pI fi), some (pI se), some (pI (bI pb)), some (pI mi), some (pI ti), some (pR (some OUT)), some (pO)]) rfl (Nat.le_of_ble_eq_true rfl) ?_
    refine mw_const i_136_21 (v := nI 3) (by decide) ?_
    refine mw_iretI i_136_22 (x := nI 3) rt_136 ?_
    obtain ⟨ht, hf, hs, et, ef, es, hti⟩ := hb1
    subst et ef es
    obtain ⟨hxd, hx, ex, hmi, hfs⟩ := hb2
    subst ex
    rw [Fz4_3 ⟨⟨t, ht, rfl⟩, ⟨f, hf, rfl⟩, ⟨s, hs, rfl⟩, hti⟩ ⟨(day_x hdd).mpr ⟨x, hxd, hx, rfl⟩, hmi, fun e => hfs (nI_inj e (by omega) (by omega))⟩ (fun h9 => by rw [tk_n (show x < 2147483648 by omega), tk_n (show t < 2147483648 by omega), tk_n (show f < 2147483648 by omega), tk_n (show s < 2147483648 by omega)] at h9; exact h h9.2)] at q
    exact q K I R FrKR_rfl FrO_rfl (CW_up hW) (fun h => absurd h (Nat.succ_ne_zero _))
  · skip
    have hKO9 : K9 OUT = some (13, 1) := (hK9 OUT (by decide)).1.trans hKO
    refine aft_v ?_
    refine mw_i2l i_136_11 ?_
    obtain ⟨I21, e21⟩ : ∃ I21, I21 = up2 I9 OUT 0 (nI (mn σ x)) := ⟨_, rfl⟩
    refine mw_last i_136_12 (jn := 0) (n := 1) (by omega) (by omega) (x := nI (mn σ x)) hKO9 (I' := I21) e21.symm ?_
    refine mw_goto i_136_13 ?_
    refine mw_const i_136_23 (v := nI 0) (by decide) ?_
    refine mw_iretI i_136_24 (x := nI 0) rt_136 ?_
    obtain ⟨ht, hf, hs, et, ef, es, hti⟩ := hb1
    subst et ef es
    obtain ⟨hxd, hx, ex, hmi, hfs⟩ := hb2
    subst ex
    rw [Fz4_0 ⟨⟨t, ht, rfl⟩, ⟨f, hf, rfl⟩, ⟨s, hs, rfl⟩, hti⟩ ⟨(day_x hdd).mpr ⟨x, hxd, hx, rfl⟩, hmi, fun e => hfs (nI_inj e (by omega) (by omega))⟩ (by rw [tk_n (show x < 2147483648 by omega), tk_n (show t < 2147483648 by omega), tk_n (show f < 2147483648 by omega), tk_n (show s < 2147483648 by omega)]; exact ⟨hA, hB⟩), tk_n (show x < 2147483648 by omega), tk_n (show t < 2147483648 by omega), tk_n (show f < 2147483648 by omega), tk_n (show s < 2147483648 by omega)] at q
    exact q K9 I21 R9 hK9 (e21.symm ▸ FrO_up (FrO_C hF9)) (by rw [e21]; exact ⟨hX9, RC_O r9, IV_up (IV_bk hV hx ht hf hs hti hmi hfs hA.1.1 hA.1.2.1 hA.2.2.2) (Nat.le_succ n)⟩) (fun _ => by rw [e21, up2_at, upd_at])
set_option maxRecDepth 20000 in
set_option maxHeartbeats 400000 in
theorem kL5_o {d b : Nat} {K : KM} {I : IM} {R : RM} {Q : QT} {n : Nat} {σ : ST} {day : Int32} {ma : Int32} (hd : 14 ≤ d) (hW : CW n σ K I R) (hn : n < 512) (hKO : K OUT = some (13, 1)) (hx : ¬ isN day 1000) (q : ∀ K' I' R', FrKR K K' R R' → FrO I I' → CW (n + 1) (Fz5 σ day ma).2.2 K' I' R' → ((Fz5 σ day ma).1 = 0 → I' OUT 0 = (Fz5 σ day ma).2.1) → Q (.inl (some (pI (nI (Fz5 σ day ma).1)))) K' I' R') : Mw d (b + 7) N_L_strike 0 [some (pR (some RING)), some (pI day), some (pI ma), some (pR (some OUT)), none] [] K I R Q := by
  obtain ⟨d9, rfl⟩ : ∃ d9, d = d9 + 1 := ⟨d - 1, by omega⟩
  have hV := hW.2.2
  have hpp := hV.1.2
  have htt := hV.2.1.2
  have hdd := hV.2.2.1.2
  refine mw_aload i_137_0 (L := OUT) rfl ?_
  refine mw_const i_137_1 (v := nI 0) (by decide) ?_
  refine mw_aload i_137_2 (L := RING) rfl ?_
  refine mw_iload i_137_3 (x := day) rfl ?_
  refine mw_iload i_137_4 (x := ma) rfl ?_
  refine mw_callV i_137_5 mf_38 (as := [pI day, pI ma]) (rest := [pI (nI 0), pR (some OUT)]) (d' := d9) (b' := b) (ls0 := [some (pR (some RING)), some (pI day), some (pI ma), none]) rfl rfl rfl (Nat.le_of_ble_eq_true rfl) hW.1.1.1.1 rfl (by omega) rfl ?_
  refine k_strike_o (by omega) hW (by omega) hx ?_
  refine aft_h (t := 9) (by decide +kernel) ?_
  refine mw_astoreO i_137_9 (ls' := [some (pR (some RING)), some (pI day), some (pI ma), some (pR (some OUT)), some (pO)]) rfl (Nat.le_of_ble_eq_true rfl) ?_
  refine mw_const i_137_10 (v := nI 1) (by decide) ?_
  refine mw_iretI i_137_11 (x := nI 1) rt_137 ?_
  rw [Fz5_1 (fun h => hx h.1)] at q
  exact q K I R FrKR_rfl FrO_rfl (CW_up hW) (fun h => absurd h (Nat.succ_ne_zero _))
set_option maxRecDepth 20000 in
set_option maxHeartbeats 400000 in
theorem kL5_i {d b : Nat} {K : KM} {I : IM} {R : RM} {Q : QT} {n : Nat} {σ : ST} {x : Nat} {ma : Int32} (hd : 14 ≤ d) (hW : CW n σ K I R) (hn : n < 512) (hKO : K OUT = some (13, 1)) (hx : x < 1000) (q : ∀ K' I' R', FrKR K K' R R' → FrO I I' → CW (n + 1) (Fz5 σ (nI x) ma).2.2 K' I' R' → ((Fz5 σ (nI x) ma).1 = 0 → I' OUT 0 = (Fz5 σ (nI x) ma).2.1) → Q (.inl (some (pI (nI (Fz5 σ (nI x) ma).1)))) K' I' R') : Mw d (b + 7) N_L_strike 0 [some (pR (some RING)), some (pI (nI x)), some (pI ma), some (pR (some OUT)), none] [] K I R Q := by
  obtain ⟨d9, rfl⟩ : ∃ d9, d = d9 + 1 := ⟨d - 1, by omega⟩
  have hV := hW.2.2
  have hpp := hV.1.2
  have htt := hV.2.1.2
  have hdd := hV.2.2.1.2
  have etx := tk_n (n := x) (by omega)
  have h6 := (hV.2.2.2.2.2.1 x hx).2.1
  refine mw_aload i_137_0 (L := OUT) rfl ?_
  refine mw_const i_137_1 (v := nI 0) (by decide) ?_
  refine mw_aload i_137_2 (L := RING) rfl ?_
  refine mw_iload i_137_3 (x := nI x) rfl ?_
  refine mw_iload i_137_4 (x := ma) rfl ?_
  refine mw_callV i_137_5 mf_38 (as := [pI (nI x), pI ma]) (rest := [pI (nI 0), pR (some OUT)]) (d' := d9) (b' := b) (ls0 := [some (pR (some RING)), some (pI (nI x)), some (pI ma), none]) rfl rfl rfl (Nat.le_of_ble_eq_true rfl) hW.1.1.1.1 rfl (by omega) rfl ?_
  refine k_strike_i (by omega) hW (by omega) hx (fun h => ?_) (fun m hm9 em h => ?_) (fun m hm9 em h2 I9 R9 hX9 hK9 hF9 r9 => ?_)
  · skip
    refine aft_h (t := 9) (by decide +kernel) ?_
    refine mw_astoreO i_137_9 (ls' := [some (pR (some RING)), some (pI (nI x)), some (pI ma), some (pR (some OUT)), some (pO)]) rfl (Nat.le_of_ble_eq_true rfl) ?_
    refine mw_const i_137_10 (v := nI 1) (by decide) ?_
    refine mw_iretI i_137_11 (x := nI 1) rt_137 ?_
    rw [Fz5_1 (fun h9 => h (by rw [etx] at h9; exact h9.2))] at q
    exact q K I R FrKR_rfl FrO_rfl (CW_up hW) (fun h => absurd h (Nat.succ_ne_zero _))
  · skip
    refine aft_h (t := 12) (by decide +kernel) ?_
    refine mw_astoreO i_137_12 (ls' := [some (pR (some RING)), some (pI (nI x)), some (pI ma), some (pR (some OUT)), some (pO)]) rfl (Nat.le_of_ble_eq_true rfl) ?_
    refine mw_const i_137_13 (v := nI 2) (by decide) ?_
    refine mw_iretI i_137_14 (x := nI 2) rt_137 ?_
    subst em
    rw [Fz5_2 ⟨⟨x, hx, rfl⟩, by rw [etx]; exact ⟨m, hm9, rfl⟩⟩ (by rw [etx]; exact h)] at q
    exact q K I R FrKR_rfl FrO_rfl (CW_up hW) (fun h => absurd h (Nat.succ_ne_zero _))
  · skip
    refine aft_v ?_
    refine mw_i2l i_137_6 ?_
    obtain ⟨I21, e21⟩ : ∃ I21, I21 = up2 I9 OUT 0 (nI (mn σ x - 1)) := ⟨_, rfl⟩
    refine mw_last i_137_7 (jn := 0) (n := 1) (by omega) (by omega) (x := nI (mn σ x - 1)) hKO (I' := I21) e21.symm ?_
    refine mw_goto i_137_8 ?_
    refine mw_const i_137_15 (v := nI 0) (by decide) ?_
    refine mw_iretI i_137_16 (x := nI 0) rt_137 ?_
    subst em
    rw [Fz5_0 ⟨⟨x, hx, rfl⟩, by rw [etx]; exact ⟨m, hm9, rfl⟩⟩ (by rw [etx]; exact h2), etx, tk_n (show m < 2147483648 by omega)] at q
    exact q K I21 R9 hK9 (e21.symm ▸ FrO_up (FrO_C hF9)) (by rw [e21]; exact ⟨hX9, RC_O r9, IV_up (IV_st hV hx hm9 h2) (Nat.le_succ n)⟩) (fun _ => by rw [e21, up2_at, upd_at])
set_option maxRecDepth 20000 in
set_option maxHeartbeats 400000 in
theorem kL6 {d b : Nat} {K : KM} {I : IM} {R : RM} {Q : QT} {n : Nat} {σ : ST} {ma : Int32} (hd : 14 ≤ d) (hW : CW n σ K I R) (hn : n < 512) (hKO : K OUT = some (13, 1))  (q : ∀ K' I' R', FrKR K K' R R' → FrO I I' → CW (n + 1) (Fz6 σ ma).2.2 K' I' R' → ((Fz6 σ ma).1 = 0 → I' OUT 0 = (Fz6 σ ma).2.1) → Q (.inl (some (pI (nI (Fz6 σ ma).1)))) K' I' R') : Mw d (b + 7) N_L_shoot 0 [some (pR (some RING)), some (pI ma), some (pR (some OUT)), none] [] K I R Q := by
  obtain ⟨d9, rfl⟩ : ∃ d9, d = d9 + 1 := ⟨d - 1, by omega⟩
  have hV := hW.2.2
  have hpp := hV.1.2
  have htt := hV.2.1.2
  have hdd := hV.2.2.1.2
  have h6 := (hV.2.2.2.2.2.1 (dn σ) (by omega)).2.1
  refine mw_aload i_138_0 (L := OUT) rfl ?_
  refine mw_const i_138_1 (v := nI 0) (by decide) ?_
  refine mw_aload i_138_2 (L := RING) rfl ?_
  refine mw_iload i_138_3 (x := ma) rfl ?_
  refine mw_callV i_138_4 mf_39 (as := [pI ma]) (rest := [pI (nI 0), pR (some OUT)]) (d' := d9) (b' := b) (ls0 := [some (pR (some RING)), some (pI ma), none, none]) rfl rfl rfl (Nat.le_of_ble_eq_true rfl) hW.1.1.1.1 rfl (by omega) rfl ?_
  refine k_shoot (x := dn σ) (by omega) hW (by omega) (by omega) rfl (fun h => ?_) (fun m hm9 em h => ?_) (fun m hm9 em h2 I9 hF9 r9 => ?_)
  · skip
    refine aft_h (t := 11) (by decide +kernel) ?_
    refine mw_astoreO i_138_11 (ls' := [some (pR (some RING)), some (pI ma), some (pR (some OUT)), some (pO)]) rfl (Nat.le_of_ble_eq_true rfl) ?_
    refine mw_const i_138_12 (v := nI 1) (by decide) ?_
    refine mw_iretI i_138_13 (x := nI 1) rt_138 ?_
    rw [Fz6_1 h] at q
    exact q K I R FrKR_rfl FrO_rfl (CW_up hW) (fun h => absurd h (Nat.succ_ne_zero _))
  · skip
    refine aft_h (t := 14) (by decide +kernel) ?_
    refine mw_astoreO i_138_14 (ls' := [some (pR (some RING)), some (pI ma), some (pR (some OUT)), some (pO)]) rfl (Nat.le_of_ble_eq_true rfl) ?_
    refine mw_const i_138_15 (v := nI 2) (by decide) ?_
    refine mw_iretI i_138_16 (x := nI 2) rt_138 ?_
    subst em
    rw [Fz6_2 ⟨m, hm9, rfl⟩ h] at q
    exact q K I R FrKR_rfl FrO_rfl (CW_up hW) (fun h => absurd h (Nat.succ_ne_zero _))
  · skip
    refine aft_v ?_
    refine mw_if i_138_5 (p := (σ 19 (36 * dn σ + 6 * m + 5)) = nI 0) Iff.rfl (fun c1 => ?_) (fun c1 => ?_)
    · skip
      refine mw_lconst i_138_8 (v := nI 0) (by decide) (by decide) ?_
      obtain ⟨I22, e22⟩ : ∃ I22, I22 = up2 I9 OUT 0 (nI 0) := ⟨_, rfl⟩
      refine mw_last i_138_9 (jn := 0) (n := 1) (by omega) (by omega) (x := nI 0) hKO (I' := I22) e22.symm ?_
      refine mw_goto i_138_10 ?_
      refine mw_const i_138_17 (v := nI 0) (by decide) ?_
      refine mw_iretI i_138_18 (x := nI 0) rt_138 ?_
      subst em
      rw [Fz6_0 ⟨m, hm9, rfl⟩ h2, tk_n (show m < 2147483648 by omega)] at q
      exact q K I22 R FrKR_rfl (e22.symm ▸ FrO_up (FrO_C hF9)) (by rw [e22]; exact ⟨hW.1, RC_O r9, IV_up (IV_shoot hV (by omega) hm9 h2) (Nat.le_succ n)⟩) (fun _ => by rw [e22, up2_at, upd_at, c1])
    · skip
      refine mw_lconst i_138_6 (v := nI 1) (by decide) (by decide) ?_
      refine mw_goto i_138_7 ?_
      obtain ⟨I23, e23⟩ : ∃ I23, I23 = up2 I9 OUT 0 (nI 1) := ⟨_, rfl⟩
      refine mw_last i_138_9 (jn := 0) (n := 1) (by omega) (by omega) (x := nI 1) hKO (I' := I23) e23.symm ?_
      refine mw_goto i_138_10 ?_
      refine mw_const i_138_17 (v := nI 0) (by decide) ?_
      refine mw_iretI i_138_18 (x := nI 0) rt_138 ?_
      subst em
      rw [Fz6_0 ⟨m, hm9, rfl⟩ h2, tk_n (show m < 2147483648 by omega)] at q
      exact q K I23 R FrKR_rfl (e23.symm ▸ FrO_up (FrO_C hF9)) (by rw [e23]; exact ⟨hW.1, RC_O r9, IV_up (IV_shoot hV (by omega) hm9 h2) (Nat.le_succ n)⟩) (fun _ => by rw [e23, up2_at, upd_at]; exact v01 ((hV.2.2.2.2.2.1 (dn σ) (by omega)).2.2.2.2.1 m hm9).2.2.2.2.2.2 c1)
set_option maxRecDepth 20000 in
set_option maxHeartbeats 400000 in
theorem kL7 {d b : Nat} {K : KM} {I : IM} {R : RM} {Q : QT} {n : Nat} {σ : ST} {w : Int32} {days : Int32} (hd : 14 ≤ d) (hW : CW n σ K I R) (hn : n < 512) (hKO : K OUT = some (13, 1))  (q : ∀ K' I' R', FrKR K K' R R' → FrO I I' → CW (n + 1) (Fz7 σ w days).2.2 K' I' R' → ((Fz7 σ w days).1 = 0 → I' OUT 0 = (Fz7 σ w days).2.1) → Q (.inl (some (pI (nI (Fz7 σ w days).1)))) K' I' R') : Mw d (b + 7) N_L_hurt 0 [some (pR (some RING)), some (pI w), some (pI days), some (pR (some OUT)), none] [] K I R Q := by
  obtain ⟨d9, rfl⟩ : ∃ d9, d = d9 + 1 := ⟨d - 1, by omega⟩
  have hV := hW.2.2
  have hpp := hV.1.2
  have htt := hV.2.1.2
  have hdd := hV.2.2.1.2
  refine mw_aload i_139_0 (L := OUT) rfl ?_
  refine mw_const i_139_1 (v := nI 0) (by decide) ?_
  refine mw_aload i_139_2 (L := RING) rfl ?_
  refine mw_iload i_139_3 (x := w) rfl ?_
  refine mw_iload i_139_4 (x := days) rfl ?_
  refine mw_callV i_139_5 mf_40 (as := [pI w, pI days]) (rest := [pI (nI 0), pR (some OUT)]) (d' := d9) (b' := b) (ls0 := [some (pR (some RING)), some (pI w), some (pI days)]) rfl rfl rfl (Nat.le_of_ble_eq_true rfl) hW.1.1.1.1 rfl (by omega) rfl ?_
  refine k_hurt (by omega) hW (by omega) hn (fun h => ?_) (fun x hx ex h => ?_) (fun x hx ex h2 I9 hF9 r9 v9 hv9 => ?_)
  · skip
    refine aft_h (t := 9) (by decide +kernel) ?_
    refine mw_astoreO i_139_9 (ls' := [some (pR (some RING)), some (pI w), some (pI days), some (pR (some OUT)), some (pO)]) rfl (Nat.le_of_ble_eq_true rfl) ?_
    refine mw_const i_139_10 (v := nI 1) (by decide) ?_
    refine mw_iretI i_139_11 (x := nI 1) rt_139 ?_
    rw [Fz7_1 h] at q
    exact q K I R FrKR_rfl FrO_rfl (CW_up hW) (fun h => absurd h (Nat.succ_ne_zero _))
  · skip
    refine aft_h (t := 12) (by decide +kernel) ?_
    refine mw_astoreO i_139_12 (ls' := [some (pR (some RING)), some (pI w), some (pI days), some (pR (some OUT)), some (pO)]) rfl (Nat.le_of_ble_eq_true rfl) ?_
    refine mw_const i_139_13 (v := nI 2) (by decide) ?_
    refine mw_iretI i_139_14 (x := nI 2) rt_139 ?_
    subst ex
    rw [Fz7_2 ⟨x, hx, rfl⟩ h] at q
    exact q K I R FrKR_rfl FrO_rfl (CW_up hW) (fun h => absurd h (Nat.succ_ne_zero _))
  · skip
    refine aft_v ?_
    refine mw_i2l i_139_6 ?_
    obtain ⟨I21, e21⟩ : ∃ I21, I21 = up2 I9 OUT 0 v9 := ⟨_, rfl⟩
    refine mw_last i_139_7 (jn := 0) (n := 1) (by omega) (by omega) (x := v9) hKO (I' := I21) e21.symm ?_
    refine mw_goto i_139_8 ?_
    refine mw_const i_139_15 (v := nI 0) (by decide) ?_
    refine mw_iretI i_139_16 (x := nI 0) rt_139 ?_
    subst ex
    rw [Fz7_0 ⟨x, hx, rfl⟩ h2, tk_n (show x < 2147483648 by omega)] at q
    exact q K I21 R FrKR_rfl (e21.symm ▸ FrO_up (FrO_C hF9)) (by rw [e21]; exact ⟨hW.1, RC_O r9, IV_hr hn hV.2.2.2.2.1 (IV_up hV (Nat.le_succ n))⟩) (fun _ => by rw [e21, up2_at, upd_at]; exact hv9)
set_option maxRecDepth 20000 in
set_option maxHeartbeats 400000 in
theorem kL8 {d b : Nat} {K : KM} {I : IM} {R : RM} {Q : QT} {n : Nat} {σ : ST} {w : Int32} (hd : 14 ≤ d) (hW : CW n σ K I R) (hn : n < 512) (hKO : K OUT = some (13, 1))  (q : ∀ K' I' R', FrKR K K' R R' → FrO I I' → CW (n + 1) (Fz8 σ w).2.2 K' I' R' → ((Fz8 σ w).1 = 0 → I' OUT 0 = (Fz8 σ w).2.1) → Q (.inl (some (pI (nI (Fz8 σ w).1)))) K' I' R') : Mw d (b + 7) N_L_head 0 [some (pR (some RING)), some (pI w), some (pR (some OUT)), none] [] K I R Q := by
  obtain ⟨d9, rfl⟩ : ∃ d9, d = d9 + 1 := ⟨d - 1, by omega⟩
  have hV := hW.2.2
  have hpp := hV.1.2
  have htt := hV.2.1.2
  have hdd := hV.2.2.1.2
  refine mw_aload i_140_0 (L := OUT) rfl ?_
  refine mw_const i_140_1 (v := nI 0) (by decide) ?_
  refine mw_aload i_140_2 (L := RING) rfl ?_
  refine mw_iload i_140_3 (x := w) rfl ?_
  refine mw_callV i_140_4 mf_41 (as := [pI w]) (rest := [pI (nI 0), pR (some OUT)]) (d' := d9) (b' := b) (ls0 := [some (pR (some RING)), some (pI w), none]) rfl rfl rfl (Nat.le_of_ble_eq_true rfl) hW.1.1.1.1 rfl (by omega) rfl ?_
  refine k_head (by omega) hW (by omega) hn (fun h => ?_) (fun x hx ex I9 hF9 r9 v9 hv9 => ?_)
  · skip
    refine aft_h (t := 8) (by decide +kernel) ?_
    refine mw_astoreO i_140_8 (ls' := [some (pR (some RING)), some (pI w), some (pR (some OUT)), some (pO)]) rfl (Nat.le_of_ble_eq_true rfl) ?_
    refine mw_const i_140_9 (v := nI 1) (by decide) ?_
    refine mw_iretI i_140_10 (x := nI 1) rt_140 ?_
    rw [Fz8_1 h] at q
    exact q K I R FrKR_rfl FrO_rfl (CW_up hW) (fun h => absurd h (Nat.succ_ne_zero _))
  · skip
    refine aft_v ?_
    refine mw_i2l i_140_5 ?_
    obtain ⟨I21, e21⟩ : ∃ I21, I21 = up2 I9 OUT 0 v9 := ⟨_, rfl⟩
    refine mw_last i_140_6 (jn := 0) (n := 1) (by omega) (by omega) (x := v9) hKO (I' := I21) e21.symm ?_
    refine mw_goto i_140_7 ?_
    refine mw_const i_140_11 (v := nI 0) (by decide) ?_
    refine mw_iretI i_140_12 (x := nI 0) rt_140 ?_
    subst ex
    rw [Fz8_0 ⟨x, hx, rfl⟩, tk_n (show x < 2147483648 by omega)] at q
    exact q K I21 R FrKR_rfl (e21.symm ▸ FrO_up (FrO_C hF9)) (by rw [e21]; exact ⟨hW.1, RC_O r9, IV_head hn hV⟩) (fun _ => by rw [e21, up2_at, upd_at]; exact hv9)
set_option maxRecDepth 20000 in
set_option maxHeartbeats 400000 in
theorem kL9 {d b : Nat} {K : KM} {I : IM} {R : RM} {Q : QT} {n : Nat} {σ : ST} (hd : 16 ≤ d) (hW : CW n σ K I R) (hn : n < 512) (hKO : K OUT = some (13, 1))  (q : ∀ K' I' R', FrKR K K' R R' → FrO I I' → CW (n + 1) (Fz9 σ).2.2 K' I' R' → ((Fz9 σ).1 = 0 → I' OUT 0 = (Fz9 σ).2.1) → Q (.inl (some (pI (nI (Fz9 σ).1)))) K' I' R') : Mw d (b + 7) N_L_mend 0 [some (pR (some RING)), some (pR (some OUT)), none] [] K I R Q := by
  obtain ⟨d9, rfl⟩ : ∃ d9, d = d9 + 1 := ⟨d - 1, by omega⟩
  have hV := hW.2.2
  have hpp := hV.1.2
  have htt := hV.2.1.2
  have hdd := hV.2.2.1.2
  refine mw_aload i_141_0 (L := OUT) rfl ?_
  refine mw_const i_141_1 (v := nI 0) (by decide) ?_
  refine mw_aload i_141_2 (L := RING) rfl ?_
  refine mw_callV i_141_3 mf_42 (as := []) (rest := [pI (nI 0), pR (some OUT)]) (d' := d9) (b' := b) (ls0 := [some (pR (some RING)), none]) rfl rfl rfl (Nat.le_of_ble_eq_true rfl) hW.1.1.1.1 rfl (by omega) rfl ?_
  refine k_mend (by omega) hW (fun h I9 R9 hF9 hR9 hW9 => ?_) (fun h I9 R9 hF9 hR9 hW9 => ?_)
  · skip
    refine aft_h (t := 7) (by decide +kernel) ?_
    refine mw_astoreO i_141_7 (ls' := [some (pR (some RING)), some (pR (some OUT)), some (pO)]) rfl (Nat.le_of_ble_eq_true rfl) ?_
    refine mw_const i_141_8 (v := nI 1) (by decide) ?_
    refine mw_iretI i_141_9 (x := nI 1) rt_141 ?_
    rw [Fz9_1 h] at q
    exact q K I9 R9 (FrKR_R hR9) (FrO_C (FrC_N hF9)) (CW_up hW9) (fun h => absurd h (Nat.succ_ne_zero _))
  · skip
    refine aft_v ?_
    refine mw_i2l i_141_4 ?_
    obtain ⟨I21, e21⟩ : ∃ I21, I21 = up2 I9 OUT 0 (nI (meK σ)) := ⟨_, rfl⟩
    refine mw_last i_141_5 (jn := 0) (n := 1) (by omega) (by omega) (x := nI (meK σ)) hKO (I' := I21) e21.symm ?_
    refine mw_goto i_141_6 ?_
    refine mw_const i_141_10 (v := nI 0) (by decide) ?_
    refine mw_iretI i_141_11 (x := nI 0) rt_141 ?_
    rw [Fz9_0 h] at q
    exact q K I21 R9 hR9 (e21.symm ▸ FrO_up (FrO_C hF9)) (by rw [e21]; exact CW_O (CW_up hW9)) (fun _ => by rw [e21, up2_at, upd_at])
set_option maxRecDepth 20000 in
set_option maxHeartbeats 400000 in
theorem kL10 {d b : Nat} {K : KM} {I : IM} {R : RM} {Q : QT} {n : Nat} {σ : ST} (hd : 14 ≤ d) (hW : CW n σ K I R) (hn : n < 512) (hKO : K OUT = some (13, 1))  (q : ∀ K' I' R', FrKR K K' R R' → FrO I I' → CW (n + 1) (Fz10 σ).2.2 K' I' R' → ((Fz10 σ).1 = 0 → I' OUT 0 = (Fz10 σ).2.1) → Q (.inl (some (pI (nI (Fz10 σ).1)))) K' I' R') : Mw d (b + 7) N_L_play 0 [some (pR (some RING)), some (pR (some OUT)), none] [] K I R Q := by
  obtain ⟨d9, rfl⟩ : ∃ d9, d = d9 + 1 := ⟨d - 1, by omega⟩
  have hV := hW.2.2
  have hpp := hV.1.2
  have htt := hV.2.1.2
  have hdd := hV.2.2.1.2
  refine mw_aload i_142_0 (L := OUT) rfl ?_
  refine mw_const i_142_1 (v := nI 0) (by decide) ?_
  refine mw_aload i_142_2 (L := RING) rfl ?_
  refine mw_callV i_142_3 mf_43 (as := []) (rest := [pI (nI 0), pR (some OUT)]) (d' := d9) (b' := b) (ls0 := [some (pR (some RING)), none, none, none]) rfl rfl rfl (Nat.le_of_ble_eq_true rfl) hW.1.1.1.1 rfl (by omega) rfl ?_
  refine k_play (by omega) hW (by omega) hn (fun h => ?_) (fun h1 I9 hF9 r9 v9 hv9 => ?_)
  · skip
    refine aft_h (t := 7) (by decide +kernel) ?_
    refine mw_astoreO i_142_7 (ls' := [some (pR (some RING)), some (pR (some OUT)), some (pO)]) rfl (Nat.le_of_ble_eq_true rfl) ?_
    refine mw_const i_142_8 (v := nI 1) (by decide) ?_
    refine mw_iretI i_142_9 (x := nI 1) rt_142 ?_
    rw [Fz10_1 h] at q
    exact q K I R FrKR_rfl FrO_rfl (CW_up hW) (fun h => absurd h (Nat.succ_ne_zero _))
  · skip
    refine aft_v ?_
    refine mw_i2l i_142_4 ?_
    obtain ⟨I21, e21⟩ : ∃ I21, I21 = up2 I9 OUT 0 v9 := ⟨_, rfl⟩
    refine mw_last i_142_5 (jn := 0) (n := 1) (by omega) (by omega) (x := v9) hKO (I' := I21) e21.symm ?_
    refine mw_goto i_142_6 ?_
    refine mw_const i_142_10 (v := nI 0) (by decide) ?_
    refine mw_iretI i_142_11 (x := nI 0) rt_142 ?_
    rw [Fz10_0 h1] at q
    exact q K I21 R FrKR_rfl (e21.symm ▸ FrO_up (FrO_C hF9)) (by rw [e21]; exact ⟨hW.1, RC_O r9, IV_pl hV hn h1⟩) (fun _ => by rw [e21, up2_at, upd_at]; exact hv9)
set_option maxRecDepth 20000 in
set_option maxHeartbeats 400000 in
theorem kL11 {d b : Nat} {K : KM} {I : IM} {R : RM} {Q : QT} {n : Nat} {σ : ST} {tw : Int32} {w : Int32} {sl : Int32} (hd : 14 ≤ d) (hW : CW n σ K I R) (hn : n < 512) (hKO : K OUT = some (13, 1))  (q : ∀ K' I' R', FrKR K K' R R' → FrO I I' → CW (n + 1) (Fz11 σ tw w sl).2.2 K' I' R' → ((Fz11 σ tw w sl).1 = 0 → I' OUT 0 = (Fz11 σ tw w sl).2.1) → Q (.inl (some (pI (nI (Fz11 σ tw w sl).1)))) K' I' R') : Mw d (b + 7) N_L_promo 0 [some (pR (some RING)), some (pI tw), some (pI w), some (pI sl), some (pR (some OUT)), none] [] K I R Q := by
  obtain ⟨d9, rfl⟩ : ∃ d9, d = d9 + 1 := ⟨d - 1, by omega⟩
  have hV := hW.2.2
  have hpp := hV.1.2
  have htt := hV.2.1.2
  have hdd := hV.2.2.1.2
  refine mw_aload i_143_0 (L := OUT) rfl ?_
  refine mw_const i_143_1 (v := nI 0) (by decide) ?_
  refine mw_aload i_143_2 (L := RING) rfl ?_
  refine mw_iload i_143_3 (x := tw) rfl ?_
  refine mw_iload i_143_4 (x := w) rfl ?_
  refine mw_iload i_143_5 (x := sl) rfl ?_
  refine mw_callV i_143_6 mf_44 (as := [pI tw, pI w, pI sl]) (rest := [pI (nI 0), pR (some OUT)]) (d' := d9) (b' := b) (ls0 := [some (pR (some RING)), some (pI tw), some (pI w), some (pI sl), none, none]) rfl rfl rfl (Nat.le_of_ble_eq_true rfl) hW.1.1.1.1 rfl (by omega) rfl ?_
  refine k_promo (by omega) hW (by omega) hn (fun h => ?_) (fun t x ht hx et ex h => ?_) (fun t x ht hx et ex h2 h => ?_) (fun t x ht hx et ex h2 h3 I9 hF9 r9 v9 hv9 => ?_)
  · skip
    refine aft_h (t := 10) (by decide +kernel) ?_
    refine mw_astoreO i_143_10 (ls' := [some (pR (some RING)), some (pI tw), some (pI w), some (pI sl), some (pR (some OUT)), some (pO)]) rfl (Nat.le_of_ble_eq_true rfl) ?_
    refine mw_const i_143_11 (v := nI 1) (by decide) ?_
    refine mw_iretI i_143_12 (x := nI 1) rt_143 ?_
    rw [Fz11_1 h] at q
    exact q K I R FrKR_rfl FrO_rfl (CW_up hW) (fun h => absurd h (Nat.succ_ne_zero _))
  · skip
    refine aft_h (t := 13) (by decide +kernel) ?_
    refine mw_astoreO i_143_13 (ls' := [some (pR (some RING)), some (pI tw), some (pI w), some (pI sl), some (pR (some OUT)), some (pO)]) rfl (Nat.le_of_ble_eq_true rfl) ?_
    refine mw_const i_143_14 (v := nI 2) (by decide) ?_
    refine mw_iretI i_143_15 (x := nI 2) rt_143 ?_
    subst et ex
    rw [Fz11_2 ⟨⟨t, ht, rfl⟩, ⟨x, hx, rfl⟩⟩ h] at q
    exact q K I R FrKR_rfl FrO_rfl (CW_up hW) (fun h => absurd h (Nat.succ_ne_zero _))
  · skip
    refine aft_h (t := 16) (by decide +kernel) ?_
    refine mw_astoreO i_143_16 (ls' := [some (pR (some RING)), some (pI tw), some (pI w), some (pI sl), some (pR (some OUT)), some (pO)]) rfl (Nat.le_of_ble_eq_true rfl) ?_
    refine mw_const i_143_17 (v := nI 3) (by decide) ?_
    refine mw_iretI i_143_18 (x := nI 3) rt_143 ?_
    subst et ex
    rw [Fz11_3 ⟨⟨t, ht, rfl⟩, ⟨x, hx, rfl⟩⟩ h2 (by rw [tk_n (show x < 2147483648 by omega)]; exact h)] at q
    exact q K I R FrKR_rfl FrO_rfl (CW_up hW) (fun h => absurd h (Nat.succ_ne_zero _))
  · skip
    refine aft_v ?_
    refine mw_i2l i_143_7 ?_
    obtain ⟨I21, e21⟩ : ∃ I21, I21 = up2 I9 OUT 0 v9 := ⟨_, rfl⟩
    refine mw_last i_143_8 (jn := 0) (n := 1) (by omega) (by omega) (x := v9) hKO (I' := I21) e21.symm ?_
    refine mw_goto i_143_9 ?_
    refine mw_const i_143_19 (v := nI 0) (by decide) ?_
    refine mw_iretI i_143_20 (x := nI 0) rt_143 ?_
    subst et ex
    rw [Fz11_0 ⟨⟨t, ht, rfl⟩, ⟨x, hx, rfl⟩⟩ h2 (by rw [tk_n (show x < 2147483648 by omega)]; exact h3), tk_n (show t < 2147483648 by omega), tk_n (show x < 2147483648 by omega)] at q
    exact q K I21 R FrKR_rfl (e21.symm ▸ FrO_up (FrO_C hF9)) (by rw [e21]; exact ⟨hW.1, RC_O r9, IV_pr hV hx⟩) (fun _ => by rw [e21, up2_at, upd_at]; exact hv9)
set_option maxRecDepth 20000 in
set_option maxHeartbeats 400000 in
theorem kL12 {d b : Nat} {K : KM} {I : IM} {R : RM} {Q : QT} {n : Nat} {σ : ST} (hd : 14 ≤ d) (hW : CW n σ K I R) (hn : n < 512) (hKO : K OUT = some (13, 1))  (q : ∀ K' I' R', FrKR K K' R R' → FrO I I' → CW (n + 1) (Fz12 σ).2.2 K' I' R' → ((Fz12 σ).1 = 0 → I' OUT 0 = (Fz12 σ).2.1) → Q (.inl (some (pI (nI (Fz12 σ).1)))) K' I' R') : Mw d (b + 7) N_L_pass 0 [some (pR (some RING)), some (pR (some OUT)), none] [] K I R Q := by
  obtain ⟨d9, rfl⟩ : ∃ d9, d = d9 + 1 := ⟨d - 1, by omega⟩
  have hV := hW.2.2
  have hpp := hV.1.2
  have htt := hV.2.1.2
  have hdd := hV.2.2.1.2
  refine mw_aload i_144_0 (L := OUT) rfl ?_
  refine mw_const i_144_1 (v := nI 0) (by decide) ?_
  refine mw_aload i_144_2 (L := RING) rfl ?_
  refine mw_callV i_144_3 mf_45 (as := []) (rest := [pI (nI 0), pR (some OUT)]) (d' := d9) (b' := b) (ls0 := [some (pR (some RING)), none, none]) rfl rfl rfl (Nat.le_of_ble_eq_true rfl) hW.1.1.1.1 rfl (by omega) rfl ?_
  refine k_pass (by omega) hW (by omega) hn (fun h => ?_) (fun h1 I9 hF9 r9 v9 hv9 => ?_)
  · skip
    refine aft_h (t := 7) (by decide +kernel) ?_
    refine mw_astoreO i_144_7 (ls' := [some (pR (some RING)), some (pR (some OUT)), some (pO)]) rfl (Nat.le_of_ble_eq_true rfl) ?_
    refine mw_const i_144_8 (v := nI 1) (by decide) ?_
    refine mw_iretI i_144_9 (x := nI 1) rt_144 ?_
    rw [Fz12_1 h] at q
    exact q K I R FrKR_rfl FrO_rfl (CW_up hW) (fun h => absurd h (Nat.succ_ne_zero _))
  · skip
    refine aft_v ?_
    refine mw_i2l i_144_4 ?_
    obtain ⟨I21, e21⟩ : ∃ I21, I21 = up2 I9 OUT 0 v9 := ⟨_, rfl⟩
    refine mw_last i_144_5 (jn := 0) (n := 1) (by omega) (by omega) (x := v9) hKO (I' := I21) e21.symm ?_
    refine mw_goto i_144_6 ?_
    refine mw_const i_144_10 (v := nI 0) (by decide) ?_
    refine mw_iretI i_144_11 (x := nI 0) rt_144 ?_
    rw [Fz12_0 h1] at q
    exact q K I21 R FrKR_rfl (e21.symm ▸ FrO_up (FrO_C hF9)) (by rw [e21]; exact ⟨hW.1, RC_O r9, IV_ps hV hn h1⟩) (fun _ => by rw [e21, up2_at, upd_at]; exact hv9)
set_option maxRecDepth 20000 in
set_option maxHeartbeats 400000 in
theorem kL14 {d b : Nat} {K : KM} {I : IM} {R : RM} {Q : QT} {n : Nat} {σ : ST} {w : Int32} {what : Int32} (hd : 14 ≤ d) (hW : CW n σ K I R) (hn : n < 512) (hKO : K OUT = some (13, 1))  (q : ∀ K' I' R', FrKR K K' R R' → FrO I I' → CW (n + 1) (Fz14 σ w what).2.2 K' I' R' → ((Fz14 σ w what).1 = 0 → I' OUT 0 = (Fz14 σ w what).2.1) → Q (.inl (some (pI (nI (Fz14 σ w what).1)))) K' I' R') : Mw d (b + 7) N_L_ofWrestler 0 [some (pR (some RING)), some (pI w), some (pI what), some (pR (some OUT)), none] [] K I R Q := by
  obtain ⟨d9, rfl⟩ : ∃ d9, d = d9 + 1 := ⟨d - 1, by omega⟩
  have hV := hW.2.2
  have hpp := hV.1.2
  have htt := hV.2.1.2
  have hdd := hV.2.2.1.2
  refine mw_aload i_145_0 (L := OUT) rfl ?_
  refine mw_const i_145_1 (v := nI 0) (by decide) ?_
  refine mw_aload i_145_2 (L := RING) rfl ?_
  refine mw_iload i_145_3 (x := w) rfl ?_
  refine mw_iload i_145_4 (x := what) rfl ?_
  refine mw_callV i_145_5 mf_47 (as := [pI w, pI what]) (rest := [pI (nI 0), pR (some OUT)]) (d' := d9) (b' := b) (ls0 := [some (pR (some RING)), some (pI w), some (pI what), none]) rfl rfl rfl (Nat.le_of_ble_eq_true rfl) hW.1.1.1.1 rfl (by omega) rfl ?_
  refine k_ofW (by omega) hW (by omega) (by omega) (fun h => ?_) (fun h1 h => ?_) (fun x k hx hk ex ek v9 hv9 => ?_)
  · skip
    refine aft_h (t := 9) (by decide +kernel) ?_
    refine mw_astoreO i_145_9 (ls' := [some (pR (some RING)), some (pI w), some (pI what), some (pR (some OUT)), some (pO)]) rfl (Nat.le_of_ble_eq_true rfl) ?_
    refine mw_const i_145_10 (v := nI 1) (by decide) ?_
    refine mw_iretI i_145_11 (x := nI 1) rt_145 ?_
    rw [Fz14_1 h] at q
    exact q K I R FrKR_rfl FrO_rfl (CW_up hW) (fun h => absurd h (Nat.succ_ne_zero _))
  · skip
    refine aft_h (t := 12) (by decide +kernel) ?_
    refine mw_astoreO i_145_12 (ls' := [some (pR (some RING)), some (pI w), some (pI what), some (pR (some OUT)), some (pO)]) rfl (Nat.le_of_ble_eq_true rfl) ?_
    refine mw_const i_145_13 (v := nI 2) (by decide) ?_
    refine mw_iretI i_145_14 (x := nI 2) rt_145 ?_
    rw [Fz14_2 h1 h] at q
    exact q K I R FrKR_rfl FrO_rfl (CW_up hW) (fun h => absurd h (Nat.succ_ne_zero _))
  · skip
    refine aft_v ?_
    refine mw_i2l i_145_6 ?_
    obtain ⟨I21, e21⟩ : ∃ I21, I21 = up2 I OUT 0 v9 := ⟨_, rfl⟩
    refine mw_last i_145_7 (jn := 0) (n := 1) (by omega) (by omega) (x := v9) hKO (I' := I21) e21.symm ?_
    refine mw_goto i_145_8 ?_
    refine mw_const i_145_15 (v := nI 0) (by decide) ?_
    refine mw_iretI i_145_16 (x := nI 0) rt_145 ?_
    subst ex ek
    rw [Fz14_0 ⟨x, hx, rfl⟩ ⟨k, hk, rfl⟩, tk_n (show x < 2147483648 by omega), tk_n (show k < 2147483648 by omega)] at q
    exact q K I21 R FrKR_rfl (e21.symm ▸ FrO_up FrO_rfl) (by rw [e21]; exact CW_O (CW_up hW)) (fun _ => by rw [e21, up2_at, upd_at]; exact hv9)
set_option maxRecDepth 20000 in
set_option maxHeartbeats 400000 in
theorem kL15 {d b : Nat} {K : KM} {I : IM} {R : RM} {Q : QT} {n : Nat} {σ : ST} {tw : Int32} {w : Int32} (hd : 14 ≤ d) (hW : CW n σ K I R) (hn : n < 512) (hKO : K OUT = some (13, 1))  (q : ∀ K' I' R', FrKR K K' R R' → FrO I I' → CW (n + 1) (Fz15 σ tw w).2.2 K' I' R' → ((Fz15 σ tw w).1 = 0 → I' OUT 0 = (Fz15 σ tw w).2.1) → Q (.inl (some (pI (nI (Fz15 σ tw w).1)))) K' I' R') : Mw d (b + 7) N_L_love 0 [some (pR (some RING)), some (pI tw), some (pI w), some (pR (some OUT)), none] [] K I R Q := by
  obtain ⟨d9, rfl⟩ : ∃ d9, d = d9 + 1 := ⟨d - 1, by omega⟩
  have hV := hW.2.2
  have hpp := hV.1.2
  have htt := hV.2.1.2
  have hdd := hV.2.2.1.2
  refine mw_aload i_146_0 (L := OUT) rfl ?_
  refine mw_const i_146_1 (v := nI 0) (by decide) ?_
  refine mw_aload i_146_2 (L := RING) rfl ?_
  refine mw_iload i_146_3 (x := tw) rfl ?_
  refine mw_iload i_146_4 (x := w) rfl ?_
  refine mw_callV i_146_5 mf_48 (as := [pI tw, pI w]) (rest := [pI (nI 0), pR (some OUT)]) (d' := d9) (b' := b) (ls0 := [some (pR (some RING)), some (pI tw), some (pI w)]) rfl rfl rfl (Nat.le_of_ble_eq_true rfl) hW.1.1.1.1 rfl (by omega) rfl ?_
  refine k_love (by omega) hW (by omega) (by omega) (fun h => ?_) (fun t x ht hx et ex => ?_)
  · skip
    refine aft_h (t := 9) (by decide +kernel) ?_
    refine mw_astoreO i_146_9 (ls' := [some (pR (some RING)), some (pI tw), some (pI w), some (pR (some OUT)), some (pO)]) rfl (Nat.le_of_ble_eq_true rfl) ?_
    refine mw_const i_146_10 (v := nI 1) (by decide) ?_
    refine mw_iretI i_146_11 (x := nI 1) rt_146 ?_
    rw [Fz15_1 h] at q
    exact q K I R FrKR_rfl FrO_rfl (CW_up hW) (fun h => absurd h (Nat.succ_ne_zero _))
  · skip
    refine aft_v ?_
    refine mw_i2l i_146_6 ?_
    obtain ⟨I21, e21⟩ : ∃ I21, I21 = up2 I OUT 0 (σ 4 (10 * t + x)) := ⟨_, rfl⟩
    refine mw_last i_146_7 (jn := 0) (n := 1) (by omega) (by omega) (x := σ 4 (10 * t + x)) hKO (I' := I21) e21.symm ?_
    refine mw_goto i_146_8 ?_
    refine mw_const i_146_12 (v := nI 0) (by decide) ?_
    refine mw_iretI i_146_13 (x := nI 0) rt_146 ?_
    subst et ex
    rw [Fz15_0 ⟨⟨t, ht, rfl⟩, ⟨x, hx, rfl⟩⟩, tk_n (show t < 2147483648 by omega), tk_n (show x < 2147483648 by omega)] at q
    exact q K I21 R FrKR_rfl (e21.symm ▸ FrO_up FrO_rfl) (by rw [e21]; exact CW_O (CW_up hW)) (fun _ => by rw [e21, up2_at, upd_at])
set_option maxRecDepth 20000 in
set_option maxHeartbeats 400000 in
theorem kL16 {d b : Nat} {K : KM} {I : IM} {R : RM} {Q : QT} {n : Nat} {σ : ST} {tw : Int32} {w : Int32} (hd : 14 ≤ d) (hW : CW n σ K I R) (hn : n < 512) (hKO : K OUT = some (13, 1))  (q : ∀ K' I' R', FrKR K K' R R' → FrO I I' → CW (n + 1) (Fz16 σ tw w).2.2 K' I' R' → ((Fz16 σ tw w).1 = 0 → I' OUT 0 = (Fz16 σ tw w).2.1) → Q (.inl (some (pI (nI (Fz16 σ tw w).1)))) K' I' R') : Mw d (b + 7) N_L_worth 0 [some (pR (some RING)), some (pI tw), some (pI w), some (pR (some OUT)), none] [] K I R Q := by
  obtain ⟨d9, rfl⟩ : ∃ d9, d = d9 + 1 := ⟨d - 1, by omega⟩
  have hV := hW.2.2
  have hpp := hV.1.2
  have htt := hV.2.1.2
  have hdd := hV.2.2.1.2
  refine mw_aload i_147_0 (L := OUT) rfl ?_
  refine mw_const i_147_1 (v := nI 0) (by decide) ?_
  refine mw_aload i_147_2 (L := RING) rfl ?_
  refine mw_iload i_147_3 (x := tw) rfl ?_
  refine mw_iload i_147_4 (x := w) rfl ?_
  refine mw_callV i_147_5 mf_49 (as := [pI tw, pI w]) (rest := [pI (nI 0), pR (some OUT)]) (d' := d9) (b' := b) (ls0 := [some (pR (some RING)), some (pI tw), some (pI w)]) rfl rfl rfl (Nat.le_of_ble_eq_true rfl) hW.1.1.1.1 rfl (by omega) rfl ?_
  refine k_worth (by omega) hW (by omega) (by omega) (fun h => ?_) (fun t x ht hx et ex => ?_)
  · skip
    refine aft_h (t := 9) (by decide +kernel) ?_
    refine mw_astoreO i_147_9 (ls' := [some (pR (some RING)), some (pI tw), some (pI w), some (pR (some OUT)), some (pO)]) rfl (Nat.le_of_ble_eq_true rfl) ?_
    refine mw_const i_147_10 (v := nI 1) (by decide) ?_
    refine mw_iretI i_147_11 (x := nI 1) rt_147 ?_
    rw [Fz16_1 h] at q
    exact q K I R FrKR_rfl FrO_rfl (CW_up hW) (fun h => absurd h (Nat.succ_ne_zero _))
  · skip
    refine aft_v ?_
    refine mw_i2l i_147_6 ?_
    obtain ⟨I21, e21⟩ : ∃ I21, I21 = up2 I OUT 0 (wrt σ t x) := ⟨_, rfl⟩
    refine mw_last i_147_7 (jn := 0) (n := 1) (by omega) (by omega) (x := wrt σ t x) hKO (I' := I21) e21.symm ?_
    refine mw_goto i_147_8 ?_
    refine mw_const i_147_12 (v := nI 0) (by decide) ?_
    refine mw_iretI i_147_13 (x := nI 0) rt_147 ?_
    subst et ex
    rw [Fz16_0 ⟨⟨t, ht, rfl⟩, ⟨x, hx, rfl⟩⟩, tk_n (show t < 2147483648 by omega), tk_n (show x < 2147483648 by omega)] at q
    exact q K I21 R FrKR_rfl (e21.symm ▸ FrO_up FrO_rfl) (by rw [e21]; exact CW_O (CW_up hW)) (fun _ => by rw [e21, up2_at, upd_at])
set_option maxRecDepth 20000 in
set_option maxHeartbeats 400000 in
theorem kL17 {d b : Nat} {K : KM} {I : IM} {R : RM} {Q : QT} {n : Nat} {σ : ST} {its : Int32} {what : Int32} (hd : 14 ≤ d) (hW : CW n σ K I R) (hn : n < 512) (hKO : K OUT = some (13, 1))  (q : ∀ K' I' R', FrKR K K' R R' → FrO I I' → CW (n + 1) (Fz17 σ its what).2.2 K' I' R' → ((Fz17 σ its what).1 = 0 → I' OUT 0 = (Fz17 σ its what).2.1) → Q (.inl (some (pI (nI (Fz17 σ its what).1)))) K' I' R') : Mw d (b + 7) N_L_ofCard 0 [some (pR (some RING)), some (pI its), some (pI what), some (pR (some OUT)), none] [] K I R Q := by
  obtain ⟨d9, rfl⟩ : ∃ d9, d = d9 + 1 := ⟨d - 1, by omega⟩
  have hV := hW.2.2
  have hpp := hV.1.2
  have htt := hV.2.1.2
  have hdd := hV.2.2.1.2
  refine mw_aload i_148_0 (L := OUT) rfl ?_
  refine mw_const i_148_1 (v := nI 0) (by decide) ?_
  refine mw_aload i_148_2 (L := RING) rfl ?_
  refine mw_iload i_148_3 (x := its) rfl ?_
  refine mw_iload i_148_4 (x := what) rfl ?_
  refine mw_callV i_148_5 mf_50 (as := [pI its, pI what]) (rest := [pI (nI 0), pR (some OUT)]) (d' := d9) (b' := b) (ls0 := [some (pR (some RING)), some (pI its), some (pI what), none]) rfl rfl rfl (Nat.le_of_ble_eq_true rfl) hW.1.1.1.1 rfl (by omega) rfl ?_
  refine k_ofC (by omega) hW (by omega) (by omega) (fun h => ?_) (fun x k hx hk ex ek v9 hv9 => ?_)
  · skip
    refine aft_h (t := 9) (by decide +kernel) ?_
    refine mw_astoreO i_148_9 (ls' := [some (pR (some RING)), some (pI its), some (pI what), some (pR (some OUT)), some (pO)]) rfl (Nat.le_of_ble_eq_true rfl) ?_
    refine mw_const i_148_10 (v := nI 1) (by decide) ?_
    refine mw_iretI i_148_11 (x := nI 1) rt_148 ?_
    rw [Fz17_1 h] at q
    exact q K I R FrKR_rfl FrO_rfl (CW_up hW) (fun h => absurd h (Nat.succ_ne_zero _))
  · skip
    refine aft_v ?_
    refine mw_i2l i_148_6 ?_
    obtain ⟨I21, e21⟩ : ∃ I21, I21 = up2 I OUT 0 v9 := ⟨_, rfl⟩
    refine mw_last i_148_7 (jn := 0) (n := 1) (by omega) (by omega) (x := v9) hKO (I' := I21) e21.symm ?_
    refine mw_goto i_148_8 ?_
    refine mw_const i_148_12 (v := nI 0) (by decide) ?_
    refine mw_iretI i_148_13 (x := nI 0) rt_148 ?_
    subst ex ek
    rw [Fz17_0 ⟨⟨x, hx, rfl⟩, ⟨k, hk, rfl⟩⟩, tk_n (show x < 2147483648 by omega), tk_n (show k < 2147483648 by omega)] at q
    exact q K I21 R FrKR_rfl (e21.symm ▸ FrO_up FrO_rfl) (by rw [e21]; exact CW_O (CW_up hW)) (fun _ => by rw [e21, up2_at, upd_at]; exact hv9)
set_option maxRecDepth 20000 in
set_option maxHeartbeats 400000 in
theorem kL18_o {d b : Nat} {K : KM} {I : IM} {R : RM} {Q : QT} {n : Nat} {σ : ST} {day : Int32} {ma : Int32} {what : Int32} (hd : 14 ≤ d) (hW : CW n σ K I R) (hn : n < 512) (hKO : K OUT = some (13, 1)) (hx : ¬ isN day 1000) (q : ∀ K' I' R', FrKR K K' R R' → FrO I I' → CW (n + 1) (Fz18 σ day ma what).2.2 K' I' R' → ((Fz18 σ day ma what).1 = 0 → I' OUT 0 = (Fz18 σ day ma what).2.1) → Q (.inl (some (pI (nI (Fz18 σ day ma what).1)))) K' I' R') : Mw d (b + 7) N_L_ofMatch 0 [some (pR (some RING)), some (pI day), some (pI ma), some (pI what), some (pR (some OUT)), none] [] K I R Q := by
  obtain ⟨d9, rfl⟩ : ∃ d9, d = d9 + 1 := ⟨d - 1, by omega⟩
  have hV := hW.2.2
  have hpp := hV.1.2
  have htt := hV.2.1.2
  have hdd := hV.2.2.1.2
  refine mw_aload i_149_0 (L := OUT) rfl ?_
  refine mw_const i_149_1 (v := nI 0) (by decide) ?_
  refine mw_aload i_149_2 (L := RING) rfl ?_
  refine mw_iload i_149_3 (x := day) rfl ?_
  refine mw_iload i_149_4 (x := ma) rfl ?_
  refine mw_iload i_149_5 (x := what) rfl ?_
  refine mw_callV i_149_6 mf_51 (as := [pI day, pI ma, pI what]) (rest := [pI (nI 0), pR (some OUT)]) (d' := d9) (b' := b) (ls0 := [some (pR (some RING)), some (pI day), some (pI ma), some (pI what), none, none]) rfl rfl rfl (Nat.le_of_ble_eq_true rfl) hW.1.1.1.1 rfl (by omega) rfl ?_
  refine k_ofM_o (by omega) hW (by omega) (by omega) hx ?_
  refine aft_h (t := 10) (by decide +kernel) ?_
  refine mw_astoreO i_149_10 (ls' := [some (pR (some RING)), some (pI day), some (pI ma), some (pI what), some (pR (some OUT)), some (pO)]) rfl (Nat.le_of_ble_eq_true rfl) ?_
  refine mw_const i_149_11 (v := nI 1) (by decide) ?_
  refine mw_iretI i_149_12 (x := nI 1) rt_149 ?_
  rw [Fz18_1 (fun h => hx h.1)] at q
  exact q K I R FrKR_rfl FrO_rfl (CW_up hW) (fun h => absurd h (Nat.succ_ne_zero _))
set_option maxRecDepth 20000 in
set_option maxHeartbeats 400000 in
theorem kL18_i {d b : Nat} {K : KM} {I : IM} {R : RM} {Q : QT} {n : Nat} {σ : ST} {x : Nat} {ma what : Int32} (hd : 14 ≤ d) (hW : CW n σ K I R) (hn : n < 512) (hKO : K OUT = some (13, 1)) (hx : x < 1000) (q : ∀ K' I' R', FrKR K K' R R' → FrO I I' → CW (n + 1) (Fz18 σ (nI x) ma what).2.2 K' I' R' → ((Fz18 σ (nI x) ma what).1 = 0 → I' OUT 0 = (Fz18 σ (nI x) ma what).2.1) → Q (.inl (some (pI (nI (Fz18 σ (nI x) ma what).1)))) K' I' R') : Mw d (b + 7) N_L_ofMatch 0 [some (pR (some RING)), some (pI (nI x)), some (pI ma), some (pI what), some (pR (some OUT)), none] [] K I R Q := by
  obtain ⟨d9, rfl⟩ : ∃ d9, d = d9 + 1 := ⟨d - 1, by omega⟩
  have hV := hW.2.2
  have hpp := hV.1.2
  have htt := hV.2.1.2
  have hdd := hV.2.2.1.2
  have etx := tk_n (n := x) (by omega)
  have h6 := (hV.2.2.2.2.2.1 x hx).2.1
  refine mw_aload i_149_0 (L := OUT) rfl ?_
  refine mw_const i_149_1 (v := nI 0) (by decide) ?_
  refine mw_aload i_149_2 (L := RING) rfl ?_
  refine mw_iload i_149_3 (x := nI x) rfl ?_
  refine mw_iload i_149_4 (x := ma) rfl ?_
  refine mw_iload i_149_5 (x := what) rfl ?_
  refine mw_callV i_149_6 mf_51 (as := [pI (nI x), pI ma, pI what]) (rest := [pI (nI 0), pR (some OUT)]) (d' := d9) (b' := b) (ls0 := [some (pR (some RING)), some (pI (nI x)), some (pI ma), some (pI what), none, none]) rfl rfl rfl (Nat.le_of_ble_eq_true rfl) hW.1.1.1.1 rfl (by omega) rfl ?_
  refine k_ofM_i (by omega) hW (by omega) (by omega) hx (fun h => ?_) (fun m hm9 em h => ?_) (fun m k hm9 hk em ek v9 hv9 => ?_)
  · skip
    refine aft_h (t := 10) (by decide +kernel) ?_
    refine mw_astoreO i_149_10 (ls' := [some (pR (some RING)), some (pI (nI x)), some (pI ma), some (pI what), some (pR (some OUT)), some (pO)]) rfl (Nat.le_of_ble_eq_true rfl) ?_
    refine mw_const i_149_11 (v := nI 1) (by decide) ?_
    refine mw_iretI i_149_12 (x := nI 1) rt_149 ?_
    rw [Fz18_1 (fun h9 => h (by rw [etx] at h9; exact h9.2))] at q
    exact q K I R FrKR_rfl FrO_rfl (CW_up hW) (fun h => absurd h (Nat.succ_ne_zero _))
  · skip
    refine aft_h (t := 13) (by decide +kernel) ?_
    refine mw_astoreO i_149_13 (ls' := [some (pR (some RING)), some (pI (nI x)), some (pI ma), some (pI what), some (pR (some OUT)), some (pO)]) rfl (Nat.le_of_ble_eq_true rfl) ?_
    refine mw_const i_149_14 (v := nI 2) (by decide) ?_
    refine mw_iretI i_149_15 (x := nI 2) rt_149 ?_
    subst em
    rw [Fz18_2 ⟨⟨x, hx, rfl⟩, by rw [etx]; exact ⟨m, hm9, rfl⟩⟩ h] at q
    exact q K I R FrKR_rfl FrO_rfl (CW_up hW) (fun h => absurd h (Nat.succ_ne_zero _))
  · skip
    refine aft_v ?_
    refine mw_i2l i_149_7 ?_
    obtain ⟨I21, e21⟩ : ∃ I21, I21 = up2 I OUT 0 v9 := ⟨_, rfl⟩
    refine mw_last i_149_8 (jn := 0) (n := 1) (by omega) (by omega) (x := v9) hKO (I' := I21) e21.symm ?_
    refine mw_goto i_149_9 ?_
    refine mw_const i_149_16 (v := nI 0) (by decide) ?_
    refine mw_iretI i_149_17 (x := nI 0) rt_149 ?_
    subst em ek
    rw [Fz18_0 ⟨⟨x, hx, rfl⟩, by rw [etx]; exact ⟨m, hm9, rfl⟩⟩ ⟨k, hk, rfl⟩, etx, tk_n (show m < 2147483648 by omega), tk_n (show k < 2147483648 by omega)] at q
    exact q K I21 R FrKR_rfl (e21.symm ▸ FrO_up FrO_rfl) (by rw [e21]; exact CW_O (CW_up hW)) (fun _ => by rw [e21, up2_at, upd_at]; exact hv9)
set_option maxRecDepth 20000 in
set_option maxHeartbeats 400000 in
theorem kL19 {d b : Nat} {K : KM} {I : IM} {R : RM} {Q : QT} {n : Nat} {σ : ST} {t : Int32} {at_ : Int32} {pd : Prop} (hd : 14 ≤ d) (hW : CW n σ K I R) (hn : n < 512) (hKO : K OUT = some (13, 1))  (q : ∀ K' I' R', FrKR K K' R R' → FrO I I' → CW (n + 1) (Fz19 σ t at_ pd).2.2 K' I' R' → ((Fz19 σ t at_ pd).1 = 0 → I' OUT 0 = (Fz19 σ t at_ pd).2.1) → Q (.inl (some (pI (nI (Fz19 σ t at_ pd).1)))) K' I' R') : Mw d (b + 7) N_L_lineage 0 [some (pR (some RING)), some (pI t), some (pI at_), some (pI (bI pd)), some (pR (some OUT)), none] [] K I R Q := by
  obtain ⟨d9, rfl⟩ : ∃ d9, d = d9 + 1 := ⟨d - 1, by omega⟩
  have hV := hW.2.2
  have hpp := hV.1.2
  have htt := hV.2.1.2
  have hdd := hV.2.2.1.2
  refine mw_aload i_150_0 (L := OUT) rfl ?_
  refine mw_const i_150_1 (v := nI 0) (by decide) ?_
  refine mw_aload i_150_2 (L := RING) rfl ?_
  refine mw_iload i_150_3 (x := t) rfl ?_
  refine mw_iload i_150_4 (x := at_) rfl ?_
  refine mw_iload i_150_5 (x := bI pd) rfl ?_
  refine mw_callV i_150_6 mf_52 (as := [pI t, pI at_, pI (bI pd)]) (rest := [pI (nI 0), pR (some OUT)]) (d' := d9) (b' := b) (ls0 := [some (pR (some RING)), some (pI t), some (pI at_), some (pI (bI pd))]) rfl rfl rfl (Nat.le_of_ble_eq_true rfl) hW.1.1.1.1 rfl (by omega) rfl ?_
  refine k_lineage (by omega) hW (by omega) (by omega) (fun h => ?_) (fun x k hx hk ex ek v9 hv9 => ?_)
  · skip
    refine aft_h (t := 10) (by decide +kernel) ?_
    refine mw_astoreO i_150_10 (ls' := [some (pR (some RING)), some (pI t), some (pI at_), some (pI (bI pd)), some (pR (some OUT)), some (pO)]) rfl (Nat.le_of_ble_eq_true rfl) ?_
    refine mw_const i_150_11 (v := nI 1) (by decide) ?_
    refine mw_iretI i_150_12 (x := nI 1) rt_150 ?_
    rw [Fz19_1 (fun h9 => by obtain ⟨⟨x, hx, ex⟩, h8⟩ := h9; rw [ex, tk_n (show x < 2147483648 by omega)] at h8; exact h ⟨x, hx, ex, h8⟩)] at q
    exact q K I R FrKR_rfl FrO_rfl (CW_up hW) (fun h => absurd h (Nat.succ_ne_zero _))
  · skip
    refine aft_v ?_
    refine mw_i2l i_150_7 ?_
    obtain ⟨I21, e21⟩ : ∃ I21, I21 = up2 I OUT 0 v9 := ⟨_, rfl⟩
    refine mw_last i_150_8 (jn := 0) (n := 1) (by omega) (by omega) (x := v9) hKO (I' := I21) e21.symm ?_
    refine mw_goto i_150_9 ?_
    refine mw_const i_150_13 (v := nI 0) (by decide) ?_
    refine mw_iretI i_150_14 (x := nI 0) rt_150 ?_
    subst ex ek
    have hl9 := (hV.2.2.2.2.1 x (by omega)).2
    rw [Fz19_0 ⟨⟨x, hx, rfl⟩, by rw [tk_n (show x < 2147483648 by omega)]; exact ⟨k, hk, rfl⟩⟩, tk_n (show x < 2147483648 by omega), tk_n (show k < 2147483648 by omega)] at q
    exact q K I21 R FrKR_rfl (e21.symm ▸ FrO_up FrO_rfl) (by rw [e21]; exact CW_O (CW_up hW)) (fun _ => by rw [e21, up2_at, upd_at]; exact hv9)
set_option maxRecDepth 20000 in
set_option maxHeartbeats 400000 in
theorem kL20 {d b : Nat} {K : KM} {I : IM} {R : RM} {Q : QT} {n : Nat} {σ : ST} {t : Int32} (hd : 14 ≤ d) (hW : CW n σ K I R) (hn : n < 512) (hKO : K OUT = some (13, 1))  (q : ∀ K' I' R', FrKR K K' R R' → FrO I I' → CW (n + 1) (Fz20 σ t).2.2 K' I' R' → ((Fz20 σ t).1 = 0 → I' OUT 0 = (Fz20 σ t).2.1) → Q (.inl (some (pI (nI (Fz20 σ t).1)))) K' I' R') : Mw d (b + 7) N_L_champion 0 [some (pR (some RING)), some (pI t), some (pR (some OUT)), none] [] K I R Q := by
  obtain ⟨d9, rfl⟩ : ∃ d9, d = d9 + 1 := ⟨d - 1, by omega⟩
  have hV := hW.2.2
  have hpp := hV.1.2
  have htt := hV.2.1.2
  have hdd := hV.2.2.1.2
  refine mw_aload i_151_0 (L := OUT) rfl ?_
  refine mw_const i_151_1 (v := nI 0) (by decide) ?_
  refine mw_aload i_151_2 (L := RING) rfl ?_
  refine mw_iload i_151_3 (x := t) rfl ?_
  refine mw_callV i_151_4 mf_53 (as := [pI t]) (rest := [pI (nI 0), pR (some OUT)]) (d' := d9) (b' := b) (ls0 := [some (pR (some RING)), some (pI t)]) rfl rfl rfl (Nat.le_of_ble_eq_true rfl) hW.1.1.1.1 rfl (by omega) rfl ?_
  refine k_champion (by omega) hW (by omega) (by omega) (fun h => ?_) (fun x hx ex => ?_)
  · skip
    refine aft_h (t := 8) (by decide +kernel) ?_
    refine mw_astoreO i_151_8 (ls' := [some (pR (some RING)), some (pI t), some (pR (some OUT)), some (pO)]) rfl (Nat.le_of_ble_eq_true rfl) ?_
    refine mw_const i_151_9 (v := nI 1) (by decide) ?_
    refine mw_iretI i_151_10 (x := nI 1) rt_151 ?_
    rw [Fz20_1 h] at q
    exact q K I R FrKR_rfl FrO_rfl (CW_up hW) (fun h => absurd h (Nat.succ_ne_zero _))
  · skip
    refine aft_v ?_
    refine mw_i2l i_151_5 ?_
    obtain ⟨I21, e21⟩ : ∃ I21, I21 = up2 I OUT 0 (chO σ x) := ⟨_, rfl⟩
    refine mw_last i_151_6 (jn := 0) (n := 1) (by omega) (by omega) (x := chO σ x) hKO (I' := I21) e21.symm ?_
    refine mw_goto i_151_7 ?_
    refine mw_const i_151_11 (v := nI 0) (by decide) ?_
    refine mw_iretI i_151_12 (x := nI 0) rt_151 ?_
    subst ex
    rw [Fz20_0 ⟨x, hx, rfl⟩, tk_n (show x < 2147483648 by omega)] at q
    exact q K I21 R FrKR_rfl (e21.symm ▸ FrO_up FrO_rfl) (by rw [e21]; exact CW_O (CW_up hW)) (fun _ => by rw [e21, up2_at, upd_at])
set_option maxRecDepth 20000 in
set_option maxHeartbeats 400000 in
theorem kL21 {d b : Nat} {K : KM} {I : IM} {R : RM} {Q : QT} {n : Nat} {σ : ST} {w : Int32} {o : Int32} (hd : 14 ≤ d) (hW : CW n σ K I R) (hn : n < 512) (hKO : K OUT = some (13, 1))  (q : ∀ K' I' R', FrKR K K' R R' → FrO I I' → CW (n + 1) (Fz21 σ w o).2.2 K' I' R' → ((Fz21 σ w o).1 = 0 → I' OUT 0 = (Fz21 σ w o).2.1) → Q (.inl (some (pI (nI (Fz21 σ w o).1)))) K' I' R') : Mw d (b + 7) N_L_beat 0 [some (pR (some RING)), some (pI w), some (pI o), some (pR (some OUT)), none] [] K I R Q := by
  obtain ⟨d9, rfl⟩ : ∃ d9, d = d9 + 1 := ⟨d - 1, by omega⟩
  have hV := hW.2.2
  have hpp := hV.1.2
  have htt := hV.2.1.2
  have hdd := hV.2.2.1.2
  refine mw_aload i_152_0 (L := OUT) rfl ?_
  refine mw_const i_152_1 (v := nI 0) (by decide) ?_
  refine mw_aload i_152_2 (L := RING) rfl ?_
  refine mw_iload i_152_3 (x := w) rfl ?_
  refine mw_iload i_152_4 (x := o) rfl ?_
  refine mw_callV i_152_5 mf_54 (as := [pI w, pI o]) (rest := [pI (nI 0), pR (some OUT)]) (d' := d9) (b' := b) (ls0 := [some (pR (some RING)), some (pI w), some (pI o)]) rfl rfl rfl (Nat.le_of_ble_eq_true rfl) hW.1.1.1.1 rfl (by omega) rfl ?_
  refine k_beat (by omega) hW (by omega) (by omega) (fun h => ?_) (fun x y hx hy ex ey => ?_)
  · skip
    refine aft_h (t := 9) (by decide +kernel) ?_
    refine mw_astoreO i_152_9 (ls' := [some (pR (some RING)), some (pI w), some (pI o), some (pR (some OUT)), some (pO)]) rfl (Nat.le_of_ble_eq_true rfl) ?_
    refine mw_const i_152_10 (v := nI 1) (by decide) ?_
    refine mw_iretI i_152_11 (x := nI 1) rt_152 ?_
    rw [Fz21_1 h] at q
    exact q K I R FrKR_rfl FrO_rfl (CW_up hW) (fun h => absurd h (Nat.succ_ne_zero _))
  · skip
    refine aft_v ?_
    refine mw_i2l i_152_6 ?_
    obtain ⟨I21, e21⟩ : ∃ I21, I21 = up2 I OUT 0 (σ 13 (10 * x + y)) := ⟨_, rfl⟩
    refine mw_last i_152_7 (jn := 0) (n := 1) (by omega) (by omega) (x := σ 13 (10 * x + y)) hKO (I' := I21) e21.symm ?_
    refine mw_goto i_152_8 ?_
    refine mw_const i_152_12 (v := nI 0) (by decide) ?_
    refine mw_iretI i_152_13 (x := nI 0) rt_152 ?_
    subst ex ey
    rw [Fz21_0 ⟨⟨x, hx, rfl⟩, ⟨y, hy, rfl⟩⟩, tk_n (show x < 2147483648 by omega), tk_n (show y < 2147483648 by omega)] at q
    exact q K I21 R FrKR_rfl (e21.symm ▸ FrO_up FrO_rfl) (by rw [e21]; exact CW_O (CW_up hW)) (fun _ => by rw [e21, up2_at, upd_at])
set_option maxRecDepth 20000 in
set_option maxHeartbeats 400000 in
theorem kL22 {d b : Nat} {K : KM} {I : IM} {R : RM} {Q : QT} {n : Nat} {σ : ST} {w : Int32} {o : Int32} (hd : 14 ≤ d) (hW : CW n σ K I R) (hn : n < 512) (hKO : K OUT = some (13, 1))  (q : ∀ K' I' R', FrKR K K' R R' → FrO I I' → CW (n + 1) (Fz22 σ w o).2.2 K' I' R' → ((Fz22 σ w o).1 = 0 → I' OUT 0 = (Fz22 σ w o).2.1) → Q (.inl (some (pI (nI (Fz22 σ w o).1)))) K' I' R') : Mw d (b + 7) N_L_beatAnew 0 [some (pR (some RING)), some (pI w), some (pI o), some (pR (some OUT)), none] [] K I R Q := by
  obtain ⟨d9, rfl⟩ : ∃ d9, d = d9 + 1 := ⟨d - 1, by omega⟩
  have hV := hW.2.2
  have hpp := hV.1.2
  have htt := hV.2.1.2
  have hdd := hV.2.2.1.2
  refine mw_aload i_153_0 (L := OUT) rfl ?_
  refine mw_const i_153_1 (v := nI 0) (by decide) ?_
  refine mw_aload i_153_2 (L := RING) rfl ?_
  refine mw_iload i_153_3 (x := w) rfl ?_
  refine mw_iload i_153_4 (x := o) rfl ?_
  refine mw_callV i_153_5 mf_55 (as := [pI w, pI o]) (rest := [pI (nI 0), pR (some OUT)]) (d' := d9) (b' := b) (ls0 := [some (pR (some RING)), some (pI w), some (pI o), none, none, none]) rfl rfl rfl (Nat.le_of_ble_eq_true rfl) hW.1.1.1.1 rfl (by omega) rfl ?_
  refine k_beatAnew (by omega) hW (by omega) (by omega) (fun h => ?_) (fun x y hx hy ex ey => ?_)
  · skip
    refine aft_h (t := 9) (by decide +kernel) ?_
    refine mw_astoreO i_153_9 (ls' := [some (pR (some RING)), some (pI w), some (pI o), some (pR (some OUT)), some (pO)]) rfl (Nat.le_of_ble_eq_true rfl) ?_
    refine mw_const i_153_10 (v := nI 1) (by decide) ?_
    refine mw_iretI i_153_11 (x := nI 1) rt_153 ?_
    rw [Fz22_1 h] at q
    exact q K I R FrKR_rfl FrO_rfl (CW_up hW) (fun h => absurd h (Nat.succ_ne_zero _))
  · skip
    refine aft_v ?_
    refine mw_i2l i_153_6 ?_
    obtain ⟨I21, e21⟩ : ∃ I21, I21 = up2 I OUT 0 (σ 13 (10 * x + y)) := ⟨_, rfl⟩
    refine mw_last i_153_7 (jn := 0) (n := 1) (by omega) (by omega) (x := σ 13 (10 * x + y)) hKO (I' := I21) e21.symm ?_
    refine mw_goto i_153_8 ?_
    refine mw_const i_153_12 (v := nI 0) (by decide) ?_
    refine mw_iretI i_153_13 (x := nI 0) rt_153 ?_
    subst ex ey
    rw [Fz22_0 ⟨⟨x, hx, rfl⟩, ⟨y, hy, rfl⟩⟩, tk_n (show x < 2147483648 by omega), tk_n (show y < 2147483648 by omega)] at q
    exact q K I21 R FrKR_rfl (e21.symm ▸ FrO_up FrO_rfl) (by rw [e21]; exact CW_O (CW_up hW)) (fun _ => by rw [e21, up2_at, upd_at])
set_option maxRecDepth 20000 in
set_option maxHeartbeats 400000 in
theorem kL23 {d b : Nat} {K : KM} {I : IM} {R : RM} {Q : QT} {n : Nat} {σ : ST} {t : Int32} (hd : 14 ≤ d) (hW : CW n σ K I R) (hn : n < 512) (hKO : K OUT = some (13, 1))  (q : ∀ K' I' R', FrKR K K' R R' → FrO I I' → CW (n + 1) (Fz23 σ t).2.2 K' I' R' → ((Fz23 σ t).1 = 0 → I' OUT 0 = (Fz23 σ t).2.1) → Q (.inl (some (pI (nI (Fz23 σ t).1)))) K' I' R') : Mw d (b + 7) N_L_gate 0 [some (pR (some RING)), some (pI t), some (pR (some OUT)), none] [] K I R Q := by
  obtain ⟨d9, rfl⟩ : ∃ d9, d = d9 + 1 := ⟨d - 1, by omega⟩
  have hV := hW.2.2
  have hpp := hV.1.2
  have htt := hV.2.1.2
  have hdd := hV.2.2.1.2
  refine mw_aload i_154_0 (L := OUT) rfl ?_
  refine mw_const i_154_1 (v := nI 0) (by decide) ?_
  refine mw_aload i_154_2 (L := RING) rfl ?_
  refine mw_iload i_154_3 (x := t) rfl ?_
  refine mw_callV i_154_4 mf_56 (as := [pI t]) (rest := [pI (nI 0), pR (some OUT)]) (d' := d9) (b' := b) (ls0 := [some (pR (some RING)), some (pI t)]) rfl rfl rfl (Nat.le_of_ble_eq_true rfl) hW.1.1.1.1 rfl (by omega) rfl ?_
  refine k_gate (by omega) hW (by omega) (by omega) (fun h => ?_) (fun x hx ex => ?_)
  · skip
    refine aft_h (t := 8) (by decide +kernel) ?_
    refine mw_astoreO i_154_8 (ls' := [some (pR (some RING)), some (pI t), some (pR (some OUT)), some (pO)]) rfl (Nat.le_of_ble_eq_true rfl) ?_
    refine mw_const i_154_9 (v := nI 1) (by decide) ?_
    refine mw_iretI i_154_10 (x := nI 1) rt_154 ?_
    rw [Fz23_1 h] at q
    exact q K I R FrKR_rfl FrO_rfl (CW_up hW) (fun h => absurd h (Nat.succ_ne_zero _))
  · skip
    refine aft_v ?_
    refine mw_i2l i_154_5 ?_
    obtain ⟨I21, e21⟩ : ∃ I21, I21 = up2 I OUT 0 (σ 23 x) := ⟨_, rfl⟩
    refine mw_last i_154_6 (jn := 0) (n := 1) (by omega) (by omega) (x := σ 23 x) hKO (I' := I21) e21.symm ?_
    refine mw_goto i_154_7 ?_
    refine mw_const i_154_11 (v := nI 0) (by decide) ?_
    refine mw_iretI i_154_12 (x := nI 0) rt_154 ?_
    subst ex
    rw [Fz23_0 ⟨x, hx, rfl⟩, tk_n (show x < 2147483648 by omega)] at q
    exact q K I21 R FrKR_rfl (e21.symm ▸ FrO_up FrO_rfl) (by rw [e21]; exact CW_O (CW_up hW)) (fun _ => by rw [e21, up2_at, upd_at])
set_option maxRecDepth 20000 in
set_option maxHeartbeats 400000 in
theorem kL24 {d b : Nat} {K : KM} {I : IM} {R : RM} {Q : QT} {n : Nat} {σ : ST} (hd : 16 ≤ d) (hW : CW n σ K I R) (hn : n < 512) (hKO : K OUT = some (13, 1))  (q : ∀ K' I' R', FrKR K K' R R' → FrO I I' → CW (n + 1) (Fz24 σ).2.2 K' I' R' → ((Fz24 σ).1 = 0 → I' OUT 0 = (Fz24 σ).2.1) → Q (.inl (some (pI (nI (Fz24 σ).1)))) K' I' R') : Mw d (b + 7) N_L_mending 0 [some (pR (some RING)), some (pR (some OUT)), none] [] K I R Q := by
  obtain ⟨d9, rfl⟩ : ∃ d9, d = d9 + 1 := ⟨d - 1, by omega⟩
  have hV := hW.2.2
  have hpp := hV.1.2
  have htt := hV.2.1.2
  have hdd := hV.2.2.1.2
  refine mw_aload i_155_0 (L := OUT) rfl ?_
  refine mw_const i_155_1 (v := nI 0) (by decide) ?_
  refine mw_aload i_155_2 (L := RING) rfl ?_
  refine mw_callV i_155_3 mf_57 (as := []) (rest := [pI (nI 0), pR (some OUT)]) (d' := d9) (b' := b) (ls0 := [some (pR (some RING))]) rfl rfl rfl (Nat.le_of_ble_eq_true rfl) hW.1.1.1.1 rfl (by omega) rfl ?_
  refine k_mending (by omega) hW (fun h I9 R9 hF9 hR9 hW9 => ?_) (fun h I9 R9 hF9 hR9 hW9 => ?_)
  · skip
    refine aft_h (t := 7) (by decide +kernel) ?_
    refine mw_astoreO i_155_7 (ls' := [some (pR (some RING)), some (pR (some OUT)), some (pO)]) rfl (Nat.le_of_ble_eq_true rfl) ?_
    refine mw_const i_155_8 (v := nI 1) (by decide) ?_
    refine mw_iretI i_155_9 (x := nI 1) rt_155 ?_
    rw [Fz24_1 h] at q
    exact q K I9 R9 (FrKR_R hR9) (FrO_C (FrC_N hF9)) (CW_up hW9) (fun h => absurd h (Nat.succ_ne_zero _))
  · skip
    refine aft_v ?_
    refine mw_i2l i_155_4 ?_
    obtain ⟨I21, e21⟩ : ∃ I21, I21 = up2 I9 OUT 0 (bS σ (twn σ (dn σ))) := ⟨_, rfl⟩
    refine mw_last i_155_5 (jn := 0) (n := 1) (by omega) (by omega) (x := bS σ (twn σ (dn σ))) hKO (I' := I21) e21.symm ?_
    refine mw_goto i_155_6 ?_
    refine mw_const i_155_10 (v := nI 0) (by decide) ?_
    refine mw_iretI i_155_11 (x := nI 0) rt_155 ?_
    rw [Fz24_0 h] at q
    exact q K I21 R9 (FrKR_R hR9) (e21.symm ▸ FrO_up (FrO_C (FrC_N hF9))) (by rw [e21]; exact CW_O (CW_up hW9)) (fun _ => by rw [e21, up2_at, upd_at])
set_option maxRecDepth 20000 in
set_option maxHeartbeats 400000 in
theorem kL25 {d b : Nat} {K : KM} {I : IM} {R : RM} {Q : QT} {n : Nat} {σ : ST} (hd : 16 ≤ d) (hW : CW n σ K I R) (hn : n < 512) (hKO : K OUT = some (13, 1))  (q : ∀ K' I' R', FrKR K K' R R' → FrO I I' → CW (n + 1) (Fz25 σ).2.2 K' I' R' → ((Fz25 σ).1 = 0 → I' OUT 0 = (Fz25 σ).2.1) → Q (.inl (some (pI (nI (Fz25 σ).1)))) K' I' R') : Mw d (b + 7) N_L_mendingAnew 0 [some (pR (some RING)), some (pR (some OUT)), none] [] K I R Q := by
  obtain ⟨d9, rfl⟩ : ∃ d9, d = d9 + 1 := ⟨d - 1, by omega⟩
  have hV := hW.2.2
  have hpp := hV.1.2
  have htt := hV.2.1.2
  have hdd := hV.2.2.1.2
  refine mw_aload i_156_0 (L := OUT) rfl ?_
  refine mw_const i_156_1 (v := nI 0) (by decide) ?_
  refine mw_aload i_156_2 (L := RING) rfl ?_
  refine mw_callV i_156_3 mf_58 (as := []) (rest := [pI (nI 0), pR (some OUT)]) (d' := d9) (b' := b) (ls0 := [some (pR (some RING))]) rfl rfl rfl (Nat.le_of_ble_eq_true rfl) hW.1.1.1.1 rfl (by omega) rfl ?_
  refine k_mendingAnew (by omega) hW (fun h I9 R9 hF9 hR9 hW9 => ?_) (fun h I9 R9 hF9 hR9 hW9 => ?_)
  · skip
    refine aft_h (t := 7) (by decide +kernel) ?_
    refine mw_astoreO i_156_7 (ls' := [some (pR (some RING)), some (pR (some OUT)), some (pO)]) rfl (Nat.le_of_ble_eq_true rfl) ?_
    refine mw_const i_156_8 (v := nI 1) (by decide) ?_
    refine mw_iretI i_156_9 (x := nI 1) rt_156 ?_
    rw [Fz25_1 h] at q
    exact q K I9 R9 (FrKR_R hR9) (FrO_C (FrC_N hF9)) (CW_up hW9) (fun h => absurd h (Nat.succ_ne_zero _))
  · skip
    refine aft_v ?_
    refine mw_i2l i_156_4 ?_
    obtain ⟨I21, e21⟩ : ∃ I21, I21 = up2 I9 OUT 0 (bS σ (twn σ (dn σ))) := ⟨_, rfl⟩
    refine mw_last i_156_5 (jn := 0) (n := 1) (by omega) (by omega) (x := bS σ (twn σ (dn σ))) hKO (I' := I21) e21.symm ?_
    refine mw_goto i_156_6 ?_
    refine mw_const i_156_10 (v := nI 0) (by decide) ?_
    refine mw_iretI i_156_11 (x := nI 0) rt_156 ?_
    rw [Fz25_0 h] at q
    exact q K I21 R9 (FrKR_R hR9) (e21.symm ▸ FrO_up (FrO_C (FrC_N hF9))) (by rw [e21]; exact CW_O (CW_up hW9)) (fun _ => by rw [e21, up2_at, upd_at])
theorem kL5 {d b : Nat} {K : KM} {I : IM} {R : RM} {Q : QT} {n : Nat} {σ : ST} {day : Int32} {ma : Int32} (hd : 14 ≤ d) (hW : CW n σ K I R) (hn : n < 512) (hKO : K OUT = some (13, 1)) (q : ∀ K' I' R', FrKR K K' R R' → FrO I I' → CW (n + 1) (Fz5 σ day ma).2.2 K' I' R' → ((Fz5 σ day ma).1 = 0 → I' OUT 0 = (Fz5 σ day ma).2.1) → Q (.inl (some (pI (nI (Fz5 σ day ma).1)))) K' I' R') : Mw d (b + 7) N_L_strike 0 [some (pR (some RING)), some (pI day), some (pI ma), some (pR (some OUT)), none] [] K I R Q := by
  by_cases hx : isN day 1000
  · obtain ⟨x, hx9, ex⟩ := hx
    subst ex
    exact kL5_i hd hW hn hKO hx9 q
  · exact kL5_o hd hW hn hKO hx q
theorem kL18 {d b : Nat} {K : KM} {I : IM} {R : RM} {Q : QT} {n : Nat} {σ : ST} {day : Int32} {ma : Int32} {what : Int32} (hd : 14 ≤ d) (hW : CW n σ K I R) (hn : n < 512) (hKO : K OUT = some (13, 1)) (q : ∀ K' I' R', FrKR K K' R R' → FrO I I' → CW (n + 1) (Fz18 σ day ma what).2.2 K' I' R' → ((Fz18 σ day ma what).1 = 0 → I' OUT 0 = (Fz18 σ day ma what).2.1) → Q (.inl (some (pI (nI (Fz18 σ day ma what).1)))) K' I' R') : Mw d (b + 7) N_L_ofMatch 0 [some (pR (some RING)), some (pI day), some (pI ma), some (pI what), some (pR (some OUT)), none] [] K I R Q := by
  by_cases hx : isN day 1000
  · obtain ⟨x, hx9, ex⟩ := hx
    subst ex
    exact kL18_i hd hW hn hKO hx9 q
  · exact kL18_o hd hW hn hKO hx q
