/-! the class tells of cards and matches -/
theorem smI_0 {f : Nat → Int32} {n : Nat} (h : f n = nI 0) : smI f (n + 1) = smI f n := by
  show smI f n + f n = _
  rw [h]
  exact Int32.add_zero _
theorem smI_1 {f : Nat → Int32} {n : Nat} (h : f n = nI 1) : smI f (n + 1) = smI f n + Int32.ofInt (1) := by
  show smI f n + f n = _
  rw [h]
  rfl
theorem smI_tail {f : Nat → Int32} {m : Nat} : ∀ {k : Nat}, m ≤ k → (∀ j, m ≤ j → j < k → f j = nI 0) → smI f k = smI f m
  | 0, hm, _ => by rw [show m = 0 by omega]
  | k + 1, hm, h => by
    by_cases e : m = k + 1
    · rw [e]
    · rw [smI_0 (h k (by omega) (by omega))]
      exact smI_tail (by omega) (fun j a b => h j a (by omega))
theorem RCm_w {σ : ST} {I : IM} {d j : Nat} {L : Lb} (h : RCm σ I d j L) : (if I L 2 = nI 0 then I L 1 else I L 0) = wnr σ d j := by
  unfold wnr
  obtain ⟨h0, h1, h2, -⟩ := h
  rcases h2 with ⟨a, b⟩ | ⟨a, b⟩
  · rw [if_neg (by rw [a]; decide), if_pos b]; exact h0
  · rw [if_pos a, if_neg (by rw [b]; decide)]; exact h1
theorem RCm_l {σ : ST} {I : IM} {d j : Nat} {L : Lb} (h : RCm σ I d j L) : (if I L 2 = nI 0 then I L 0 else I L 1) = lsr σ d j := by
  unfold lsr
  obtain ⟨h0, h1, h2, -⟩ := h
  rcases h2 with ⟨a, b⟩ | ⟨a, b⟩
  · rw [if_neg (by rw [a]; decide), if_pos b]; exact h1
  · rw [if_pos a, if_neg (by rw [b]; decide)]; exact h0
theorem ctown {n : Nat} {σ : ST} {K : KM} {I : IM} {R : RM} (h : CW n σ K I R) {d : Nat} (hd : d < 1000) (h0 : ¬ nI (mn σ d) = nI 0) : I (CA (cix R d)) 1 = σ 21 d := by
  obtain ⟨-, -, -, -, h1, -⟩ := CW_c h hd
  have := h1 (fun e => h0 (by rw [e]))
  rw [this.1]
  exact this.2
/-- the wins that a card counts, by its labels -/
def wcl (I : IM) (c : Nat) (p : Nat → Nat) (x o : Int32) (k : Nat) : Int32 := if I (MT c (p k)) 5 = nI 0 ∧ (if I (MT c (p k)) 2 = nI 0 then I (MT c (p k)) 1 else I (MT c (p k)) 0) = x ∧ (if I (MT c (p k)) 2 = nI 0 then I (MT c (p k)) 0 else I (MT c (p k)) 1) = o then nI 1 else nI 0
set_option maxRecDepth 20000 in
theorem k_wins_lp {d b : Nat} {K : KM} {I : IM} {R : RM} {Q : QT} {c sz : Nat} {x o : Int32} {p : Nat → Nat} (hd : 1 ≤ d) (hC : COp K R c p) (hz : I (CA c) 2 = nI sz) (hsz : sz ≤ 6) (q : Q (.inl (some (pI (smI (wcl I c p x o) sz)))) K I R) : ∀ (n i : Nat) (u5 : Option PV), sz - i < n → i ≤ sz → Mw d b N_X0_winsOf 4 [some (pR (some (CA c))), some (pI x), some (pI o), some (pI (smI (wcl I c p x o) i)), some (pI (nI i)), u5] [] K I R Q := by
  obtain ⟨d9, rfl⟩ : ∃ d9, d = d9 + 1 := ⟨d - 1, by omega⟩
  intro n
  induction n with
  | zero => intro i u5 hn; exact absurd hn (Nat.not_lt_zero _)
  | succ n ih =>
    intro i u5 hn hi
    refine mw_iload i_6_4 (x := nI i) rfl ?_
    refine mw_aload i_6_5 (L := CA c) rfl ?_
    refine mw_get i_6_6 hC.1 (v := nI sz) hz ?_
    refine mw_ic i_6_7 (p := sz ≤ i) (nI_leI (by omega) (by omega)) (fun c1 => ?_) (fun c1 => ?_)
    · skip
      refine mw_iload i_6_27 (x := smI (wcl I c p x o) i) rfl ?_
      refine mw_iretI i_6_28 (x := smI (wcl I c p x o) i) rt_6 ?_
      obtain rfl : i = sz := by omega
      exact q
    · skip
      refine mw_aload i_6_8 (L := CA c) rfl ?_
      refine mw_getR i_6_9 hC.1 (q := some (MM c)) hC.2.1 ?_
      refine mw_iload i_6_10 (x := nI i) rfl ?_
      refine mw_aald i_6_11 (jn := i) (n := 6) (by omega) (by omega) hC.2.2.1 (by decide) (q := some (MT c (p i))) (hC.2.2.2.2.1 i (by omega)).2 ?_
      refine mw_astore i_6_12 (ls' := [some (pR (some (CA c))), some (pI x), some (pI o), some (pI (smI (wcl I c p x o) i)), some (pI (nI i)), some (pR (some (MT c (p i))))]) rfl (Nat.le_of_ble_eq_true rfl) ?_
      refine mw_aload i_6_13 (L := MT c (p i)) rfl ?_
      refine mw_get i_6_14 (hC.2.2.2.1 _ (hC.2.2.2.2.1 i (by omega)).1) (v := I (MT c (p i)) 5) rfl ?_
      refine mw_if i_6_15 (p := ¬ (I (MT c (p i)) 5) = nI 0) Iff.rfl (fun c2 => ?_) (fun c2 => ?_)
      · skip
        refine mw_iinc i_6_25 (x := nI i) (v := nI (i + 1)) (ls' := [some (pR (some (CA c))), some (pI x), some (pI o), some (pI (smI (wcl I c p x o) i)), some (pI (nI (i + 1))), some (pR (some (MT c (p i))))]) rfl (nI_add _ _) rfl ?_
        refine mw_goto i_6_26 ?_
        rw [← smI_0 (show wcl I c p x o i = nI 0 from if_neg (fun h => c2 h.1))]
        exact ih (i + 1) _ (by omega) (by omega)
      · skip
        refine mw_aload i_6_16 (L := MT c (p i)) rfl ?_
        refine mw_callV i_6_17 mf_10 (as := []) (rest := []) (d' := d9) (b' := b) (ls0 := [some (pR (some (MT c (p i))))]) rfl rfl rfl (Nat.le_of_ble_eq_true rfl) (hC.2.2.2.1 _ (hC.2.2.2.2.1 i (by omega)).1) rfl rfl rfl ?_
        refine k_winner (hC.2.2.2.1 _ (hC.2.2.2.2.1 i (by omega)).1) ?_
        refine aft_v ?_
        refine mw_iload i_6_18 (x := x) rfl ?_
        refine mw_ic i_6_19 (p := ¬ (if I (MT c (p i)) 2 = nI 0 then I (MT c (p i)) 1 else I (MT c (p i)) 0) = x) Iff.rfl (fun c3 => ?_) (fun c3 => ?_)
        · skip
          refine mw_iinc i_6_25 (x := nI i) (v := nI (i + 1)) (ls' := [some (pR (some (CA c))), some (pI x), some (pI o), some (pI (smI (wcl I c p x o) i)), some (pI (nI (i + 1))), some (pR (some (MT c (p i))))]) rfl (nI_add _ _) rfl ?_
          refine mw_goto i_6_26 ?_
          rw [← smI_0 (show wcl I c p x o i = nI 0 from if_neg (fun h => c3 h.2.1))]
          exact ih (i + 1) _ (by omega) (by omega)
        · skip
          refine mw_aload i_6_20 (L := MT c (p i)) rfl ?_
          refine mw_callV i_6_21 mf_11 (as := []) (rest := []) (d' := d9) (b' := b) (ls0 := [some (pR (some (MT c (p i))))]) rfl rfl rfl (Nat.le_of_ble_eq_true rfl) (hC.2.2.2.1 _ (hC.2.2.2.2.1 i (by omega)).1) rfl rfl rfl ?_
          refine k_loser (hC.2.2.2.1 _ (hC.2.2.2.2.1 i (by omega)).1) ?_
          refine aft_v ?_
          refine mw_iload i_6_22 (x := o) rfl ?_
          refine mw_ic i_6_23 (p := ¬ (if I (MT c (p i)) 2 = nI 0 then I (MT c (p i)) 0 else I (MT c (p i)) 1) = o) Iff.rfl (fun c4 => ?_) (fun c4 => ?_)
          · skip
            refine mw_iinc i_6_25 (x := nI i) (v := nI (i + 1)) (ls' := [some (pR (some (CA c))), some (pI x), some (pI o), some (pI (smI (wcl I c p x o) i)), some (pI (nI (i + 1))), some (pR (some (MT c (p i))))]) rfl (nI_add _ _) rfl ?_
            refine mw_goto i_6_26 ?_
            rw [← smI_0 (show wcl I c p x o i = nI 0 from if_neg (fun h => c4 h.2.2))]
            exact ih (i + 1) _ (by omega) (by omega)
          · skip
            refine mw_iinc i_6_24 (x := smI (wcl I c p x o) i) (v := smI (wcl I c p x o) i + Int32.ofInt (1)) (ls' := [some (pR (some (CA c))), some (pI x), some (pI o), some (pI (smI (wcl I c p x o) i + Int32.ofInt (1))), some (pI (nI i)), some (pR (some (MT c (p i))))]) rfl rfl rfl ?_
            refine mw_iinc i_6_25 (x := nI i) (v := nI (i + 1)) (ls' := [some (pR (some (CA c))), some (pI x), some (pI o), some (pI (smI (wcl I c p x o) i + Int32.ofInt (1))), some (pI (nI (i + 1))), some (pR (some (MT c (p i))))]) rfl (nI_add _ _) rfl ?_
            refine mw_goto i_6_26 ?_
            rw [← smI_1 (show wcl I c p x o i = nI 1 from if_pos ⟨by first | assumption | exact Classical.not_not.mp c2, Classical.not_not.mp c3, Classical.not_not.mp c4⟩)]
            exact ih (i + 1) _ (by omega) (by omega)
set_option maxRecDepth 20000 in
set_option maxHeartbeats 400000 in
theorem k_winsOf {d b : Nat} {K : KM} {I : IM} {R : RM} {Q : QT} {c sz : Nat} {x o : Int32} {p : Nat → Nat} (hd : 1 ≤ d) (hC : COp K R c p) (hz : I (CA c) 2 = nI sz) (hsz : sz ≤ 6) (q : Q (.inl (some (pI (smI (wcl I c p x o) sz)))) K I R) : Mw d b N_X0_winsOf 0 [some (pR (some (CA c))), some (pI x), some (pI o), none, none, none] [] K I R Q := by
  obtain ⟨d9, rfl⟩ : ∃ d9, d = d9 + 1 := ⟨d - 1, by omega⟩
  refine mw_const i_6_0 (v := nI 0) (by decide) ?_
  refine mw_istore i_6_1 (ls' := [some (pR (some (CA c))), some (pI x), some (pI o), some (pI (nI 0)), none, none]) rfl (Nat.le_of_ble_eq_true rfl) ?_
  refine mw_const i_6_2 (v := nI 0) (by decide) ?_
  refine mw_istore i_6_3 (ls' := [some (pR (some (CA c))), some (pI x), some (pI o), some (pI (nI 0)), some (pI (nI 0)), none]) rfl (Nat.le_of_ble_eq_true rfl) ?_
  exact k_wins_lp (by omega) hC hz hsz q (sz + 1) 0 none (by omega) (by omega)
/-- what is told of a card -/
noncomputable def ocv (σ : ST) (x k : Nat) : Int32 := match k with
  | 0 => if mn σ x = 0 then (-1) else σ 21 x
  | 1 => nI (mn σ x)
  | 2 => smI (fun j => σ 19 (36 * x + 6 * j + 3)) (mn σ x)
  | _ => σ 22 x
/-- what is told of a match -/
noncomputable def omv (σ : ST) (x j k : Nat) : Int32 := match k with
  | 0 => σ 19 (36 * x + 6 * j)
  | 1 => σ 19 (36 * x + 6 * j + 1)
  | 2 => if σ 22 x = nI 1 ∧ σ 19 (36 * x + 6 * j + 5) = nI 1 then (-1) else wnr σ x j
  | 3 => σ 19 (36 * x + 6 * j + 3)
  | 4 => σ 19 (36 * x + 6 * j + 4)
  | _ => σ 19 (36 * x + 6 * j + 5)
theorem n10 {x : Int32} (h : x = nI 1) (h0 : x = nI 0) : False := absurd (h.symm.trans h0) (by decide)
theorem v01 {x : Int32} (h : x = nI 0 ∨ x = nI 1) (h0 : ¬ x = nI 0) : nI 1 = x := by
  rcases h with h | h
  · exact absurd h h0
  · exact h.symm
set_option maxRecDepth 20000 in
set_option maxHeartbeats 400000 in
theorem k_ofC {d b : Nat} {K : KM} {I : IM} {R : RM} {Q : QT} {n : Nat} {σ : ST} {day : Int32} {what : Int32} (hd : 8 ≤ d) (hW : CW n σ K I R) (hb : 7 ≤ b) (hn : n ≤ 512)  (q1 : ¬ (isN day 1000 ∧ isN what 4) → Q (.inr 1) K I R) (q0 : ∀ x k, x < 1000 → k < 4 → day = nI x → what = nI k → ∀ v, v = ocv σ x k → Q (.inl (some (pI v))) K I R) : Mw d b N_X5_ofCard 0 [some (pR (some RING)), some (pI day), some (pI what), none] [] K I R Q := by
  obtain ⟨d9, rfl⟩ : ∃ d9, d = d9 + 1 := ⟨d - 1, by omega⟩
  have hS := hW.1.1
  have hR := hW.2.1
  have hV := hW.2.2
  have hpp := hW.2.2.1.2
  have htt := hW.2.2.2.1.2
  have hdd := hW.2.2.2.2.1.2
  refine mw_iload i_50_0 (x := day) rfl ?_
  refine mw_const i_50_1 (v := nI 0) (by decide) ?_
  refine mw_const i_50_2 (v := nI 999) (by decide) ?_
  refine mw_callS i_50_3 mf_59 (as := [pI day, pI (nI 0), pI (nI 999)]) (rest := []) (d' := d9) (b' := b) (ls0 := [some (pI day), some (pI (nI 0)), some (pI (nI 999))]) rfl rfl rfl (Nat.le_of_ble_eq_true rfl) rfl rfl rfl ?_
  refine k_within ?_
  rw [bI_congr (inr_isN (x := day) (n := 999) (by decide))]
  refine aft_v ?_
  refine mw_neB i_50_4 rfl (fun c1 => ?_) (fun c1 => ?_)
  · skip
    obtain ⟨j_day, h_day, rfl⟩ := c1
    have hpl : σ 22 j_day = nI 0 ∨ σ 22 j_day = nI 1 := (hV.2.2.2.2.2.1 j_day (by omega)).2.2.1.imp id (fun h => h.1)
    refine mw_aload i_50_10 (L := RING) rfl ?_
    refine mw_iload i_50_11 (x := nI j_day) rfl ?_
    obtain ⟨hC_j_day, hz_j_day, hz6_j_day, hp_j_day, ht0_j_day, hm_j_day⟩ := CW_c hW (d := j_day) (by omega)
    refine mw_callV i_50_12 mf_63 (as := [pI (nI j_day)]) (rest := []) (d' := d9) (b' := b) (ls0 := [some (pR (some RING)), some (pI (nI j_day))]) rfl rfl rfl (Nat.le_of_ble_eq_true rfl) hS.1.1 rfl rfl rfl ?_
    refine k_cardOf (by omega) hW.1 (by omega) ?_
    refine aft_v ?_
    refine mw_astore i_50_13 (ls' := [some (pR (some RING)), some (pI (nI j_day)), some (pI what), some (pR (some (CA (cix R j_day))))]) rfl (Nat.le_of_ble_eq_true rfl) ?_
    refine mw_iload i_50_14 (x := what) rfl ?_
    refine mw_sw_1 i_50_15 (fun c2 => ?_) (fun c3 => ?_) (fun c4 => ?_) (fun c5 => ?_) (fun c6 => ?_)
    · skip
      subst c2
      refine mw_aload i_50_16 (L := CA (cix R j_day)) rfl ?_
      refine mw_get i_50_17 hC_j_day.1 (v := nI (mn σ j_day)) hz_j_day ?_
      refine mw_if i_50_18 (p := ¬ (nI (mn σ j_day)) = nI 0) Iff.rfl (fun c7 => ?_) (fun c7 => ?_)
      · skip
        refine mw_aload i_50_21 (L := CA (cix R j_day)) rfl ?_
        refine mw_get i_50_22 hC_j_day.1 (v := σ 21 j_day) (ctown hW (by omega) (by first | assumption | (intro e; contradiction))) ?_
        refine mw_iretI i_50_23 (x := σ 21 j_day) rt_50 ?_
        exact q0 _ 0 (by assumption) (by decide) rfl rfl _ (by simp only [ocv]; first | rw [if_pos (nI_inj (Classical.not_not.mp (by assumption)) (by omega) (by omega))] | rw [if_neg (fun e => absurd (congrArg nI e) (by assumption))])
      · skip
        refine mw_const i_50_19 (v := (-1)) (by decide) ?_
        refine mw_goto i_50_20 ?_
        refine mw_iretI i_50_23 (x := (-1)) rt_50 ?_
        exact q0 _ 0 (by assumption) (by decide) rfl rfl _ (by simp only [ocv]; first | rw [if_pos (nI_inj (Classical.not_not.mp (by assumption)) (by omega) (by omega))] | rw [if_neg (fun e => absurd (congrArg nI e) (by assumption))])
    · skip
      subst c3
      refine mw_aload i_50_24 (L := CA (cix R j_day)) rfl ?_
      refine mw_get i_50_25 hC_j_day.1 (v := nI (mn σ j_day)) hz_j_day ?_
      refine mw_iretI i_50_26 (x := nI (mn σ j_day)) rt_50 ?_
      exact q0 _ 1 (by assumption) (by decide) rfl rfl _ rfl
    · skip
      subst c4
      refine mw_aload i_50_27 (L := CA (cix R j_day)) rfl ?_
      refine mw_callV i_50_28 mf_5 (as := []) (rest := []) (d' := d9) (b' := b) (ls0 := [some (pR (some (CA (cix R j_day)))), none, none]) rfl rfl rfl (Nat.le_of_ble_eq_true rfl) hC_j_day.1 rfl rfl rfl ?_
      refine k_allMin hC_j_day hz_j_day hz6_j_day ?_
      refine aft_v ?_
      refine mw_iretI i_50_29 (x := smI (fun k => I (MT (cix R j_day) (pm R (cix R j_day) k)) 3) (mn σ j_day)) rt_50 ?_
      exact q0 _ 2 (by assumption) (by decide) rfl rfl _ (smI_congr (fun k hk => (hm_j_day k hk).2.2.2.1))
    · skip
      subst c5
      refine mw_aload i_50_30 (L := CA (cix R j_day)) rfl ?_
      refine mw_get i_50_31 hC_j_day.1 (v := σ 22 j_day) hp_j_day ?_
      refine mw_if i_50_32 (p := (σ 22 j_day) = nI 0) Iff.rfl (fun c8 => ?_) (fun c8 => ?_)
      · skip
        refine mw_const i_50_35 (v := nI 0) (by decide) ?_
        refine mw_iretI i_50_36 (x := nI 0) rt_50 ?_
        exact q0 _ 3 (by assumption) (by decide) rfl rfl _ (by simp only [ocv]; first | exact Classical.not_not.mp (fun h => by simp_all) | exact (by assumption : σ 22 j_day = nI 0).symm | exact v01 hpl (by assumption))
      · skip
        refine mw_const i_50_33 (v := nI 1) (by decide) ?_
        refine mw_goto i_50_34 ?_
        refine mw_iretI i_50_36 (x := nI 1) rt_50 ?_
        exact q0 _ 3 (by assumption) (by decide) rfl rfl _ (by simp only [ocv]; first | exact Classical.not_not.mp (fun h => by simp_all) | exact (by assumption : σ 22 j_day = nI 0).symm | exact v01 hpl (by assumption))
    · skip
      refine mw_throw i_50_37 hx_50 (by omega) (by omega) ?_
      exact q1 (fun h => by obtain ⟨k, hk, e⟩ := h.2; exact c6 k hk e)
  · skip
    refine mw_throw i_50_5 hx_50 (by omega) (by omega) ?_
    exact q1 (fun h => c1 h.1)
theorem isN_0 {x : Int32} : ¬ isN x 0 := fun ⟨j, hj, _⟩ => absurd hj (Nat.not_lt_zero _)
set_option maxRecDepth 20000 in
set_option maxHeartbeats 400000 in
theorem k_ofM_o {d b : Nat} {K : KM} {I : IM} {R : RM} {Q : QT} {n : Nat} {σ : ST} {day : Int32} {match_ : Int32} {what : Int32} (hd : 8 ≤ d) (hW : CW n σ K I R) (hb : 7 ≤ b) (hn : n ≤ 512) (hx : ¬ isN day 1000) (q : Q (.inr 3) K I R) : Mw d b N_X5_ofMatch 0 [some (pR (some RING)), some (pI day), some (pI match_), some (pI what), none, none] [] K I R Q := by
  obtain ⟨d9, rfl⟩ : ∃ d9, d = d9 + 1 := ⟨d - 1, by omega⟩
  have hS := hW.1.1
  have hR := hW.2.1
  have hV := hW.2.2
  have hpp := hW.2.2.1.2
  have htt := hW.2.2.2.1.2
  have hdd := hW.2.2.2.2.1.2
  refine mw_aload i_51_0 (L := RING) rfl ?_
  refine mw_iload i_51_1 (x := day) rfl ?_
  refine mw_callV i_51_2 mf_63 (as := [pI day]) (rest := []) (d' := d9) (b' := b) (ls0 := [some (pR (some RING)), some (pI day)]) rfl rfl rfl (Nat.le_of_ble_eq_true rfl) hS.1.1 rfl rfl rfl ?_
  refine k_cardOf_o (by omega) hS hx ?_
  refine aft_v ?_
  refine mw_astore i_51_3 (ls' := [some (pR (some RING)), some (pI day), some (pI match_), some (pI what), some (pR (some (CA 1000))), none]) rfl (Nat.le_of_ble_eq_true rfl) ?_
  refine mw_aload i_51_4 (L := CA 1000) rfl ?_
  refine mw_iload i_51_5 (x := match_) rfl ?_
  refine mw_callV i_51_6 mf_1 (as := [pI match_]) (rest := []) (d' := d9) (b' := b) (ls0 := [some (pR (some (CA 1000))), some (pI match_)]) rfl rfl rfl (Nat.le_of_ble_eq_true rfl) hW.1.2.1.1 rfl rfl rfl ?_
  refine k_hasMatch (p := pm R 1000) (sz := 0) hW.1.2.1 hR.2.2.2.2.1.1 (by decide) ?_
  refine aft_v ?_
  refine mw_neB i_51_7 rfl (fun c1 => ?_) (fun c1 => ?_)
  · skip
    obtain ⟨j_match_, h_match_, rfl⟩ := c1
    exact absurd h_match_ (Nat.not_lt_zero _)
  · skip
    refine mw_throw i_51_8 hx_51 (by omega) (by omega) ?_
    exact q
set_option maxRecDepth 20000 in
set_option maxHeartbeats 400000 in
theorem k_ofM_i {d b : Nat} {K : KM} {I : IM} {R : RM} {Q : QT} {n : Nat} {σ : ST} {x : Nat} {match_ : Int32} {what : Int32} (hd : 8 ≤ d) (hW : CW n σ K I R) (hb : 7 ≤ b) (hn : n ≤ 512) (hx : x < 1000) (q1 : ¬ isN match_ (mn σ x) → Q (.inr 3) K I R) (q2 : ∀ j, j < mn σ x → match_ = nI j → ¬ isN what 6 → Q (.inr 1) K I R) (q0 : ∀ j k, j < mn σ x → k < 6 → match_ = nI j → what = nI k → ∀ v, v = omv σ x j k → Q (.inl (some (pI v))) K I R) : Mw d b N_X5_ofMatch 0 [some (pR (some RING)), some (pI (nI x)), some (pI match_), some (pI what), none, none] [] K I R Q := by
  obtain ⟨d9, rfl⟩ : ∃ d9, d = d9 + 1 := ⟨d - 1, by omega⟩
  have hS := hW.1.1
  have hR := hW.2.1
  have hV := hW.2.2
  have hpp := hW.2.2.1.2
  have htt := hW.2.2.2.1.2
  have hdd := hW.2.2.2.2.1.2
  have hpl : σ 22 x = nI 0 ∨ σ 22 x = nI 1 := (hV.2.2.2.2.2.1 x (by omega)).2.2.1.imp id (fun h => h.1)
  refine mw_aload i_51_0 (L := RING) rfl ?_
  refine mw_iload i_51_1 (x := nI x) rfl ?_
  obtain ⟨hC_x, hz_x, hz6_x, hp_x, ht0_x, hm_x⟩ := CW_c hW (d := x) (by omega)
  refine mw_callV i_51_2 mf_63 (as := [pI (nI x)]) (rest := []) (d' := d9) (b' := b) (ls0 := [some (pR (some RING)), some (pI (nI x))]) rfl rfl rfl (Nat.le_of_ble_eq_true rfl) hS.1.1 rfl rfl rfl ?_
  refine k_cardOf (by omega) hW.1 (by omega) ?_
  refine aft_v ?_
  refine mw_astore i_51_3 (ls' := [some (pR (some RING)), some (pI (nI x)), some (pI match_), some (pI what), some (pR (some (CA (cix R x)))), none]) rfl (Nat.le_of_ble_eq_true rfl) ?_
  refine mw_aload i_51_4 (L := CA (cix R x)) rfl ?_
  refine mw_iload i_51_5 (x := match_) rfl ?_
  refine mw_callV i_51_6 mf_1 (as := [pI match_]) (rest := []) (d' := d9) (b' := b) (ls0 := [some (pR (some (CA (cix R x)))), some (pI match_)]) rfl rfl rfl (Nat.le_of_ble_eq_true rfl) hC_x.1 rfl rfl rfl ?_
  refine k_hasMatch hC_x hz_x hz6_x ?_
  refine aft_v ?_
  refine mw_neB i_51_7 rfl (fun c1 => ?_) (fun c1 => ?_)
  · skip
    obtain ⟨j_match_, h_match_, rfl⟩ := c1
    have hrl := ((hV.2.2.2.2.2.1 x (by omega)).2.2.2.2.1 j_match_ (by omega)).2.2.2.2.2.2
    refine mw_aload i_51_13 (L := CA (cix R x)) rfl ?_
    refine mw_getR i_51_14 hC_x.1 (q := some (MM (cix R x))) hC_x.2.1 ?_
    refine mw_iload i_51_15 (x := nI j_match_) rfl ?_
    refine mw_aald i_51_16 (jn := j_match_) (n := 6) (by omega) (by omega) hC_x.2.2.1 (by decide) (q := some (MT (cix R x) (pm R (cix R x) j_match_))) (hC_x.2.2.2.2.1 j_match_ (by omega)).2 ?_
    refine mw_astore i_51_17 (ls' := [some (pR (some RING)), some (pI (nI x)), some (pI (nI j_match_)), some (pI what), some (pR (some (CA (cix R x)))), some (pR (some (MT (cix R x) (pm R (cix R x) j_match_))))]) rfl (Nat.le_of_ble_eq_true rfl) ?_
    refine mw_iload i_51_18 (x := what) rfl ?_
    refine mw_sw_2 i_51_19 (fun c2 => ?_) (fun c3 => ?_) (fun c4 => ?_) (fun c5 => ?_) (fun c6 => ?_) (fun c7 => ?_) (fun c8 => ?_)
    · skip
      subst c2
      refine mw_aload i_51_20 (L := MT (cix R x) (pm R (cix R x) j_match_)) rfl ?_
      refine mw_get i_51_21 (hC_x.2.2.2.1 _ (hC_x.2.2.2.2.1 j_match_ (by omega)).1) (v := σ 19 (36 * x + 6 * j_match_)) (hm_x j_match_ (by omega)).1 ?_
      refine mw_iretI i_51_22 (x := σ 19 (36 * x + 6 * j_match_)) rt_51 ?_
      exact q0 _ 0 (by assumption) (by decide) rfl rfl _ rfl
    · skip
      subst c3
      refine mw_aload i_51_23 (L := MT (cix R x) (pm R (cix R x) j_match_)) rfl ?_
      refine mw_get i_51_24 (hC_x.2.2.2.1 _ (hC_x.2.2.2.2.1 j_match_ (by omega)).1) (v := σ 19 (36 * x + 6 * j_match_ + 1)) (hm_x j_match_ (by omega)).2.1 ?_
      refine mw_iretI i_51_25 (x := σ 19 (36 * x + 6 * j_match_ + 1)) rt_51 ?_
      exact q0 _ 1 (by assumption) (by decide) rfl rfl _ rfl
    · skip
      subst c4
      refine mw_aload i_51_26 (L := CA (cix R x)) rfl ?_
      refine mw_get i_51_27 hC_x.1 (v := σ 22 x) hp_x ?_
      refine mw_if i_51_28 (p := (σ 22 x) = nI 0) Iff.rfl (fun c9 => ?_) (fun c9 => ?_)
      · skip
        refine mw_aload i_51_34 (L := MT (cix R x) (pm R (cix R x) j_match_)) rfl ?_
        refine mw_callV i_51_35 mf_10 (as := []) (rest := []) (d' := d9) (b' := b) (ls0 := [some (pR (some (MT (cix R x) (pm R (cix R x) j_match_))))]) rfl rfl rfl (Nat.le_of_ble_eq_true rfl) (hC_x.2.2.2.1 _ (hC_x.2.2.2.2.1 j_match_ (by omega)).1) rfl rfl rfl ?_
        refine k_winner (hC_x.2.2.2.1 _ (hC_x.2.2.2.2.1 j_match_ (by omega)).1) ?_
        rw [RCm_w (hm_x j_match_ (by omega))]
        refine aft_v ?_
        refine mw_iretI i_51_36 (x := wnr σ x j_match_) rt_51 ?_
        exact q0 _ 2 (by assumption) (by decide) rfl rfl _ (by simp only [omv]; first | rw [if_pos ⟨(v01 hpl (by assumption)).symm, (v01 hrl (by assumption)).symm⟩] | rw [if_neg (fun h => n10 h.1 (by assumption))] | rw [if_neg (fun h => n10 h.2 (by assumption))])
      · skip
        refine mw_aload i_51_29 (L := MT (cix R x) (pm R (cix R x) j_match_)) rfl ?_
        refine mw_get i_51_30 (hC_x.2.2.2.1 _ (hC_x.2.2.2.2.1 j_match_ (by omega)).1) (v := σ 19 (36 * x + 6 * j_match_ + 5)) (hm_x j_match_ (by omega)).2.2.2.2.2 ?_
        refine mw_if i_51_31 (p := (σ 19 (36 * x + 6 * j_match_ + 5)) = nI 0) Iff.rfl (fun c10 => ?_) (fun c10 => ?_)
        · skip
          refine mw_aload i_51_34 (L := MT (cix R x) (pm R (cix R x) j_match_)) rfl ?_
          refine mw_callV i_51_35 mf_10 (as := []) (rest := []) (d' := d9) (b' := b) (ls0 := [some (pR (some (MT (cix R x) (pm R (cix R x) j_match_))))]) rfl rfl rfl (Nat.le_of_ble_eq_true rfl) (hC_x.2.2.2.1 _ (hC_x.2.2.2.2.1 j_match_ (by omega)).1) rfl rfl rfl ?_
          refine k_winner (hC_x.2.2.2.1 _ (hC_x.2.2.2.2.1 j_match_ (by omega)).1) ?_
          rw [RCm_w (hm_x j_match_ (by omega))]
          refine aft_v ?_
          refine mw_iretI i_51_36 (x := wnr σ x j_match_) rt_51 ?_
          exact q0 _ 2 (by assumption) (by decide) rfl rfl _ (by simp only [omv]; first | rw [if_pos ⟨(v01 hpl (by assumption)).symm, (v01 hrl (by assumption)).symm⟩] | rw [if_neg (fun h => n10 h.1 (by assumption))] | rw [if_neg (fun h => n10 h.2 (by assumption))])
        · skip
          refine mw_const i_51_32 (v := (-1)) (by decide) ?_
          refine mw_goto i_51_33 ?_
          refine mw_iretI i_51_36 (x := (-1)) rt_51 ?_
          exact q0 _ 2 (by assumption) (by decide) rfl rfl _ (by simp only [omv]; first | rw [if_pos ⟨(v01 hpl (by assumption)).symm, (v01 hrl (by assumption)).symm⟩] | rw [if_neg (fun h => n10 h.1 (by assumption))] | rw [if_neg (fun h => n10 h.2 (by assumption))])
    · skip
      subst c5
      refine mw_aload i_51_37 (L := MT (cix R x) (pm R (cix R x) j_match_)) rfl ?_
      refine mw_get i_51_38 (hC_x.2.2.2.1 _ (hC_x.2.2.2.2.1 j_match_ (by omega)).1) (v := σ 19 (36 * x + 6 * j_match_ + 3)) (hm_x j_match_ (by omega)).2.2.2.1 ?_
      refine mw_iretI i_51_39 (x := σ 19 (36 * x + 6 * j_match_ + 3)) rt_51 ?_
      exact q0 _ 3 (by assumption) (by decide) rfl rfl _ rfl
    · skip
      subst c6
      refine mw_aload i_51_40 (L := MT (cix R x) (pm R (cix R x) j_match_)) rfl ?_
      refine mw_get i_51_41 (hC_x.2.2.2.1 _ (hC_x.2.2.2.2.1 j_match_ (by omega)).1) (v := σ 19 (36 * x + 6 * j_match_ + 4)) (hm_x j_match_ (by omega)).2.2.2.2.1 ?_
      refine mw_iretI i_51_42 (x := σ 19 (36 * x + 6 * j_match_ + 4)) rt_51 ?_
      exact q0 _ 4 (by assumption) (by decide) rfl rfl _ rfl
    · skip
      subst c7
      refine mw_aload i_51_43 (L := MT (cix R x) (pm R (cix R x) j_match_)) rfl ?_
      refine mw_get i_51_44 (hC_x.2.2.2.1 _ (hC_x.2.2.2.2.1 j_match_ (by omega)).1) (v := σ 19 (36 * x + 6 * j_match_ + 5)) (hm_x j_match_ (by omega)).2.2.2.2.2 ?_
      refine mw_if i_51_45 (p := (σ 19 (36 * x + 6 * j_match_ + 5)) = nI 0) Iff.rfl (fun c11 => ?_) (fun c11 => ?_)
      · skip
        refine mw_const i_51_48 (v := nI 0) (by decide) ?_
        refine mw_iretI i_51_49 (x := nI 0) rt_51 ?_
        exact q0 _ 5 (by assumption) (by decide) rfl rfl _ (by simp only [omv]; first | exact v01 hrl (by assumption) | exact (by assumption : σ 19 (36 * x + 6 * j_match_ + 5) = nI 0).symm)
      · skip
        refine mw_const i_51_46 (v := nI 1) (by decide) ?_
        refine mw_goto i_51_47 ?_
        refine mw_iretI i_51_49 (x := nI 1) rt_51 ?_
        exact q0 _ 5 (by assumption) (by decide) rfl rfl _ (by simp only [omv]; first | exact v01 hrl (by assumption) | exact (by assumption : σ 19 (36 * x + 6 * j_match_ + 5) = nI 0).symm)
    · skip
      refine mw_throw i_51_50 hx_51 (by omega) (by omega) ?_
      exact q2 _ (by assumption) rfl (fun h => by obtain ⟨k, hk, e⟩ := h; exact c8 k hk e)
  · skip
    refine mw_throw i_51_8 hx_51 (by omega) (by omega) ?_
    exact q1 (fun h => c1 h)
set_option maxRecDepth 20000 in
theorem k_bAnew_lp {d b : Nat} {K : KM} {I : IM} {R : RM} {Q : QT} {n x y : Nat} {σ : ST} (hd : 8 ≤ d) (hW : CW n σ K I R) (hx : x < pn σ) (hy : y < pn σ)  (q : Q (.inl (some (pI (σ 13 (10 * x + y))))) K I R) : ∀ (n i : Nat) (u5 : Option PV), dn σ + 1 - i < n → i ≤ dn σ + 1 → Mw d b N_X5_beatAnew 17 [some (pR (some RING)), some (pI (nI x)), some (pI (nI y)), some (pI (smI (fun d => if σ 22 d = nI 1 then wcn σ d x y (mn σ d) else nI 0) i)), some (pI (nI i)), u5] [] K I R Q := by
  obtain ⟨d9, rfl⟩ : ∃ d9, d = d9 + 1 := ⟨d - 1, by omega⟩
  intro n
  induction n with
  | zero => intro i u5 hn; exact absurd hn (Nat.not_lt_zero _)
  | succ n ih =>
    intro i u5 hn hi
    have hS := hW.1.1
    have hR := hW.2.1
    have hV := hW.2.2
    have hpp := hW.2.2.1.2
    have htt := hW.2.2.2.1.2
    have hdd := hW.2.2.2.2.1.2
    refine mw_iload i_55_17 (x := nI i) rfl ?_
    refine mw_aload i_55_18 (L := RING) rfl ?_
    refine mw_get i_55_19 hS.1.1 (v := nI (dn σ)) (CW_d hW) ?_
    refine mw_ic i_55_20 (p := (dn σ) < i) (nI_ltI (by omega) (by omega)) (fun c1 => ?_) (fun c1 => ?_)
    · skip
      refine mw_iload i_55_37 (x := smI (fun d => if σ 22 d = nI 1 then wcn σ d x y (mn σ d) else nI 0) i) rfl ?_
      refine mw_iretI i_55_38 (x := smI (fun d => if σ 22 d = nI 1 then wcn σ d x y (mn σ d) else nI 0) i) rt_55 ?_
      have hid : i = dn σ + 1 := by omega
      rw [show smI (fun d => if σ 22 d = nI 1 then wcn σ d x y (mn σ d) else nI 0) i = σ 13 (10 * x + y) from ?_]
      · exact q
      · rw [hV.2.2.2.2.2.2 x y (by omega) (by omega), hid]
        refine (smI_tail (by omega) (fun j h1 h2 => ?_)).symm
        have := (hV.2.2.2.2.2.1 j h2).2.2.1
        rcases this with h | ⟨h, h3⟩
        · rw [if_neg (by rw [h]; decide)]
        · omega
    · skip
      have hpl : σ 22 i = nI 0 ∨ σ 22 i = nI 1 := (hV.2.2.2.2.2.1 i (by omega)).2.2.1.imp id (fun h => h.1)
      refine mw_aload i_55_21 (L := RING) rfl ?_
      refine mw_iload i_55_22 (x := nI i) rfl ?_
      obtain ⟨hC_i, hz_i, hz6_i, hp_i, ht0_i, hm_i⟩ := CW_c hW (d := i) (by omega)
      refine mw_callV i_55_23 mf_63 (as := [pI (nI i)]) (rest := []) (d' := d9) (b' := b) (ls0 := [some (pR (some RING)), some (pI (nI i))]) rfl rfl rfl (Nat.le_of_ble_eq_true rfl) hS.1.1 rfl rfl rfl ?_
      refine k_cardOf (by omega) hW.1 (by omega) ?_
      refine aft_v ?_
      refine mw_astore i_55_24 (ls' := [some (pR (some RING)), some (pI (nI x)), some (pI (nI y)), some (pI (smI (fun d => if σ 22 d = nI 1 then wcn σ d x y (mn σ d) else nI 0) i)), some (pI (nI i)), some (pR (some (CA (cix R i))))]) rfl (Nat.le_of_ble_eq_true rfl) ?_
      refine mw_aload i_55_25 (L := CA (cix R i)) rfl ?_
      refine mw_get i_55_26 hC_i.1 (v := σ 22 i) hp_i ?_
      refine mw_if i_55_27 (p := (σ 22 i) = nI 0) Iff.rfl (fun c2 => ?_) (fun c2 => ?_)
      · skip
        refine mw_iinc i_55_35 (x := nI i) (v := nI (i + 1)) (ls' := [some (pR (some RING)), some (pI (nI x)), some (pI (nI y)), some (pI (smI (fun d => if σ 22 d = nI 1 then wcn σ d x y (mn σ d) else nI 0) i)), some (pI (nI (i + 1))), some (pR (some (CA (cix R i))))]) rfl (nI_add _ _) rfl ?_
        refine mw_goto i_55_36 ?_
        rw [← smI_0 (show (fun d => if σ 22 d = nI 1 then wcn σ d x y (mn σ d) else nI 0) i = nI 0 from if_neg (fun h => n10 h (by assumption)))]
        exact ih (i + 1) _ (by omega) (by omega)
      · skip
        refine mw_iload i_55_28 (x := smI (fun d => if σ 22 d = nI 1 then wcn σ d x y (mn σ d) else nI 0) i) rfl ?_
        refine mw_aload i_55_29 (L := CA (cix R i)) rfl ?_
        refine mw_iload i_55_30 (x := nI x) rfl ?_
        refine mw_iload i_55_31 (x := nI y) rfl ?_
        refine mw_callV i_55_32 mf_6 (as := [pI (nI x), pI (nI y)]) (rest := [pI (smI (fun d => if σ 22 d = nI 1 then wcn σ d x y (mn σ d) else nI 0) i)]) (d' := d9) (b' := b) (ls0 := [some (pR (some (CA (cix R i)))), some (pI (nI x)), some (pI (nI y)), none, none, none]) rfl rfl rfl (Nat.le_of_ble_eq_true rfl) hC_i.1 rfl rfl rfl ?_
        refine k_winsOf (by omega) hC_i hz_i hz6_i ?_
        rw [show smI (wcl I (cix R i) (pm R (cix R i)) (nI x) (nI y)) (mn σ i) = wcn σ i x y (mn σ i) from smI_congr (fun k hk => by unfold wcl; rw [RCm_w (hm_i k hk), RCm_l (hm_i k hk), (hm_i k hk).2.2.2.2.2])]
        refine aft_v ?_
        refine mw_iadd i_55_33 (w := ((smI (fun d => if σ 22 d = nI 1 then wcn σ d x y (mn σ d) else nI 0) i) + (wcn σ i x y (mn σ i)))) rfl ?_
        refine mw_istore i_55_34 (ls' := [some (pR (some RING)), some (pI (nI x)), some (pI (nI y)), some (pI ((smI (fun d => if σ 22 d = nI 1 then wcn σ d x y (mn σ d) else nI 0) i) + (wcn σ i x y (mn σ i)))), some (pI (nI i)), some (pR (some (CA (cix R i))))]) rfl (Nat.le_of_ble_eq_true rfl) ?_
        refine mw_iinc i_55_35 (x := nI i) (v := nI (i + 1)) (ls' := [some (pR (some RING)), some (pI (nI x)), some (pI (nI y)), some (pI ((smI (fun d => if σ 22 d = nI 1 then wcn σ d x y (mn σ d) else nI 0) i) + (wcn σ i x y (mn σ i)))), some (pI (nI (i + 1))), some (pR (some (CA (cix R i))))]) rfl (nI_add _ _) rfl ?_
        refine mw_goto i_55_36 ?_
        rw [show ((smI (fun d => if σ 22 d = nI 1 then wcn σ d x y (mn σ d) else nI 0) i) + (wcn σ i x y (mn σ i))) = smI (fun d => if σ 22 d = nI 1 then wcn σ d x y (mn σ d) else nI 0) (i + 1) from by
            show _ = smI (fun d => if σ 22 d = nI 1 then wcn σ d x y (mn σ d) else nI 0) i + (fun d => if σ 22 d = nI 1 then wcn σ d x y (mn σ d) else nI 0) i
            dsimp only
            rw [if_pos (v01 hpl (by assumption)).symm]]
        exact ih (i + 1) _ (by omega) (by omega)
set_option maxRecDepth 20000 in
set_option maxHeartbeats 400000 in
theorem k_beatAnew {d b : Nat} {K : KM} {I : IM} {R : RM} {Q : QT} {n : Nat} {σ : ST} {w : Int32} {o : Int32} (hd : 8 ≤ d) (hW : CW n σ K I R) (hb : 7 ≤ b) (hn : n ≤ 512)  (q1 : ¬ (isN w (pn σ) ∧ isN o (pn σ)) → Q (.inr 3) K I R) (q0 : ∀ x y, x < pn σ → y < pn σ → w = nI x → o = nI y → Q (.inl (some (pI (σ 13 (10 * x + y))))) K I R) : Mw d b N_X5_beatAnew 0 [some (pR (some RING)), some (pI w), some (pI o), none, none, none] [] K I R Q := by
  obtain ⟨d9, rfl⟩ : ∃ d9, d = d9 + 1 := ⟨d - 1, by omega⟩
  have hS := hW.1.1
  have hR := hW.2.1
  have hV := hW.2.2
  have hpp := hW.2.2.1.2
  have htt := hW.2.2.2.1.2
  have hdd := hW.2.2.2.2.1.2
  refine mw_aload i_55_0 (L := RING) rfl ?_
  refine mw_iload i_55_1 (x := w) rfl ?_
  refine mw_callV i_55_2 mf_60 (as := [pI w]) (rest := []) (d' := d9) (b' := b) (ls0 := [some (pR (some RING)), some (pI w)]) rfl rfl rfl (Nat.le_of_ble_eq_true rfl) hS.1.1 rfl rfl rfl ?_
  refine k_isWrestler hS (CW_p hW) hpp ?_
  refine aft_v ?_
  refine mw_eqB i_55_3 rfl (fun c1 => ?_) (fun c1 => ?_)
  · skip
    refine mw_throw i_55_8 hx_55 (by omega) (by omega) ?_
    exact q1 (fun h => c1 h.1)
  · skip
    obtain ⟨j_w, h_w, rfl⟩ := c1
    refine mw_aload i_55_4 (L := RING) rfl ?_
    refine mw_iload i_55_5 (x := o) rfl ?_
    refine mw_callV i_55_6 mf_60 (as := [pI o]) (rest := []) (d' := d9) (b' := b) (ls0 := [some (pR (some RING)), some (pI o)]) rfl rfl rfl (Nat.le_of_ble_eq_true rfl) hS.1.1 rfl rfl rfl ?_
    refine k_isWrestler hS (CW_p hW) hpp ?_
    refine aft_v ?_
    refine mw_neB i_55_7 rfl (fun c2 => ?_) (fun c2 => ?_)
    · skip
      obtain ⟨j_o, h_o, rfl⟩ := c2
      refine mw_const i_55_13 (v := nI 0) (by decide) ?_
      refine mw_istore i_55_14 (ls' := [some (pR (some RING)), some (pI (nI j_w)), some (pI (nI j_o)), some (pI (nI 0)), none, none]) rfl (Nat.le_of_ble_eq_true rfl) ?_
      refine mw_const i_55_15 (v := nI 0) (by decide) ?_
      refine mw_istore i_55_16 (ls' := [some (pR (some RING)), some (pI (nI j_w)), some (pI (nI j_o)), some (pI (nI 0)), some (pI (nI 0)), none]) rfl (Nat.le_of_ble_eq_true rfl) ?_
      exact k_bAnew_lp (by omega) hW (by assumption) (by assumption) (q0 _ _ (by assumption) (by assumption) rfl rfl) (dn σ + 2) 0 none (by omega) (by omega)
    · skip
      refine mw_throw i_55_8 hx_55 (by omega) (by omega) ?_
      exact q1 (fun h => c2 h.2)
