/-! the law books -/
/-- the rows behind a booking -/
def bkR (I : IM) (x c : Nat) (v0 v1 v2 v3 v4 t z : Int32) : IM := up2 (up2 (up2 (up2 (up2 (up2 (up2 (up2 I QK (18 * (x % 3) + 6 * c) v0) QK (18 * (x % 3) + 6 * c + 1) v1) QK (18 * (x % 3) + 6 * c + 2) v2) QK (18 * (x % 3) + 6 * c + 3) v3) QK (18 * (x % 3) + 6 * c + 4) v4) QK (18 * (x % 3) + 6 * c + 5) (nI 0)) QM (4 + x % 3) t) QM (1 + x % 3) z
theorem bkR_K {I : IM} {x c : Nat} {v0 v1 v2 v3 v4 t z : Int32} {j : Nat} : bkR I x c v0 v1 v2 v3 v4 t z QK j = if j = 18 * (x % 3) + 6 * c + 5 then nI 0 else if j = 18 * (x % 3) + 6 * c + 4 then v4 else if j = 18 * (x % 3) + 6 * c + 3 then v3 else if j = 18 * (x % 3) + 6 * c + 2 then v2 else if j = 18 * (x % 3) + 6 * c + 1 then v1 else if j = 18 * (x % 3) + 6 * c then v0 else I QK j := by
  unfold bkR
  rw [up2_ne (by decide), up2_ne (by decide), up2_at]; unfold upd
  rw [up2_at]; unfold upd
  rw [up2_at]; unfold upd
  rw [up2_at]; unfold upd
  rw [up2_at]; unfold upd
  rw [up2_at]; unfold upd
  rfl
theorem bkR_M {I : IM} {x c : Nat} {v0 v1 v2 v3 v4 t z : Int32} {j : Nat} : bkR I x c v0 v1 v2 v3 v4 t z QM j = if j = 1 + x % 3 then z else if j = 4 + x % 3 then t else I QM j := by
  unfold bkR
  rw [up2_at]; unfold upd
  rw [up2_at]; unfold upd
  rw [up2_ne (by decide), up2_ne (by decide), up2_ne (by decide), up2_ne (by decide), up2_ne (by decide), up2_ne (by decide)]
theorem bkR_o {I : IM} {x c : Nat} {v0 v1 v2 v3 v4 t z : Int32} {L : Lb} (h1 : L ≠ QM) (h2 : L ≠ QK) : bkR I x c v0 v1 v2 v3 v4 t z L = I L := by
  unfold bkR
  rw [up2_ne h1, up2_ne h1, up2_ne h2, up2_ne h2, up2_ne h2, up2_ne h2, up2_ne h2, up2_ne h2]
theorem bkk_o {σ : ST} {x t f s : Nat} {pb : Prop} {mi ti : Int32} {k : Nat} (h : k ≠ 19) (h2 : k ≠ 20) (h3 : k ≠ 21) : bkS σ x t f s pb mi ti k = σ k := by
  unfold bkS
  rw [ups_ne h2, ups_ne h3, ups_ne h, ups_ne h, ups_ne h, ups_ne h, ups_ne h, ups_ne h]
theorem bkk_19 {σ : ST} {x t f s : Nat} {pb : Prop} {mi ti : Int32} {j : Nat} : bkS σ x t f s pb mi ti 19 j = if j = 36 * x + 6 * mn σ x + 5 then nI 0 else if j = 36 * x + 6 * mn σ x + 4 then ti else if j = 36 * x + 6 * mn σ x + 3 then mi else if j = 36 * x + 6 * mn σ x + 2 then bI (¬ pb) else if j = 36 * x + 6 * mn σ x + 1 then nI s else if j = 36 * x + 6 * mn σ x then nI f else σ 19 j := by
  unfold bkS
  rw [ups_ne (by decide), ups_ne (by decide), ups_at]; unfold upd
  rw [ups_at]; unfold upd
  rw [ups_at]; unfold upd
  rw [ups_at]; unfold upd
  rw [ups_at]; unfold upd
  rw [ups_at]; unfold upd
  rfl
theorem bkk_20 {σ : ST} {x t f s : Nat} {pb : Prop} {mi ti : Int32} : bkS σ x t f s pb mi ti 20 = upd (σ 20) x (nI (mn σ x + 1)) := by
  unfold bkS
  rw [ups_at, ups_ne (by decide), ups_ne (by decide), ups_ne (by decide), ups_ne (by decide), ups_ne (by decide), ups_ne (by decide), ups_ne (by decide)]
theorem bkk_21 {σ : ST} {x t f s : Nat} {pb : Prop} {mi ti : Int32} : bkS σ x t f s pb mi ti 21 = upd (σ 21) x (nI t) := by
  unfold bkS
  rw [ups_ne (by decide), ups_at, ups_ne (by decide), ups_ne (by decide), ups_ne (by decide), ups_ne (by decide), ups_ne (by decide), ups_ne (by decide)]
theorem LR_bk {n : Nat} {σ : ST} {I : IM} (h : LR n σ I) {x t f s : Nat} {pb : Prop} {mi ti v2 : Int32} (h1 : dn σ ≤ x) (h2 : x < dn σ + 3) (h3 : mn σ x < 3) (e2 : v2 = bI (¬ pb)) : LR n (bkS σ x t f s pb mi ti) (bkR I x (mn σ x) (nI f) (nI s) v2 mi (ti + nI 1) (nI t) (nI (mn σ x + 1))) := by
  refine LR_K h (fun L a b => bkR_o a b) (fun j hj => by rw [bkR_M, if_neg (by omega), if_neg (by omega)]) (fun k hk => bkk_o (by omega) (by omega) (by omega)) (fun y hy1 hy2 => ?_) (fun y hy1 hy2 => ⟨by rw [bkk_20, upd_ne (by omega)], by rw [bkk_o (by decide) (by decide) (by decide)]⟩)
  by_cases e : y = x
  · subst e
    obtain ⟨g1, g2, g3, g4, g5⟩ := LR_card h hy1 hy2
    have em : mn (bkS σ y t f s pb mi ti) y = mn σ y + 1 := by
      show (bkS σ y t f s pb mi ti 20 y).toNatClampNeg = _
      rw [bkk_20, upd_at, nI_clamp (by omega)]
    refine ⟨?_, ?_, fun _ => ?_, ?_, fun j hj => ?_⟩
    · rw [bkR_M, if_pos rfl, em]
    · rw [em]; omega
    · rw [bkR_M, if_neg (by omega), if_pos rfl, bkk_21, upd_at]
    · rw [bkR_M, if_neg (by omega), if_neg (by omega), bkk_o (by decide) (by decide) (by decide)]; exact g4
    · rw [em] at hj
      by_cases ej : j = mn σ y
      · subst ej
        refine ⟨?_, ?_, ?_, ?_, ?_, ?_⟩
        · rw [bkR_K, if_neg (by omega), if_neg (by omega), if_neg (by omega), if_neg (by omega), if_neg (by omega), if_pos rfl, bkk_19, if_neg (by omega), if_neg (by omega), if_neg (by omega), if_neg (by omega), if_neg (by omega), if_pos rfl]
        · rw [bkR_K, if_neg (by omega), if_neg (by omega), if_neg (by omega), if_neg (by omega), if_pos rfl, bkk_19, if_neg (by omega), if_neg (by omega), if_neg (by omega), if_neg (by omega), if_pos rfl]
        · rw [bkR_K, if_neg (by omega), if_neg (by omega), if_neg (by omega), if_pos rfl, bkk_19, if_neg (by omega), if_neg (by omega), if_neg (by omega), if_pos rfl]; exact e2
        · rw [bkR_K, if_neg (by omega), if_neg (by omega), if_pos rfl, bkk_19, if_neg (by omega), if_neg (by omega), if_pos rfl]
        · rw [bkR_K, if_neg (by omega), if_pos rfl, bkk_19, if_neg (by omega), if_pos rfl]
        · rw [bkR_K, if_pos rfl, bkk_19, if_pos rfl]
      · have hk := g5 j (by omega)
        have e2 : ∀ q, q < 6 → bkS σ y t f s pb mi ti 19 (36 * y + 6 * j + q) = σ 19 (36 * y + 6 * j + q) := fun q hq => by
          rw [bkk_19, if_neg (by omega), if_neg (by omega), if_neg (by omega), if_neg (by omega), if_neg (by omega), if_neg (by omega)]
        have e3 : ∀ q, q < 6 → bkR I y (mn σ y) (nI f) (nI s) v2 mi (ti + nI 1) (nI t) (nI (mn σ y + 1)) QK (18 * (y % 3) + 6 * j + q) = I QK (18 * (y % 3) + 6 * j + q) := fun q hq => by
          rw [bkR_K, if_neg (by omega), if_neg (by omega), if_neg (by omega), if_neg (by omega), if_neg (by omega), if_neg (by omega)]
        have e20 := e2 0 (by decide)
        have e30 := e3 0 (by decide)
        simp only [Nat.add_zero] at e20 e30
        unfold LKj
        rw [e20, e30, e2 1 (by decide), e2 2 (by decide), e2 3 (by decide), e2 4 (by decide), e2 5 (by decide), e3 1 (by decide), e3 2 (by decide), e3 3 (by decide), e3 4 (by decide), e3 5 (by decide)]
        exact hk
  · have hy3 : y % 3 ≠ x % 3 := by omega
    refine LK_o (LR_card h hy1 hy2) (by rw [bkk_20, upd_ne e]) (by rw [bkk_21, upd_ne e]) (by rw [bkk_o (by decide) (by decide) (by decide)]) (fun q hq => ?_) (fun q hq => ?_) ⟨?_, ?_, ?_⟩
    · rw [bkk_19, if_neg (by omega), if_neg (by omega), if_neg (by omega), if_neg (by omega), if_neg (by omega), if_neg (by omega)]
    · rw [bkR_K, if_neg (by omega), if_neg (by omega), if_neg (by omega), if_neg (by omega), if_neg (by omega), if_neg (by omega)]
    · rw [bkR_M, if_neg (by omega), if_neg (by omega)]
    · rw [bkR_M, if_neg (by omega), if_neg (by omega)]
    · rw [bkR_M, if_neg (by omega), if_neg (by omega)]
theorem b_book {d b : Nat} {K : KM} {I : IM} {R : RM} {Q : QT} {n : Nat} {σ : ST} {pb : Prop} {x t f s mi : Nat} {ti v2 : Int32} (hd : 8 ≤ d) (hW : CW n σ K I R) (e2 : v2 = bI pb) (ht : t < 4) (hf : f < pn σ) (hs : s < pn σ) (hti : ti = (-1) ∨ isN ti (tn σ)) (hx1 : dn σ ≤ x) (hx2 : x < 1000) (hmi : inr (nI mi) (nI 1) (nI 60)) (hfs : ¬ f = s) (hA : bkA σ x t f s (nI mi) ti) (hB : bkB σ x f s pb ti) (q : ∀ K' I' R', CSX K' R' → FrKR K K' R R' → FrC I I' → RC (bkS σ x t f s pb (nI mi) ti) I' R' → Q (.inl (some (pI (nI (mn σ x))))) K' I' R') : Mw d (b + 61) N_X5_book 0 [some (pR (some RING)), some (pI (nI x)), some (pI (nI t)), some (pI (nI f)), some (pI (nI s)), some (pI v2), some (pI (nI mi)), some (pI ti), none, none, none, none] [] K I R Q := by
  have hp := hW.2.2.1.2
  have hb2 : bk2 σ (nI x) (nI mi) f s x := ⟨hx1, hx2, rfl, hmi, hfs⟩
  subst e2
  refine k_book hd hW (fun h => absurd ⟨ht, hf, hs, rfl, rfl, rfl, hti⟩ (h t f s)) (fun t9 f9 s9 h1 h2 => ?_) (fun t9 f9 s9 h1 x9 h2 h3 => ?_) (fun t9 f9 s9 h1 x9 h2 h3 h4 => ?_) (fun t9 f9 s9 h1 x9 h2 h3 h4 K' I' R' a1 a2 a3 a4 => ?_)
  all_goals (obtain ⟨b1, b2, b3, b4, b5, b6, b7⟩ := h1; obtain rfl := nI_inj b4 (by omega) (by omega); obtain rfl := nI_inj b5 (by omega) (by omega); obtain rfl := nI_inj b6 (by omega) (by omega))
  · exact absurd hb2 (h2 x)
  all_goals (obtain rfl := nI_inj h2.2.2.1 (by omega) (by have := h2.2.1; omega))
  · exact absurd hA h3
  · exact absurd hB h4
  · exact q K' I' R' a1 a2 a3 a4
def cn1 (σ : ST) (x f s : Nat) : Prop := σ 22 x = nI 0 ∧ mn σ x < 3 ∧ ¬ onC σ x (nI f) ∧ ¬ onC σ x (nI s) ∧ ¬ nI x < σ 6 f ∧ ¬ nI x < σ 6 s
def tix (σ : ST) (x : Nat) (ti : Int32) (j : Nat) : Prop := ¬ ti = (-1) ∧ σ 19 (36 * x + 6 * j + 4) = ti
def smx (σ : ST) (x : Nat) : Nat → Int32 := smI (fun j => σ 19 (36 * x + 6 * j + 3))
theorem tix_1 {σ : ST} {x j : Nat} : ¬ tix σ x (-1) j := fun h => h.1 rfl
theorem tix_2 {σ : ST} {x j tt : Nat} (ht : tt < 2) : tix σ x (nI tt) j ↔ σ 19 (36 * x + 6 * j + 4) + nI 1 = nI (tt + 1) := by
  rw [ch_dec2]
  exact ⟨fun h => h.2, fun h => ⟨fun e => by have := congrArg Int32.toInt e; rw [nI_toInt (by omega)] at this; revert this; show ¬ ((tt : Int) = -1); omega, h⟩⟩
theorem isN_lt {tt n : Nat} (h : tt < n) : isN (nI tt) n := ⟨tt, h, rfl⟩
set_option maxRecDepth 20000 in
theorem c_bk_lp {d b : Nat} {K : KM} {I : IM} {R : RM} {Q : QT} {nn n0 z x tw f s mi ws : Nat} {σ : ST} {ti : Int32} (hd : 2 ≤ d) (hQ : KQ K) (hL : LR nn σ I) (hV : IV n0 σ) (hx1 : dn σ ≤ x) (hx2 : x < dn σ + 3) (hx : x < 1000) (hti : ti = (-1) ∨ ∃ tt, tt < 2 ∧ ti = nI tt)  (q : ∀ u16, Mw d b N_L_isBooked 153 [some (pR (some RING)), some (pR (some QW)), some (pR (some QC)), some (pR (some QK)), some (pR (some QM)), some (pI (nI z)), some (pI (nI x)), some (pI (nI tw)), some (pI (nI f)), some (pI (nI s)), some (pI (nI mi)), some (pI ti), some (pI (nI ws)), some (pI (nI mi + smx σ x (mn σ x))), some (pI (bI (cn1 σ x f s ∧ ¬ Ex (tix σ x ti) (mn σ x)))), some (pI (nI (mn σ x))), u16] [] K I R Q) : ∀ (n j : Nat) (u16 : Option PV), mn σ x - j < n → j ≤ mn σ x → Mw d b N_L_isBooked 109 [some (pR (some RING)), some (pR (some QW)), some (pR (some QC)), some (pR (some QK)), some (pR (some QM)), some (pI (nI z)), some (pI (nI x)), some (pI (nI tw)), some (pI (nI f)), some (pI (nI s)), some (pI (nI mi)), some (pI ti), some (pI (nI ws)), some (pI (nI mi + smx σ x j)), some (pI (bI (cn1 σ x f s ∧ ¬ Ex (tix σ x ti) j))), some (pI (nI j)), u16] [] K I R Q := by
  obtain ⟨d9, rfl⟩ : ∃ d9, d = d9 + 1 := ⟨d - 1, by omega⟩
  intro n
  induction n with
  | zero => intro j u16 hn; exact absurd hn (Nat.not_lt_zero _)
  | succ n ih =>
    intro j u16 hn hi
    obtain ⟨g1, g2, g3, g4, g5⟩ := LR_card hL (x := x) hx1 hx2
    refine mw_iload i_85_109 (x := nI j) rfl ?_
    refine mw_aload i_85_110 (L := QM) rfl ?_
    refine mw_iload i_85_111 (x := nI x) rfl ?_
    refine mw_callS i_85_112 mf_79 (as := [pR (some QM), pI (nI x)]) (rest := [pI (nI j)]) (d' := d9) (b' := b) (ls0 := [some (pR (some QM)), some (pI (nI x))]) rfl rfl rfl (Nat.le_of_ble_eq_true rfl) rfl rfl rfl ?_
    refine b_many hQ hL hx1 hx2 hx ?_
    refine aft_v ?_
    refine mw_ic i_85_113 (p := (mn σ x) ≤ j) (nI_leI (by omega) (by omega)) (fun c1 => ?_) (fun c1 => ?_)
    · skip
      obtain rfl : j = mn σ x := by omega
      exact q _
    · skip
      rcases hti with rfl | ⟨tt, htt, rfl⟩
      · skip
        refine mw_iload i_85_114 (x := nI mi + smx σ x j) rfl ?_
        refine mw_aload i_85_115 (L := QK) rfl ?_
        refine mw_aload i_85_116 (L := QM) rfl ?_
        refine mw_iload i_85_117 (x := nI x) rfl ?_
        refine mw_callS i_85_118 mf_78 (as := [pR (some QM), pI (nI x)]) (rest := [pR (some QK), pI (nI mi + smx σ x j)]) (d' := d9) (b' := b) (ls0 := [some (pR (some QM)), some (pI (nI x))]) rfl rfl rfl (Nat.le_of_ble_eq_true rfl) rfl rfl rfl ?_
        refine a_slot (by omega) ?_
        refine aft_v ?_
        refine mw_const i_85_119 (v := nI 6) (by decide) ?_
        refine mw_iload i_85_120 (x := nI j) rfl ?_
        refine mw_imul i_85_121 (w := nI (6 * j)) (pk_mul _ _) ?_
        refine mw_iadd i_85_122 (w := nI (18 * (x % 3) + (6 * j))) (nI_add _ _) ?_
        refine mw_const i_85_123 (v := nI 3) (by decide) ?_
        refine mw_iadd i_85_124 (w := nI (18 * (x % 3) + (6 * j) + 3)) (nI_add _ _) ?_
        refine mw_iald i_85_125 (jn := 18 * (x % 3) + (6 * j) + 3) (n := 54) (by omega) (by omega) hQ.2.2.2.2.1 (by decide) (v := σ 19 (36 * x + 6 * j + 3)) (g5 j (by omega)).2.2.2.1 ?_
        refine mw_iadd i_85_126 (w := nI mi + smx σ x (j + 1)) (Int32.add_assoc _ _ _) ?_
        refine mw_istore i_85_127 (ls' := [some (pR (some RING)), some (pR (some QW)), some (pR (some QC)), some (pR (some QK)), some (pR (some QM)), some (pI (nI z)), some (pI (nI x)), some (pI (nI tw)), some (pI (nI f)), some (pI (nI s)), some (pI (nI mi)), some (pI (-1)), some (pI (nI ws)), some (pI (nI mi + smx σ x (j + 1))), some (pI (bI (cn1 σ x f s ∧ ¬ Ex (tix σ x (-1)) j))), some (pI (nI j)), u16]) rfl (Nat.le_of_ble_eq_true rfl) ?_
        have J2 : Mw (d9 + 1) b 85 150 [some (pR (some RING)), some (pR (some QW)), some (pR (some QC)), some (pR (some QK)), some (pR (some QM)), some (pI (nI z)), some (pI (nI x)), some (pI (nI tw)), some (pI (nI f)), some (pI (nI s)), some (pI (nI mi)), some (pI (-1)), some (pI (nI ws)), some (pI (nI mi + smx σ x (j + 1))), some (pI (bI (cn1 σ x f s ∧ ¬ Ex (tix σ x (-1)) j))), some (pI (nI j)), u16] [pI (bI (cn1 σ x f s ∧ ¬ Ex (tix σ x (-1)) (j + 1)))] K I R Q := by
          refine mw_istore i_85_150 (ls' := [some (pR (some RING)), some (pR (some QW)), some (pR (some QC)), some (pR (some QK)), some (pR (some QM)), some (pI (nI z)), some (pI (nI x)), some (pI (nI tw)), some (pI (nI f)), some (pI (nI s)), some (pI (nI mi)), some (pI (-1)), some (pI (nI ws)), some (pI (nI mi + smx σ x (j + 1))), some (pI (bI (cn1 σ x f s ∧ ¬ Ex (tix σ x (-1)) (j + 1)))), some (pI (nI j)), u16]) rfl (Nat.le_of_ble_eq_true rfl) ?_
          refine mw_iinc i_85_151 (x := nI j) (v := nI (j + 1)) (ls' := [some (pR (some RING)), some (pR (some QW)), some (pR (some QC)), some (pR (some QK)), some (pR (some QM)), some (pI (nI z)), some (pI (nI x)), some (pI (nI tw)), some (pI (nI f)), some (pI (nI s)), some (pI (nI mi)), some (pI (-1)), some (pI (nI ws)), some (pI (nI mi + smx σ x (j + 1))), some (pI (bI (cn1 σ x f s ∧ ¬ Ex (tix σ x (-1)) (j + 1)))), some (pI (nI (j + 1))), u16]) rfl (nI_add _ _) rfl ?_
          refine mw_goto i_85_152 ?_
          exact ih (j + 1) _ (by omega) (by omega)
        refine mw_iload i_85_128 (x := bI (cn1 σ x f s ∧ ¬ Ex (tix σ x (-1)) j)) rfl ?_
        refine mw_eqB i_85_129 rfl (fun c3 => ?_) (fun c3 => ?_)
        · skip
          refine mw_const i_85_149 (v := nI 0) (by decide) ?_
          exact mw_top (show nI 0 = bI (cn1 σ x f s ∧ ¬ Ex (tix σ x (-1)) (j + 1)) from (bI_f (fun h => c3 ⟨h.1, fun e => h.2 (Ex_m e)⟩)).symm) J2
        · skip
          refine mw_iload i_85_130 (x := (-1)) rfl ?_
          refine mw_ifT i_85_131 (show ((-1) : Int32) < nI 0 by decide) ?_
          refine mw_const i_85_147 (v := nI 1) (by decide) ?_
          refine mw_goto i_85_148 ?_
          exact mw_top (show nI 1 = bI (cn1 σ x f s ∧ ¬ Ex (tix σ x (-1)) (j + 1)) from (bI_t (⟨c3.1, Ex_s c3.2 tix_1⟩)).symm) J2
      · skip
        refine mw_iload i_85_114 (x := nI mi + smx σ x j) rfl ?_
        refine mw_aload i_85_115 (L := QK) rfl ?_
        refine mw_aload i_85_116 (L := QM) rfl ?_
        refine mw_iload i_85_117 (x := nI x) rfl ?_
        refine mw_callS i_85_118 mf_78 (as := [pR (some QM), pI (nI x)]) (rest := [pR (some QK), pI (nI mi + smx σ x j)]) (d' := d9) (b' := b) (ls0 := [some (pR (some QM)), some (pI (nI x))]) rfl rfl rfl (Nat.le_of_ble_eq_true rfl) rfl rfl rfl ?_
        refine a_slot (by omega) ?_
        refine aft_v ?_
        refine mw_const i_85_119 (v := nI 6) (by decide) ?_
        refine mw_iload i_85_120 (x := nI j) rfl ?_
        refine mw_imul i_85_121 (w := nI (6 * j)) (pk_mul _ _) ?_
        refine mw_iadd i_85_122 (w := nI (18 * (x % 3) + (6 * j))) (nI_add _ _) ?_
        refine mw_const i_85_123 (v := nI 3) (by decide) ?_
        refine mw_iadd i_85_124 (w := nI (18 * (x % 3) + (6 * j) + 3)) (nI_add _ _) ?_
        refine mw_iald i_85_125 (jn := 18 * (x % 3) + (6 * j) + 3) (n := 54) (by omega) (by omega) hQ.2.2.2.2.1 (by decide) (v := σ 19 (36 * x + 6 * j + 3)) (g5 j (by omega)).2.2.2.1 ?_
        refine mw_iadd i_85_126 (w := nI mi + smx σ x (j + 1)) (Int32.add_assoc _ _ _) ?_
        refine mw_istore i_85_127 (ls' := [some (pR (some RING)), some (pR (some QW)), some (pR (some QC)), some (pR (some QK)), some (pR (some QM)), some (pI (nI z)), some (pI (nI x)), some (pI (nI tw)), some (pI (nI f)), some (pI (nI s)), some (pI (nI mi)), some (pI (nI tt)), some (pI (nI ws)), some (pI (nI mi + smx σ x (j + 1))), some (pI (bI (cn1 σ x f s ∧ ¬ Ex (tix σ x (nI tt)) j))), some (pI (nI j)), u16]) rfl (Nat.le_of_ble_eq_true rfl) ?_
        have J4 : Mw (d9 + 1) b 85 150 [some (pR (some RING)), some (pR (some QW)), some (pR (some QC)), some (pR (some QK)), some (pR (some QM)), some (pI (nI z)), some (pI (nI x)), some (pI (nI tw)), some (pI (nI f)), some (pI (nI s)), some (pI (nI mi)), some (pI (nI tt)), some (pI (nI ws)), some (pI (nI mi + smx σ x (j + 1))), some (pI (bI (cn1 σ x f s ∧ ¬ Ex (tix σ x (nI tt)) j))), some (pI (nI j)), u16] [pI (bI (cn1 σ x f s ∧ ¬ Ex (tix σ x (nI tt)) (j + 1)))] K I R Q := by
          refine mw_istore i_85_150 (ls' := [some (pR (some RING)), some (pR (some QW)), some (pR (some QC)), some (pR (some QK)), some (pR (some QM)), some (pI (nI z)), some (pI (nI x)), some (pI (nI tw)), some (pI (nI f)), some (pI (nI s)), some (pI (nI mi)), some (pI (nI tt)), some (pI (nI ws)), some (pI (nI mi + smx σ x (j + 1))), some (pI (bI (cn1 σ x f s ∧ ¬ Ex (tix σ x (nI tt)) (j + 1)))), some (pI (nI j)), u16]) rfl (Nat.le_of_ble_eq_true rfl) ?_
          refine mw_iinc i_85_151 (x := nI j) (v := nI (j + 1)) (ls' := [some (pR (some RING)), some (pR (some QW)), some (pR (some QC)), some (pR (some QK)), some (pR (some QM)), some (pI (nI z)), some (pI (nI x)), some (pI (nI tw)), some (pI (nI f)), some (pI (nI s)), some (pI (nI mi)), some (pI (nI tt)), some (pI (nI ws)), some (pI (nI mi + smx σ x (j + 1))), some (pI (bI (cn1 σ x f s ∧ ¬ Ex (tix σ x (nI tt)) (j + 1)))), some (pI (nI (j + 1))), u16]) rfl (nI_add _ _) rfl ?_
          refine mw_goto i_85_152 ?_
          exact ih (j + 1) _ (by omega) (by omega)
        refine mw_iload i_85_128 (x := bI (cn1 σ x f s ∧ ¬ Ex (tix σ x (nI tt)) j)) rfl ?_
        refine mw_eqB i_85_129 rfl (fun c5 => ?_) (fun c5 => ?_)
        · skip
          refine mw_const i_85_149 (v := nI 0) (by decide) ?_
          exact mw_top (show nI 0 = bI (cn1 σ x f s ∧ ¬ Ex (tix σ x (nI tt)) (j + 1)) from (bI_f (fun h => c5 ⟨h.1, fun e => h.2 (Ex_m e)⟩)).symm) J4
        · skip
          refine mw_iload i_85_130 (x := nI tt) rfl ?_
          refine mw_ifF i_85_131 (Int32.not_lt.mpr (nI_le (Nat.zero_le _) (by omega))) ?_
          refine mw_aload i_85_132 (L := QK) rfl ?_
          refine mw_aload i_85_133 (L := QM) rfl ?_
          refine mw_iload i_85_134 (x := nI x) rfl ?_
          refine mw_callS i_85_135 mf_78 (as := [pR (some QM), pI (nI x)]) (rest := [pR (some QK)]) (d' := d9) (b' := b) (ls0 := [some (pR (some QM)), some (pI (nI x))]) rfl rfl rfl (Nat.le_of_ble_eq_true rfl) rfl rfl rfl ?_
          refine a_slot (by omega) ?_
          refine aft_v ?_
          refine mw_const i_85_136 (v := nI 6) (by decide) ?_
          refine mw_iload i_85_137 (x := nI j) rfl ?_
          refine mw_imul i_85_138 (w := nI (6 * j)) (pk_mul _ _) ?_
          refine mw_iadd i_85_139 (w := nI (18 * (x % 3) + (6 * j))) (nI_add _ _) ?_
          refine mw_const i_85_140 (v := nI 4) (by decide) ?_
          refine mw_iadd i_85_141 (w := nI (18 * (x % 3) + (6 * j) + 4)) (nI_add _ _) ?_
          refine mw_iald i_85_142 (jn := 18 * (x % 3) + (6 * j) + 4) (n := 54) (by omega) (by omega) hQ.2.2.2.2.1 (by decide) (v := (σ 19 (36 * x + 6 * j + 4) + nI 1)) (g5 j (by omega)).2.2.2.2.1 ?_
          refine mw_iload i_85_143 (x := nI tt) rfl ?_
          refine mw_const i_85_144 (v := nI 1) (by decide) ?_
          refine mw_iadd i_85_145 (w := nI (tt + 1)) (nI_add _ _) ?_
          refine mw_ic i_85_146 (p := (σ 19 (36 * x + 6 * j + 4) + nI 1) = (nI (tt + 1))) Iff.rfl (fun c6 => ?_) (fun c6 => ?_)
          · skip
            refine mw_const i_85_149 (v := nI 0) (by decide) ?_
            exact mw_top (show nI 0 = bI (cn1 σ x f s ∧ ¬ Ex (tix σ x (nI tt)) (j + 1)) from (bI_f (fun h => h.2 ⟨j, by omega, (tix_2 htt).mpr c6⟩)).symm) J4
          · skip
            refine mw_const i_85_147 (v := nI 1) (by decide) ?_
            refine mw_goto i_85_148 ?_
            exact mw_top (show nI 1 = bI (cn1 σ x f s ∧ ¬ Ex (tix σ x (nI tt)) (j + 1)) from (bI_t (⟨c5.1, Ex_s c5.2 (fun h => c6 ((tix_2 htt).mp h))⟩)).symm) J4
theorem stk_no {σ : ST} {f s tt : Nat} (hch : chO σ tt = (-1) ∨ ∃ w, w < 7 ∧ chO σ tt = nI w) (ht : tt < 4) (h1 : ¬ chO σ tt < nI 0) (h2 : ¬ chO σ tt = nI f) (h3 : ¬ chO σ tt = nI s) : ¬ stk σ (nI tt) f s := fun h => by
  rcases h with h | ⟨t, ht2, e, h⟩
  · have := congrArg Int32.toInt h
    rw [nI_toInt (by omega)] at this
    revert this
    show ¬ ((tt : Int) = -1)
    omega
  · obtain rfl := nI_inj e (by omega) (by omega)
    rcases h with h | h | h
    · exact h1 (by rw [h]; decide)
    · exact h2 h
    · exact h3 h
set_option maxRecDepth 20000 in
set_option maxHeartbeats 1000000 in
theorem c_isBooked {d b : Nat} {K : KM} {I : IM} {R : RM} {Q : QT} {L n z : Nat} {σ : ST} (hd : 20 ≤ d) (hW9 : WQ L n σ K I R) (hn : n < 512) (hz : z < 1000000000)  (q : ∀ σ' K' I' R', WQ L (n + 1) σ' K' I' R' → Q (.inl (some (pI (nI 1)))) K' I' R') : Mw d (b + 61) N_L_isBooked 0 [some (pR (some RING)), some (pR (some QW)), some (pR (some QC)), some (pR (some QK)), some (pR (some QM)), some (pI (nI z)), none, none, none, none, none, none, none, none, none, none, none] [] K I R Q := by
  obtain ⟨d9, rfl⟩ : ∃ d9, d = d9 + 1 := ⟨d - 1, by omega⟩
  obtain ⟨hW, hL, hQ, hK0⟩ := hW9
  have hV := hW.2.2
  have hdd9 := hV.2.2.1.2
  have h10 := hL.2.2.2.2.2.2.2.2.2.1
  have hd0 := hV.2.2.1.1
  have hdn := hL.2.2.2.2.2.2.2.2.2.2.2
  obtain ⟨x, ex9⟩ : ∃ x, x = dn σ + z % 3 := ⟨_, rfl⟩
  have hx1 : dn σ ≤ x := by omega
  have hx2 : x < dn σ + 3 := by omega
  obtain ⟨f, ef9⟩ : ∃ f, f = z / 12 % 7 := ⟨_, rfl⟩
  obtain ⟨s, es9⟩ : ∃ s, s = (f + 1 + z / 84 % 6) % 7 := ⟨_, rfl⟩
  have hf7 : f < 7 := by omega
  have hs7 : s < 7 := by omega
  have hfs : ¬ f = s := by omega
  obtain ⟨mi, emi⟩ : ∃ mi, mi = 1 + z / 504 % 50 := ⟨_, rfl⟩
  have hmi : 1 ≤ mi ∧ mi ≤ 50 := by omega
  obtain ⟨ti, eti⟩ : ∃ ti, ti = nI (z / 25200 % 3) - nI 1 := ⟨_, rfl⟩
  have hti : ti = (-1) ∨ ∃ tt, tt < 2 ∧ ti = nI tt := by
    rcases (show z / 25200 % 3 = 0 ∨ z / 25200 % 3 = 1 ∨ z / 25200 % 3 = 2 by omega) with h | h | h
    · left; rw [eti, h]; decide
    · right; exact ⟨0, by decide, by rw [eti, h]; decide⟩
    · right; exact ⟨1, by decide, by rw [eti, h]; decide⟩
  obtain ⟨ws, ews⟩ : ∃ ws, ws = z / 75600 % 2 := ⟨_, rfl⟩
  obtain ⟨g1, g2, g3, g4, g5⟩ := LR_card hL (x := x) hx1 hx2
  have hc4 := (hV.2.2.2.2.2.1 x (by omega)).2.2.2.1
  obtain ⟨tw, htw4, htw1, htw0⟩ : ∃ tw, tw < 4 ∧ (mn σ x ≠ 0 → σ 21 x = nI tw) ∧ (mn σ x = 0 → tw = z / 3 % 4) := by
    by_cases h : mn σ x = 0
    · exact ⟨z / 3 % 4, by omega, fun q => absurd h q, fun _ => rfl⟩
    · obtain ⟨t, ht, et⟩ := hc4 h
      exact ⟨t, ht, fun _ => et, fun q => absurd q h⟩
  refine mw_aload i_85_0 (L := QM) rfl ?_
  refine mw_const i_85_1 (v := nI 0) (by decide) ?_
  refine mw_iald i_85_2 (jn := 0) (n := 18) (by omega) (by omega) hQ.2.2.2.2.2 (by decide) (v := nI (dn σ)) (hL.2.2.2.2.1.trans hd0) ?_
  refine mw_iload i_85_3 (x := nI z) rfl ?_
  refine mw_const i_85_4 (v := nI 3) (by decide) ?_
  refine mw_irem i_85_5 (by decide) (w := nI (z % 3)) (pk_rem (by omega) (by omega) (by omega)) ?_
  refine mw_iadd i_85_6 (w := nI x) (by rw [ex9]; exact nI_add _ _) ?_
  refine mw_istore i_85_7 (ls' := [some (pR (some RING)), some (pR (some QW)), some (pR (some QC)), some (pR (some QK)), some (pR (some QM)), some (pI (nI z)), some (pI (nI x)), none, none, none, none, none, none, none, none, none, none]) rfl (Nat.le_of_ble_eq_true rfl) ?_
  have J1 : Mw (d9 + 1) (b + 61) 85 25 [some (pR (some RING)), some (pR (some QW)), some (pR (some QC)), some (pR (some QK)), some (pR (some QM)), some (pI (nI z)), some (pI (nI x)), none, none, none, none, none, none, none, none, none, none] [pI (nI tw)] K I R Q := by
    refine mw_istore i_85_25 (ls' := [some (pR (some RING)), some (pR (some QW)), some (pR (some QC)), some (pR (some QK)), some (pR (some QM)), some (pI (nI z)), some (pI (nI x)), some (pI (nI tw)), none, none, none, none, none, none, none, none, none]) rfl (Nat.le_of_ble_eq_true rfl) ?_
    refine mw_iload i_85_26 (x := nI z) rfl ?_
    refine mw_const i_85_27 (v := nI 12) (by decide) ?_
    refine mw_idiv i_85_28 (by decide) (w := nI (z / 12)) (pk_div (by omega) (by omega) (by omega)) ?_
    refine mw_const i_85_29 (v := nI 7) (by decide) ?_
    refine mw_irem i_85_30 (by decide) (w := nI f) (by rw [ef9]; exact pk_rem (by omega) (by decide) (by decide)) ?_
    refine mw_istore i_85_31 (ls' := [some (pR (some RING)), some (pR (some QW)), some (pR (some QC)), some (pR (some QK)), some (pR (some QM)), some (pI (nI z)), some (pI (nI x)), some (pI (nI tw)), some (pI (nI f)), none, none, none, none, none, none, none, none]) rfl (Nat.le_of_ble_eq_true rfl) ?_
    refine mw_iload i_85_32 (x := nI f) rfl ?_
    refine mw_const i_85_33 (v := nI 1) (by decide) ?_
    refine mw_iadd i_85_34 (w := nI (f + 1)) (nI_add _ _) ?_
    refine mw_iload i_85_35 (x := nI z) rfl ?_
    refine mw_const i_85_36 (v := nI 84) (by decide) ?_
    refine mw_idiv i_85_37 (by decide) (w := nI (z / 84)) (pk_div (by omega) (by omega) (by omega)) ?_
    refine mw_const i_85_38 (v := nI 6) (by decide) ?_
    refine mw_irem i_85_39 (by decide) (w := nI ((z / 84) % 6)) (pk_rem (by omega) (by omega) (by omega)) ?_
    refine mw_iadd i_85_40 (w := nI (f + 1 + ((z / 84) % 6))) (nI_add _ _) ?_
    refine mw_const i_85_41 (v := nI 7) (by decide) ?_
    refine mw_irem i_85_42 (by decide) (w := nI s) (by rw [es9]; exact pk_rem (by omega) (by decide) (by decide)) ?_
    refine mw_istore i_85_43 (ls' := [some (pR (some RING)), some (pR (some QW)), some (pR (some QC)), some (pR (some QK)), some (pR (some QM)), some (pI (nI z)), some (pI (nI x)), some (pI (nI tw)), some (pI (nI f)), some (pI (nI s)), none, none, none, none, none, none, none]) rfl (Nat.le_of_ble_eq_true rfl) ?_
    refine mw_const i_85_44 (v := nI 1) (by decide) ?_
    refine mw_iload i_85_45 (x := nI z) rfl ?_
    refine mw_const i_85_46 (v := nI 504) (by decide) ?_
    refine mw_idiv i_85_47 (by decide) (w := nI (z / 504)) (pk_div (by omega) (by omega) (by omega)) ?_
    refine mw_const i_85_48 (v := nI 50) (by decide) ?_
    refine mw_irem i_85_49 (by decide) (w := nI ((z / 504) % 50)) (pk_rem (by omega) (by omega) (by omega)) ?_
    refine mw_iadd i_85_50 (w := nI mi) (by rw [emi]; exact nI_add _ _) ?_
    refine mw_istore i_85_51 (ls' := [some (pR (some RING)), some (pR (some QW)), some (pR (some QC)), some (pR (some QK)), some (pR (some QM)), some (pI (nI z)), some (pI (nI x)), some (pI (nI tw)), some (pI (nI f)), some (pI (nI s)), some (pI (nI mi)), none, none, none, none, none, none]) rfl (Nat.le_of_ble_eq_true rfl) ?_
    refine mw_iload i_85_52 (x := nI z) rfl ?_
    refine mw_const i_85_53 (v := nI 25200) (by decide) ?_
    refine mw_idiv i_85_54 (by decide) (w := nI (z / 25200)) (pk_div (by omega) (by omega) (by omega)) ?_
    refine mw_const i_85_55 (v := nI 3) (by decide) ?_
    refine mw_irem i_85_56 (by decide) (w := nI ((z / 25200) % 3)) (pk_rem (by omega) (by omega) (by omega)) ?_
    refine mw_const i_85_57 (v := nI 1) (by decide) ?_
    refine mw_isub i_85_58 (w := ti) eti.symm ?_
    refine mw_istore i_85_59 (ls' := [some (pR (some RING)), some (pR (some QW)), some (pR (some QC)), some (pR (some QK)), some (pR (some QM)), some (pI (nI z)), some (pI (nI x)), some (pI (nI tw)), some (pI (nI f)), some (pI (nI s)), some (pI (nI mi)), some (pI ti), none, none, none, none, none]) rfl (Nat.le_of_ble_eq_true rfl) ?_
    refine mw_iload i_85_60 (x := nI z) rfl ?_
    refine mw_const i_85_61 (v := nI 75600) (by decide) ?_
    refine mw_idiv i_85_62 (by decide) (w := nI (z / 75600)) (pk_div (by omega) (by omega) (by omega)) ?_
    refine mw_const i_85_63 (v := nI 2) (by decide) ?_
    refine mw_irem i_85_64 (by decide) (w := nI ws) (by rw [ews]; exact pk_rem (by omega) (by decide) (by decide)) ?_
    refine mw_istore i_85_65 (ls' := [some (pR (some RING)), some (pR (some QW)), some (pR (some QC)), some (pR (some QK)), some (pR (some QM)), some (pI (nI z)), some (pI (nI x)), some (pI (nI tw)), some (pI (nI f)), some (pI (nI s)), some (pI (nI mi)), some (pI ti), some (pI (nI ws)), none, none, none, none]) rfl (Nat.le_of_ble_eq_true rfl) ?_
    refine mw_iload i_85_66 (x := nI mi) rfl ?_
    refine mw_istore i_85_67 (ls' := [some (pR (some RING)), some (pR (some QW)), some (pR (some QC)), some (pR (some QK)), some (pR (some QM)), some (pI (nI z)), some (pI (nI x)), some (pI (nI tw)), some (pI (nI f)), some (pI (nI s)), some (pI (nI mi)), some (pI ti), some (pI (nI ws)), some (pI (nI mi)), none, none, none]) rfl (Nat.le_of_ble_eq_true rfl) ?_
    have J2 : Mw (d9 + 1) (b + 61) 85 106 [some (pR (some RING)), some (pR (some QW)), some (pR (some QC)), some (pR (some QK)), some (pR (some QM)), some (pI (nI z)), some (pI (nI x)), some (pI (nI tw)), some (pI (nI f)), some (pI (nI s)), some (pI (nI mi)), some (pI ti), some (pI (nI ws)), some (pI (nI mi)), none, none, none] [pI (bI (cn1 σ x f s))] K I R Q := by
      refine mw_istore i_85_106 (ls' := [some (pR (some RING)), some (pR (some QW)), some (pR (some QC)), some (pR (some QK)), some (pR (some QM)), some (pI (nI z)), some (pI (nI x)), some (pI (nI tw)), some (pI (nI f)), some (pI (nI s)), some (pI (nI mi)), some (pI ti), some (pI (nI ws)), some (pI (nI mi)), some (pI (bI (cn1 σ x f s))), none, none]) rfl (Nat.le_of_ble_eq_true rfl) ?_
      refine mw_const i_85_107 (v := nI 0) (by decide) ?_
      refine mw_istore i_85_108 (ls' := [some (pR (some RING)), some (pR (some QW)), some (pR (some QC)), some (pR (some QK)), some (pR (some QM)), some (pI (nI z)), some (pI (nI x)), some (pI (nI tw)), some (pI (nI f)), some (pI (nI s)), some (pI (nI mi)), some (pI ti), some (pI (nI ws)), some (pI (nI mi)), some (pI (bI (cn1 σ x f s))), some (pI (nI 0)), none]) rfl (Nat.le_of_ble_eq_true rfl) ?_
      have hlp := fun q9 => c_bk_lp (d := d9 + 1) (b := b + 61) (K := K) (I := I) (R := R) (Q := Q) (nn := n) (n0 := n) (z := z) (tw := tw) (f := f) (s := s) (mi := mi) (ws := ws) (by omega) hQ hL hV hx1 hx2 (by omega) hti q9 (mn σ x + 1) 0 none (by omega) (by omega)
      rw [show nI mi + smx σ x 0 = nI mi from add0 _, bI_congr (show (cn1 σ x f s ∧ ¬ Ex (tix σ x ti) 0) ↔ cn1 σ x f s from ⟨fun h => h.1, fun h => ⟨h, Ex_0⟩⟩)] at hlp
      refine hlp (fun u16 => ?_)
      rcases (show ws = 0 ∨ ws = 1 by omega) with hws | hws
      · skip
        rw [hws]
        have hti9 : ti = (-1) ∨ isN ti (tn σ) := hti.elim Or.inl (fun ⟨t, h1, h2⟩ => Or.inr ⟨t, by rw [hL.2.2.2.2.2.2.2.2.2.2.1]; exact h1, h2⟩)
        clear eti
        rcases hti with rfl | ⟨tt, htt, rfl⟩
        · skip
          refine mw_iload i_85_153 (x := (-1)) rfl ?_
          refine mw_ifF i_85_154 (show ¬ nI 0 ≤ ((-1) : Int32) by decide) ?_
          refine mw_const i_85_155 (v := (-1)) (by decide) ?_
          refine mw_goto i_85_156 ?_
          refine mw_istore i_85_164 (ls' := [some (pR (some RING)), some (pR (some QW)), some (pR (some QC)), some (pR (some QK)), some (pR (some QM)), some (pI (nI z)), some (pI (nI x)), some (pI (nI tw)), some (pI (nI f)), some (pI (nI s)), some (pI (nI mi)), some (pI (-1)), some (pI (nI 0)), some (pI (nI mi + smx σ x (mn σ x))), some (pI (bI (cn1 σ x f s ∧ ¬ Ex (tix σ x (-1)) (mn σ x)))), some (pI (-1)), u16]) rfl (Nat.le_of_ble_eq_true rfl) ?_
          have J3 : Mw (d9 + 1) (b + 61) 85 196 [some (pR (some RING)), some (pR (some QW)), some (pR (some QC)), some (pR (some QK)), some (pR (some QM)), some (pI (nI z)), some (pI (nI x)), some (pI (nI tw)), some (pI (nI f)), some (pI (nI s)), some (pI (nI mi)), some (pI (-1)), some (pI (nI 0)), some (pI (nI mi + smx σ x (mn σ x))), some (pI (bI (cn1 σ x f s ∧ ¬ Ex (tix σ x (-1)) (mn σ x)))), some (pI (-1)), u16] [pI (bI ((cn1 σ x f s ∧ ¬ Ex (tix σ x (-1)) (mn σ x)) ∧ ¬ nI 120 < nI mi + smx σ x (mn σ x) ∧ stk σ (-1) f s ∧ ¬ brd σ s f (nI x)))] K I R Q := by
            refine mw_istore i_85_196 (ls' := [some (pR (some RING)), some (pR (some QW)), some (pR (some QC)), some (pR (some QK)), some (pR (some QM)), some (pI (nI z)), some (pI (nI x)), some (pI (nI tw)), some (pI (nI f)), some (pI (nI s)), some (pI (nI mi)), some (pI (-1)), some (pI (nI 0)), some (pI (nI mi + smx σ x (mn σ x))), some (pI (bI ((cn1 σ x f s ∧ ¬ Ex (tix σ x (-1)) (mn σ x)) ∧ ¬ nI 120 < nI mi + smx σ x (mn σ x) ∧ stk σ (-1) f s ∧ ¬ brd σ s f (nI x)))), some (pI (-1)), u16]) rfl (Nat.le_of_ble_eq_true rfl) ?_
            refine mw_iload i_85_197 (x := bI ((cn1 σ x f s ∧ ¬ Ex (tix σ x (-1)) (mn σ x)) ∧ ¬ nI 120 < nI mi + smx σ x (mn σ x) ∧ stk σ (-1) f s ∧ ¬ brd σ s f (nI x))) rfl ?_
            refine mw_neB i_85_198 rfl (fun c4 => ?_) (fun c4 => ?_)
            · skip
              have hg := c4
              have hm3 : mn σ x < 3 := hg.1.1.2.1
              refine mw_aload i_85_201 (L := QM) rfl ?_
              refine mw_iload i_85_202 (x := nI x) rfl ?_
              refine mw_callS i_85_203 mf_78 (as := [pR (some QM), pI (nI x)]) (rest := []) (d' := d9) (b' := b + 61) (ls0 := [some (pR (some QM)), some (pI (nI x))]) rfl rfl rfl (Nat.le_of_ble_eq_true rfl) rfl rfl rfl ?_
              refine a_slot (by omega) ?_
              refine aft_v ?_
              refine mw_const i_85_204 (v := nI 6) (by decide) ?_
              refine mw_aload i_85_205 (L := QM) rfl ?_
              refine mw_iload i_85_206 (x := nI x) rfl ?_
              refine mw_callS i_85_207 mf_79 (as := [pR (some QM), pI (nI x)]) (rest := [pI (nI 6), pI (nI (18 * (x % 3)))]) (d' := d9) (b' := b + 61) (ls0 := [some (pR (some QM)), some (pI (nI x))]) rfl rfl rfl (Nat.le_of_ble_eq_true rfl) rfl rfl rfl ?_
              refine b_many hQ hL hx1 hx2 (by omega) ?_
              refine aft_v ?_
              refine mw_imul i_85_208 (w := nI (6 * (mn σ x))) (pk_mul _ _) ?_
              refine mw_iadd i_85_209 (w := nI (18 * (x % 3) + (6 * (mn σ x)))) (nI_add _ _) ?_
              refine mw_istore i_85_210 (ls' := [some (pR (some RING)), some (pR (some QW)), some (pR (some QC)), some (pR (some QK)), some (pR (some QM)), some (pI (nI z)), some (pI (nI x)), some (pI (nI tw)), some (pI (nI f)), some (pI (nI s)), some (pI (nI mi)), some (pI (-1)), some (pI (nI 0)), some (pI (nI mi + smx σ x (mn σ x))), some (pI (bI ((cn1 σ x f s ∧ ¬ Ex (tix σ x (-1)) (mn σ x)) ∧ ¬ nI 120 < nI mi + smx σ x (mn σ x) ∧ stk σ (-1) f s ∧ ¬ brd σ s f (nI x)))), some (pI (-1)), some (pI (nI (18 * (x % 3) + (6 * (mn σ x)))))]) rfl (Nat.le_of_ble_eq_true rfl) ?_
              refine mw_aload i_85_211 (L := QK) rfl ?_
              refine mw_iload i_85_212 (x := nI (18 * (x % 3) + (6 * (mn σ x)))) rfl ?_
              refine mw_iload i_85_213 (x := nI f) rfl ?_
              obtain ⟨I25, e25⟩ : ∃ I25, I25 = up2 I QK (18 * (x % 3) + (6 * (mn σ x))) (nI f) := ⟨_, rfl⟩
              refine mw_iast i_85_214 (jn := 18 * (x % 3) + (6 * (mn σ x))) (n := 54) (by omega) (by omega) (x := nI f) hQ.2.2.2.2.1 (I' := I25) e25.symm ?_
              refine mw_aload i_85_215 (L := QK) rfl ?_
              refine mw_iload i_85_216 (x := nI (18 * (x % 3) + (6 * (mn σ x)))) rfl ?_
              refine mw_const i_85_217 (v := nI 1) (by decide) ?_
              refine mw_iadd i_85_218 (w := nI (18 * (x % 3) + (6 * (mn σ x)) + 1)) (nI_add _ _) ?_
              refine mw_iload i_85_219 (x := nI s) rfl ?_
              obtain ⟨I26, e26⟩ : ∃ I26, I26 = up2 I25 QK (18 * (x % 3) + (6 * (mn σ x)) + 1) (nI s) := ⟨_, rfl⟩
              refine mw_iast i_85_220 (jn := 18 * (x % 3) + (6 * (mn σ x)) + 1) (n := 54) (by omega) (by omega) (x := nI s) hQ.2.2.2.2.1 (I' := I26) e26.symm ?_
              refine mw_aload i_85_221 (L := QK) rfl ?_
              refine mw_iload i_85_222 (x := nI (18 * (x % 3) + (6 * (mn σ x)))) rfl ?_
              refine mw_const i_85_223 (v := nI 2) (by decide) ?_
              refine mw_iadd i_85_224 (w := nI (18 * (x % 3) + (6 * (mn σ x)) + 2)) (nI_add _ _) ?_
              refine mw_iload i_85_225 (x := nI 0) rfl ?_
              obtain ⟨I27, e27⟩ : ∃ I27, I27 = up2 I26 QK (18 * (x % 3) + (6 * (mn σ x)) + 2) (nI 0) := ⟨_, rfl⟩
              refine mw_iast i_85_226 (jn := 18 * (x % 3) + (6 * (mn σ x)) + 2) (n := 54) (by omega) (by omega) (x := nI 0) hQ.2.2.2.2.1 (I' := I27) e27.symm ?_
              refine mw_aload i_85_227 (L := QK) rfl ?_
              refine mw_iload i_85_228 (x := nI (18 * (x % 3) + (6 * (mn σ x)))) rfl ?_
              refine mw_const i_85_229 (v := nI 3) (by decide) ?_
              refine mw_iadd i_85_230 (w := nI (18 * (x % 3) + (6 * (mn σ x)) + 3)) (nI_add _ _) ?_
              refine mw_iload i_85_231 (x := nI mi) rfl ?_
              obtain ⟨I28, e28⟩ : ∃ I28, I28 = up2 I27 QK (18 * (x % 3) + (6 * (mn σ x)) + 3) (nI mi) := ⟨_, rfl⟩
              refine mw_iast i_85_232 (jn := 18 * (x % 3) + (6 * (mn σ x)) + 3) (n := 54) (by omega) (by omega) (x := nI mi) hQ.2.2.2.2.1 (I' := I28) e28.symm ?_
              refine mw_aload i_85_233 (L := QK) rfl ?_
              refine mw_iload i_85_234 (x := nI (18 * (x % 3) + (6 * (mn σ x)))) rfl ?_
              refine mw_const i_85_235 (v := nI 4) (by decide) ?_
              refine mw_iadd i_85_236 (w := nI (18 * (x % 3) + (6 * (mn σ x)) + 4)) (nI_add _ _) ?_
              refine mw_iload i_85_237 (x := (-1)) rfl ?_
              refine mw_const i_85_238 (v := nI 1) (by decide) ?_
              refine mw_iadd i_85_239 (w := ((-1) + (nI 1))) rfl ?_
              obtain ⟨I29, e29⟩ : ∃ I29, I29 = up2 I28 QK (18 * (x % 3) + (6 * (mn σ x)) + 4) ((-1) + (nI 1)) := ⟨_, rfl⟩
              refine mw_iast i_85_240 (jn := 18 * (x % 3) + (6 * (mn σ x)) + 4) (n := 54) (by omega) (by omega) (x := ((-1) + (nI 1))) hQ.2.2.2.2.1 (I' := I29) e29.symm ?_
              refine mw_aload i_85_241 (L := QK) rfl ?_
              refine mw_iload i_85_242 (x := nI (18 * (x % 3) + (6 * (mn σ x)))) rfl ?_
              refine mw_const i_85_243 (v := nI 5) (by decide) ?_
              refine mw_iadd i_85_244 (w := nI (18 * (x % 3) + (6 * (mn σ x)) + 5)) (nI_add _ _) ?_
              refine mw_const i_85_245 (v := nI 0) (by decide) ?_
              obtain ⟨I30, e30⟩ : ∃ I30, I30 = up2 I29 QK (18 * (x % 3) + (6 * (mn σ x)) + 5) (nI 0) := ⟨_, rfl⟩
              refine mw_iast i_85_246 (jn := 18 * (x % 3) + (6 * (mn σ x)) + 5) (n := 54) (by omega) (by omega) (x := nI 0) hQ.2.2.2.2.1 (I' := I30) e30.symm ?_
              refine mw_aload i_85_247 (L := QM) rfl ?_
              refine mw_const i_85_248 (v := nI 4) (by decide) ?_
              refine mw_iload i_85_249 (x := nI x) rfl ?_
              refine mw_const i_85_250 (v := nI 3) (by decide) ?_
              refine mw_irem i_85_251 (by decide) (w := nI (x % 3)) (pk_rem (by omega) (by omega) (by omega)) ?_
              refine mw_iadd i_85_252 (w := nI (4 + (x % 3))) (nI_add _ _) ?_
              refine mw_iload i_85_253 (x := nI tw) rfl ?_
              obtain ⟨I31, e31⟩ : ∃ I31, I31 = up2 I30 QM (4 + (x % 3)) (nI tw) := ⟨_, rfl⟩
              refine mw_iast i_85_254 (jn := 4 + (x % 3)) (n := 18) (by omega) (by omega) (x := nI tw) hQ.2.2.2.2.2 (I' := I31) e31.symm ?_
              refine mw_aload i_85_255 (L := QM) rfl ?_
              refine mw_const i_85_256 (v := nI 1) (by decide) ?_
              refine mw_iload i_85_257 (x := nI x) rfl ?_
              refine mw_const i_85_258 (v := nI 3) (by decide) ?_
              refine mw_irem i_85_259 (by decide) (w := nI (x % 3)) (pk_rem (by omega) (by omega) (by omega)) ?_
              refine mw_iadd i_85_260 (w := nI (1 + (x % 3))) (nI_add _ _) ?_
              refine mw_dup2 i_85_261 trivial trivial ?_
              refine mw_iald i_85_262 (jn := 1 + (x % 3)) (n := 18) (by omega) (by omega) hQ.2.2.2.2.2 (by decide) (v := nI (mn σ x)) (by rw [e31, up2_at, upd_ne (by omega), e30, up2_ne (by decide), e29, up2_ne (by decide), e28, up2_ne (by decide), e27, up2_ne (by decide), e26, up2_ne (by decide), e25, up2_ne (by decide)]; exact g1) ?_
              refine mw_const i_85_263 (v := nI 1) (by decide) ?_
              refine mw_iadd i_85_264 (w := nI (mn σ x + 1)) (nI_add _ _) ?_
              obtain ⟨I32, e32⟩ : ∃ I32, I32 = up2 I31 QM (1 + (x % 3)) (nI (mn σ x + 1)) := ⟨_, rfl⟩
              refine mw_iast i_85_265 (jn := 1 + (x % 3)) (n := 18) (by omega) (by omega) (x := nI (mn σ x + 1)) hQ.2.2.2.2.2 (I' := I32) e32.symm ?_
              have hLb : LR n (bkS σ x tw f s (True) (nI mi) (-1)) I32 := by rw [e32, e31, e30, e29, e28, e27, e26, e25]; exact LR_bk hL hx1 hx2 hm3 ((bI_f (fun h => h trivial)).symm)
              refine mw_aload i_85_266 (L := RING) rfl ?_
              refine mw_iload i_85_267 (x := nI x) rfl ?_
              refine mw_iload i_85_268 (x := nI tw) rfl ?_
              refine mw_iload i_85_269 (x := nI f) rfl ?_
              refine mw_iload i_85_270 (x := nI s) rfl ?_
              refine mw_iload i_85_271 (x := nI 0) rfl ?_
              refine mw_ifF i_85_272 (show ¬ (¬ nI 0 = 0) by decide) ?_
              refine mw_const i_85_273 (v := nI 1) (by decide) ?_
              refine mw_goto i_85_274 ?_
              refine mw_iload i_85_276 (x := nI mi) rfl ?_
              refine mw_iload i_85_277 (x := (-1)) rfl ?_
              have hW1 : CW n σ K I32 R := CW_Q hW (show FrQ I I32 from by rw [e32]; exact FrQ_up (show FrQ I I31 from by rw [e31]; exact FrQ_up (show FrQ I I30 from by rw [e30]; exact FrQ_up (show FrQ I I29 from by rw [e29]; exact FrQ_up (show FrQ I I28 from by rw [e28]; exact FrQ_up (show FrQ I I27 from by rw [e27]; exact FrQ_up (show FrQ I I26 from by rw [e26]; exact FrQ_up (show FrQ I I25 from by rw [e25]; exact FrQ_up FrQ_rfl rfl) rfl) rfl) rfl) rfl) rfl) rfl) rfl)
              have hA9 : bkA σ x tw f s (nI mi) (-1) := ⟨⟨hg.1.1.1, by have := hg.1.1.2.1; omega, by have := Int32.not_lt.mp hg.2.1; rw [Int32.add_comm] at this; exact this, (Nat.eq_zero_or_pos (mn σ x)).elim Or.inl (fun h => Or.inr (htw1 (by omega)))⟩, hg.1.1.2.2.1, hg.1.1.2.2.2.1, hg.1.2⟩
              have hB9 : bkB σ x f s (True) (-1) := ⟨hg.1.1.2.2.2.2.1, hg.1.1.2.2.2.2.2, hg.2.2.1, fun _ => hg.2.2.2, fun h => absurd trivial h⟩
              refine mw_callV i_85_278 mf_37 (as := [pI (nI x), pI (nI tw), pI (nI f), pI (nI s), pI (nI 1), pI (nI mi), pI (-1)]) (rest := []) (d' := d9) (b' := b) (ls0 := [some (pR (some RING)), some (pI (nI x)), some (pI (nI tw)), some (pI (nI f)), some (pI (nI s)), some (pI (nI 1)), some (pI (nI mi)), some (pI (-1)), none, none, none, none]) rfl rfl rfl (Nat.le_of_ble_eq_true rfl) hW.1.1.1.1 rfl (by omega) rfl ?_
              refine b_book (pb := True) (by omega) hW1 (bI_t trivial).symm htw4 (by omega) (by omega) hti9 hx1 (by omega) ⟨nI_le hmi.1 (by omega), nI_le (by omega) (by decide)⟩ hfs hA9 hB9 (fun K9 I9 R9 hX9 hKR9 hF9 hR9 => ?_)
              have hQ9 := KQ_K hQ hKR9
              refine aft_v ?_
              refine mw_aload i_85_279 (L := QM) rfl ?_
              refine mw_iload i_85_280 (x := nI x) rfl ?_
              refine mw_callS i_85_281 mf_79 (as := [pR (some QM), pI (nI x)]) (rest := [pI (nI (mn σ x))]) (d' := d9) (b' := b) (ls0 := [some (pR (some QM)), some (pI (nI x))]) rfl rfl rfl (Nat.le_of_ble_eq_true rfl) rfl rfl rfl ?_
              refine a_many hQ9 (by omega) (c := mn σ x + 1) ((congrFun (hF9 QM (by decide)) _).trans (by rw [e32, up2_at, upd_at])) ?_
              refine aft_v ?_
              refine mw_const i_85_282 (v := nI 1) (by decide) ?_
              refine mw_isub i_85_283 (w := nI ((mn σ x + 1) - 1)) (pk_sub (Nat.le_add_left 1 _)) ?_
              refine mw_icF i_85_284 (fun h => h rfl) ?_
              refine mw_const i_85_285 (v := nI 1) (by decide) ?_
              refine mw_goto i_85_286 ?_
              refine mw_iret i_85_288 (x := nI 1) (fun _ => (by decide)) ?_
              exact q _ K9 I9 R9 ⟨⟨hX9, hR9, IV_up (IV_bk hV (by omega) htw4 (by omega) (by omega) hti9 ⟨nI_le hmi.1 (by omega), nI_le (by omega) (by decide)⟩ hfs hg.1.1.1 (by have := hg.1.1.2.1; omega) hg.1.2) (Nat.le_succ n)⟩, LR_n (LR_C0 hLb hF9) (Nat.le_succ n), hQ9, (hKR9 SC0 (by decide)).1.trans hK0⟩
            · skip
              refine mw_const i_85_199 (v := nI 1) (by decide) ?_
              refine mw_iret i_85_200 (x := nI 1) (fun _ => (by decide)) ?_
              exact q σ K I R ⟨CW_up hW, LR_n hL (Nat.le_succ n), hQ, hK0⟩
          refine mw_iload i_85_165 (x := bI (cn1 σ x f s ∧ ¬ Ex (tix σ x (-1)) (mn σ x))) rfl ?_
          refine mw_eqB i_85_166 rfl (fun c14 => ?_) (fun c14 => ?_)
          · skip
            refine mw_const i_85_195 (v := nI 0) (by decide) ?_
            exact mw_top (show nI 0 = bI ((cn1 σ x f s ∧ ¬ Ex (tix σ x (-1)) (mn σ x)) ∧ ¬ nI 120 < nI mi + smx σ x (mn σ x) ∧ stk σ (-1) f s ∧ ¬ brd σ s f (nI x)) from (bI_f (fun h => c14 h.1)).symm) J3
          · skip
            refine mw_iload i_85_167 (x := nI mi + smx σ x (mn σ x)) rfl ?_
            refine mw_const i_85_168 (v := nI 120) (by decide) ?_
            refine mw_ic i_85_169 (p := (nI 120) < (nI mi + smx σ x (mn σ x))) Iff.rfl (fun c15 => ?_) (fun c15 => ?_)
            · skip
              refine mw_const i_85_195 (v := nI 0) (by decide) ?_
              exact mw_top (show nI 0 = bI ((cn1 σ x f s ∧ ¬ Ex (tix σ x (-1)) (mn σ x)) ∧ ¬ nI 120 < nI mi + smx σ x (mn σ x) ∧ stk σ (-1) f s ∧ ¬ brd σ s f (nI x)) from (bI_f (fun h => h.2.1 c15)).symm) J3
            · skip
              have hz1 := c14
              have hz2 := c15
              have J16 : stk σ (-1) f s → Mw (d9 + 1) (b + 61) 85 178 [some (pR (some RING)), some (pR (some QW)), some (pR (some QC)), some (pR (some QK)), some (pR (some QM)), some (pI (nI z)), some (pI (nI x)), some (pI (nI tw)), some (pI (nI f)), some (pI (nI s)), some (pI (nI mi)), some (pI (-1)), some (pI (nI 0)), some (pI (nI mi + smx σ x (mn σ x))), some (pI (bI (cn1 σ x f s ∧ ¬ Ex (tix σ x (-1)) (mn σ x)))), some (pI (-1)), u16] [] K I R Q := by
                intro hz
                refine mw_aload i_85_178 (L := QW) rfl ?_
                refine mw_aload i_85_179 (L := QC) rfl ?_
                refine mw_iload i_85_180 (x := nI 0) rfl ?_
                refine mw_ifF i_85_181 (show ¬ (¬ nI 0 = 0) by decide) ?_
                refine mw_iload i_85_182 (x := nI s) rfl ?_
                refine mw_goto i_85_183 ?_
                refine mw_iload i_85_185 (x := nI 0) rfl ?_
                refine mw_ifF i_85_186 (show ¬ (¬ nI 0 = 0) by decide) ?_
                refine mw_iload i_85_187 (x := nI f) rfl ?_
                refine mw_goto i_85_188 ?_
                refine mw_iload i_85_190 (x := nI x) rfl ?_
                refine mw_callS i_85_191 mf_82 (as := [pR (some QW), pR (some QC), pI (nI s), pI (nI f), pI (nI x)]) (rest := []) (d' := d9) (b' := b + 61) (ls0 := [some (pR (some QW)), some (pR (some QC)), some (pI (nI s)), some (pI (nI f)), some (pI (nI x))]) rfl rfl rfl (Nat.le_of_ble_eq_true rfl) rfl rfl rfl ?_
                refine b_isBarred hQ hL hV (by omega) (by omega) (by omega) ?_
                refine aft_v ?_
                refine mw_neB i_85_192 rfl (fun c17 => ?_) (fun c17 => ?_)
                · skip
                  refine mw_const i_85_195 (v := nI 0) (by decide) ?_
                  exact mw_top (show nI 0 = bI ((cn1 σ x f s ∧ ¬ Ex (tix σ x (-1)) (mn σ x)) ∧ ¬ nI 120 < nI mi + smx σ x (mn σ x) ∧ stk σ (-1) f s ∧ ¬ brd σ s f (nI x)) from (bI_f (fun h => h.2.2.2 c17)).symm) J3
                · skip
                  refine mw_const i_85_193 (v := nI 1) (by decide) ?_
                  refine mw_goto i_85_194 ?_
                  exact mw_top (show nI 1 = bI ((cn1 σ x f s ∧ ¬ Ex (tix σ x (-1)) (mn σ x)) ∧ ¬ nI 120 < nI mi + smx σ x (mn σ x) ∧ stk σ (-1) f s ∧ ¬ brd σ s f (nI x)) from (bI_t (⟨hz1, hz2, hz, c17⟩)).symm) J3
              refine mw_iload i_85_170 (x := (-1)) rfl ?_
              refine mw_ifT i_85_171 (show ((-1) : Int32) < nI 0 by decide) ?_
              exact J16 (Or.inl rfl)
        · skip
          have hch := (hL.2.2.2.2.2.2.2.1 tt htt).2.2
          refine mw_iload i_85_153 (x := nI tt) rfl ?_
          refine mw_ifT i_85_154 (nI_le (Nat.zero_le _) (by omega)) ?_
          refine mw_aload i_85_157 (L := QM) rfl ?_
          refine mw_const i_85_158 (v := nI 10) (by decide) ?_
          refine mw_iload i_85_159 (x := nI tt) rfl ?_
          refine mw_iadd i_85_160 (w := nI (10 + tt)) (nI_add _ _) ?_
          refine mw_iald i_85_161 (jn := 10 + tt) (n := 18) (by omega) (by omega) hQ.2.2.2.2.2 (by decide) (v := (chO σ tt + nI 1)) (hL.2.2.2.2.2.2.2.1 tt (by omega)).1 ?_
          refine mw_const i_85_162 (v := nI 1) (by decide) ?_
          refine mw_isub i_85_163 (w := chO σ tt) (Int32.add_sub_cancel _ _) ?_
          refine mw_istore i_85_164 (ls' := [some (pR (some RING)), some (pR (some QW)), some (pR (some QC)), some (pR (some QK)), some (pR (some QM)), some (pI (nI z)), some (pI (nI x)), some (pI (nI tw)), some (pI (nI f)), some (pI (nI s)), some (pI (nI mi)), some (pI (nI tt)), some (pI (nI 0)), some (pI (nI mi + smx σ x (mn σ x))), some (pI (bI (cn1 σ x f s ∧ ¬ Ex (tix σ x (nI tt)) (mn σ x)))), some (pI (chO σ tt)), u16]) rfl (Nat.le_of_ble_eq_true rfl) ?_
          have J18 : Mw (d9 + 1) (b + 61) 85 196 [some (pR (some RING)), some (pR (some QW)), some (pR (some QC)), some (pR (some QK)), some (pR (some QM)), some (pI (nI z)), some (pI (nI x)), some (pI (nI tw)), some (pI (nI f)), some (pI (nI s)), some (pI (nI mi)), some (pI (nI tt)), some (pI (nI 0)), some (pI (nI mi + smx σ x (mn σ x))), some (pI (bI (cn1 σ x f s ∧ ¬ Ex (tix σ x (nI tt)) (mn σ x)))), some (pI (chO σ tt)), u16] [pI (bI ((cn1 σ x f s ∧ ¬ Ex (tix σ x (nI tt)) (mn σ x)) ∧ ¬ nI 120 < nI mi + smx σ x (mn σ x) ∧ stk σ (nI tt) f s ∧ ¬ brd σ s f (nI x)))] K I R Q := by
            refine mw_istore i_85_196 (ls' := [some (pR (some RING)), some (pR (some QW)), some (pR (some QC)), some (pR (some QK)), some (pR (some QM)), some (pI (nI z)), some (pI (nI x)), some (pI (nI tw)), some (pI (nI f)), some (pI (nI s)), some (pI (nI mi)), some (pI (nI tt)), some (pI (nI 0)), some (pI (nI mi + smx σ x (mn σ x))), some (pI (bI ((cn1 σ x f s ∧ ¬ Ex (tix σ x (nI tt)) (mn σ x)) ∧ ¬ nI 120 < nI mi + smx σ x (mn σ x) ∧ stk σ (nI tt) f s ∧ ¬ brd σ s f (nI x)))), some (pI (chO σ tt)), u16]) rfl (Nat.le_of_ble_eq_true rfl) ?_
            refine mw_iload i_85_197 (x := bI ((cn1 σ x f s ∧ ¬ Ex (tix σ x (nI tt)) (mn σ x)) ∧ ¬ nI 120 < nI mi + smx σ x (mn σ x) ∧ stk σ (nI tt) f s ∧ ¬ brd σ s f (nI x))) rfl ?_
            refine mw_neB i_85_198 rfl (fun c19 => ?_) (fun c19 => ?_)
            · skip
              have hg := c19
              have hm3 : mn σ x < 3 := hg.1.1.2.1
              refine mw_aload i_85_201 (L := QM) rfl ?_
              refine mw_iload i_85_202 (x := nI x) rfl ?_
              refine mw_callS i_85_203 mf_78 (as := [pR (some QM), pI (nI x)]) (rest := []) (d' := d9) (b' := b + 61) (ls0 := [some (pR (some QM)), some (pI (nI x))]) rfl rfl rfl (Nat.le_of_ble_eq_true rfl) rfl rfl rfl ?_
              refine a_slot (by omega) ?_
              refine aft_v ?_
              refine mw_const i_85_204 (v := nI 6) (by decide) ?_
              refine mw_aload i_85_205 (L := QM) rfl ?_
              refine mw_iload i_85_206 (x := nI x) rfl ?_
              refine mw_callS i_85_207 mf_79 (as := [pR (some QM), pI (nI x)]) (rest := [pI (nI 6), pI (nI (18 * (x % 3)))]) (d' := d9) (b' := b + 61) (ls0 := [some (pR (some QM)), some (pI (nI x))]) rfl rfl rfl (Nat.le_of_ble_eq_true rfl) rfl rfl rfl ?_
              refine b_many hQ hL hx1 hx2 (by omega) ?_
              refine aft_v ?_
              refine mw_imul i_85_208 (w := nI (6 * (mn σ x))) (pk_mul _ _) ?_
              refine mw_iadd i_85_209 (w := nI (18 * (x % 3) + (6 * (mn σ x)))) (nI_add _ _) ?_
              refine mw_istore i_85_210 (ls' := [some (pR (some RING)), some (pR (some QW)), some (pR (some QC)), some (pR (some QK)), some (pR (some QM)), some (pI (nI z)), some (pI (nI x)), some (pI (nI tw)), some (pI (nI f)), some (pI (nI s)), some (pI (nI mi)), some (pI (nI tt)), some (pI (nI 0)), some (pI (nI mi + smx σ x (mn σ x))), some (pI (bI ((cn1 σ x f s ∧ ¬ Ex (tix σ x (nI tt)) (mn σ x)) ∧ ¬ nI 120 < nI mi + smx σ x (mn σ x) ∧ stk σ (nI tt) f s ∧ ¬ brd σ s f (nI x)))), some (pI (chO σ tt)), some (pI (nI (18 * (x % 3) + (6 * (mn σ x)))))]) rfl (Nat.le_of_ble_eq_true rfl) ?_
              refine mw_aload i_85_211 (L := QK) rfl ?_
              refine mw_iload i_85_212 (x := nI (18 * (x % 3) + (6 * (mn σ x)))) rfl ?_
              refine mw_iload i_85_213 (x := nI f) rfl ?_
              obtain ⟨I40, e40⟩ : ∃ I40, I40 = up2 I QK (18 * (x % 3) + (6 * (mn σ x))) (nI f) := ⟨_, rfl⟩
              refine mw_iast i_85_214 (jn := 18 * (x % 3) + (6 * (mn σ x))) (n := 54) (by omega) (by omega) (x := nI f) hQ.2.2.2.2.1 (I' := I40) e40.symm ?_
              refine mw_aload i_85_215 (L := QK) rfl ?_
              refine mw_iload i_85_216 (x := nI (18 * (x % 3) + (6 * (mn σ x)))) rfl ?_
              refine mw_const i_85_217 (v := nI 1) (by decide) ?_
              refine mw_iadd i_85_218 (w := nI (18 * (x % 3) + (6 * (mn σ x)) + 1)) (nI_add _ _) ?_
              refine mw_iload i_85_219 (x := nI s) rfl ?_
              obtain ⟨I41, e41⟩ : ∃ I41, I41 = up2 I40 QK (18 * (x % 3) + (6 * (mn σ x)) + 1) (nI s) := ⟨_, rfl⟩
              refine mw_iast i_85_220 (jn := 18 * (x % 3) + (6 * (mn σ x)) + 1) (n := 54) (by omega) (by omega) (x := nI s) hQ.2.2.2.2.1 (I' := I41) e41.symm ?_
              refine mw_aload i_85_221 (L := QK) rfl ?_
              refine mw_iload i_85_222 (x := nI (18 * (x % 3) + (6 * (mn σ x)))) rfl ?_
              refine mw_const i_85_223 (v := nI 2) (by decide) ?_
              refine mw_iadd i_85_224 (w := nI (18 * (x % 3) + (6 * (mn σ x)) + 2)) (nI_add _ _) ?_
              refine mw_iload i_85_225 (x := nI 0) rfl ?_
              obtain ⟨I42, e42⟩ : ∃ I42, I42 = up2 I41 QK (18 * (x % 3) + (6 * (mn σ x)) + 2) (nI 0) := ⟨_, rfl⟩
              refine mw_iast i_85_226 (jn := 18 * (x % 3) + (6 * (mn σ x)) + 2) (n := 54) (by omega) (by omega) (x := nI 0) hQ.2.2.2.2.1 (I' := I42) e42.symm ?_
              refine mw_aload i_85_227 (L := QK) rfl ?_
              refine mw_iload i_85_228 (x := nI (18 * (x % 3) + (6 * (mn σ x)))) rfl ?_
              refine mw_const i_85_229 (v := nI 3) (by decide) ?_
              refine mw_iadd i_85_230 (w := nI (18 * (x % 3) + (6 * (mn σ x)) + 3)) (nI_add _ _) ?_
              refine mw_iload i_85_231 (x := nI mi) rfl ?_
              obtain ⟨I43, e43⟩ : ∃ I43, I43 = up2 I42 QK (18 * (x % 3) + (6 * (mn σ x)) + 3) (nI mi) := ⟨_, rfl⟩
              refine mw_iast i_85_232 (jn := 18 * (x % 3) + (6 * (mn σ x)) + 3) (n := 54) (by omega) (by omega) (x := nI mi) hQ.2.2.2.2.1 (I' := I43) e43.symm ?_
              refine mw_aload i_85_233 (L := QK) rfl ?_
              refine mw_iload i_85_234 (x := nI (18 * (x % 3) + (6 * (mn σ x)))) rfl ?_
              refine mw_const i_85_235 (v := nI 4) (by decide) ?_
              refine mw_iadd i_85_236 (w := nI (18 * (x % 3) + (6 * (mn σ x)) + 4)) (nI_add _ _) ?_
              refine mw_iload i_85_237 (x := nI tt) rfl ?_
              refine mw_const i_85_238 (v := nI 1) (by decide) ?_
              refine mw_iadd i_85_239 (w := nI (tt + 1)) (nI_add _ _) ?_
              obtain ⟨I44, e44⟩ : ∃ I44, I44 = up2 I43 QK (18 * (x % 3) + (6 * (mn σ x)) + 4) (nI (tt + 1)) := ⟨_, rfl⟩
              refine mw_iast i_85_240 (jn := 18 * (x % 3) + (6 * (mn σ x)) + 4) (n := 54) (by omega) (by omega) (x := nI (tt + 1)) hQ.2.2.2.2.1 (I' := I44) e44.symm ?_
              refine mw_aload i_85_241 (L := QK) rfl ?_
              refine mw_iload i_85_242 (x := nI (18 * (x % 3) + (6 * (mn σ x)))) rfl ?_
              refine mw_const i_85_243 (v := nI 5) (by decide) ?_
              refine mw_iadd i_85_244 (w := nI (18 * (x % 3) + (6 * (mn σ x)) + 5)) (nI_add _ _) ?_
              refine mw_const i_85_245 (v := nI 0) (by decide) ?_
              obtain ⟨I45, e45⟩ : ∃ I45, I45 = up2 I44 QK (18 * (x % 3) + (6 * (mn σ x)) + 5) (nI 0) := ⟨_, rfl⟩
              refine mw_iast i_85_246 (jn := 18 * (x % 3) + (6 * (mn σ x)) + 5) (n := 54) (by omega) (by omega) (x := nI 0) hQ.2.2.2.2.1 (I' := I45) e45.symm ?_
              refine mw_aload i_85_247 (L := QM) rfl ?_
              refine mw_const i_85_248 (v := nI 4) (by decide) ?_
              refine mw_iload i_85_249 (x := nI x) rfl ?_
              refine mw_const i_85_250 (v := nI 3) (by decide) ?_
              refine mw_irem i_85_251 (by decide) (w := nI (x % 3)) (pk_rem (by omega) (by omega) (by omega)) ?_
              refine mw_iadd i_85_252 (w := nI (4 + (x % 3))) (nI_add _ _) ?_
              refine mw_iload i_85_253 (x := nI tw) rfl ?_
              obtain ⟨I46, e46⟩ : ∃ I46, I46 = up2 I45 QM (4 + (x % 3)) (nI tw) := ⟨_, rfl⟩
              refine mw_iast i_85_254 (jn := 4 + (x % 3)) (n := 18) (by omega) (by omega) (x := nI tw) hQ.2.2.2.2.2 (I' := I46) e46.symm ?_
              refine mw_aload i_85_255 (L := QM) rfl ?_
              refine mw_const i_85_256 (v := nI 1) (by decide) ?_
              refine mw_iload i_85_257 (x := nI x) rfl ?_
              refine mw_const i_85_258 (v := nI 3) (by decide) ?_
              refine mw_irem i_85_259 (by decide) (w := nI (x % 3)) (pk_rem (by omega) (by omega) (by omega)) ?_
              refine mw_iadd i_85_260 (w := nI (1 + (x % 3))) (nI_add _ _) ?_
              refine mw_dup2 i_85_261 trivial trivial ?_
              refine mw_iald i_85_262 (jn := 1 + (x % 3)) (n := 18) (by omega) (by omega) hQ.2.2.2.2.2 (by decide) (v := nI (mn σ x)) (by rw [e46, up2_at, upd_ne (by omega), e45, up2_ne (by decide), e44, up2_ne (by decide), e43, up2_ne (by decide), e42, up2_ne (by decide), e41, up2_ne (by decide), e40, up2_ne (by decide)]; exact g1) ?_
              refine mw_const i_85_263 (v := nI 1) (by decide) ?_
              refine mw_iadd i_85_264 (w := nI (mn σ x + 1)) (nI_add _ _) ?_
              obtain ⟨I47, e47⟩ : ∃ I47, I47 = up2 I46 QM (1 + (x % 3)) (nI (mn σ x + 1)) := ⟨_, rfl⟩
              refine mw_iast i_85_265 (jn := 1 + (x % 3)) (n := 18) (by omega) (by omega) (x := nI (mn σ x + 1)) hQ.2.2.2.2.2 (I' := I47) e47.symm ?_
              have hLb : LR n (bkS σ x tw f s (True) (nI mi) (nI tt)) I47 := by rw [e47, e46, e45, e44, e43, e42, e41, e40, ← nI_add tt 1]; exact LR_bk hL hx1 hx2 hm3 ((bI_f (fun h => h trivial)).symm)
              refine mw_aload i_85_266 (L := RING) rfl ?_
              refine mw_iload i_85_267 (x := nI x) rfl ?_
              refine mw_iload i_85_268 (x := nI tw) rfl ?_
              refine mw_iload i_85_269 (x := nI f) rfl ?_
              refine mw_iload i_85_270 (x := nI s) rfl ?_
              refine mw_iload i_85_271 (x := nI 0) rfl ?_
              refine mw_ifF i_85_272 (show ¬ (¬ nI 0 = 0) by decide) ?_
              refine mw_const i_85_273 (v := nI 1) (by decide) ?_
              refine mw_goto i_85_274 ?_
              refine mw_iload i_85_276 (x := nI mi) rfl ?_
              refine mw_iload i_85_277 (x := nI tt) rfl ?_
              have hW1 : CW n σ K I47 R := CW_Q hW (show FrQ I I47 from by rw [e47]; exact FrQ_up (show FrQ I I46 from by rw [e46]; exact FrQ_up (show FrQ I I45 from by rw [e45]; exact FrQ_up (show FrQ I I44 from by rw [e44]; exact FrQ_up (show FrQ I I43 from by rw [e43]; exact FrQ_up (show FrQ I I42 from by rw [e42]; exact FrQ_up (show FrQ I I41 from by rw [e41]; exact FrQ_up (show FrQ I I40 from by rw [e40]; exact FrQ_up FrQ_rfl rfl) rfl) rfl) rfl) rfl) rfl) rfl) rfl)
              have hA9 : bkA σ x tw f s (nI mi) (nI tt) := ⟨⟨hg.1.1.1, by have := hg.1.1.2.1; omega, by have := Int32.not_lt.mp hg.2.1; rw [Int32.add_comm] at this; exact this, (Nat.eq_zero_or_pos (mn σ x)).elim Or.inl (fun h => Or.inr (htw1 (by omega)))⟩, hg.1.1.2.2.1, hg.1.1.2.2.2.1, hg.1.2⟩
              have hB9 : bkB σ x f s (True) (nI tt) := ⟨hg.1.1.2.2.2.2.1, hg.1.1.2.2.2.2.2, hg.2.2.1, fun _ => hg.2.2.2, fun h => absurd trivial h⟩
              refine mw_callV i_85_278 mf_37 (as := [pI (nI x), pI (nI tw), pI (nI f), pI (nI s), pI (nI 1), pI (nI mi), pI (nI tt)]) (rest := []) (d' := d9) (b' := b) (ls0 := [some (pR (some RING)), some (pI (nI x)), some (pI (nI tw)), some (pI (nI f)), some (pI (nI s)), some (pI (nI 1)), some (pI (nI mi)), some (pI (nI tt)), none, none, none, none]) rfl rfl rfl (Nat.le_of_ble_eq_true rfl) hW.1.1.1.1 rfl (by omega) rfl ?_
              refine b_book (pb := True) (by omega) hW1 (bI_t trivial).symm htw4 (by omega) (by omega) hti9 hx1 (by omega) ⟨nI_le hmi.1 (by omega), nI_le (by omega) (by decide)⟩ hfs hA9 hB9 (fun K9 I9 R9 hX9 hKR9 hF9 hR9 => ?_)
              have hQ9 := KQ_K hQ hKR9
              refine aft_v ?_
              refine mw_aload i_85_279 (L := QM) rfl ?_
              refine mw_iload i_85_280 (x := nI x) rfl ?_
              refine mw_callS i_85_281 mf_79 (as := [pR (some QM), pI (nI x)]) (rest := [pI (nI (mn σ x))]) (d' := d9) (b' := b) (ls0 := [some (pR (some QM)), some (pI (nI x))]) rfl rfl rfl (Nat.le_of_ble_eq_true rfl) rfl rfl rfl ?_
              refine a_many hQ9 (by omega) (c := mn σ x + 1) ((congrFun (hF9 QM (by decide)) _).trans (by rw [e47, up2_at, upd_at])) ?_
              refine aft_v ?_
              refine mw_const i_85_282 (v := nI 1) (by decide) ?_
              refine mw_isub i_85_283 (w := nI ((mn σ x + 1) - 1)) (pk_sub (Nat.le_add_left 1 _)) ?_
              refine mw_icF i_85_284 (fun h => h rfl) ?_
              refine mw_const i_85_285 (v := nI 1) (by decide) ?_
              refine mw_goto i_85_286 ?_
              refine mw_iret i_85_288 (x := nI 1) (fun _ => (by decide)) ?_
              exact q _ K9 I9 R9 ⟨⟨hX9, hR9, IV_up (IV_bk hV (by omega) htw4 (by omega) (by omega) hti9 ⟨nI_le hmi.1 (by omega), nI_le (by omega) (by decide)⟩ hfs hg.1.1.1 (by have := hg.1.1.2.1; omega) hg.1.2) (Nat.le_succ n)⟩, LR_n (LR_C0 hLb hF9) (Nat.le_succ n), hQ9, (hKR9 SC0 (by decide)).1.trans hK0⟩
            · skip
              refine mw_const i_85_199 (v := nI 1) (by decide) ?_
              refine mw_iret i_85_200 (x := nI 1) (fun _ => (by decide)) ?_
              exact q σ K I R ⟨CW_up hW, LR_n hL (Nat.le_succ n), hQ, hK0⟩
          refine mw_iload i_85_165 (x := bI (cn1 σ x f s ∧ ¬ Ex (tix σ x (nI tt)) (mn σ x))) rfl ?_
          refine mw_eqB i_85_166 rfl (fun c29 => ?_) (fun c29 => ?_)
          · skip
            refine mw_const i_85_195 (v := nI 0) (by decide) ?_
            exact mw_top (show nI 0 = bI ((cn1 σ x f s ∧ ¬ Ex (tix σ x (nI tt)) (mn σ x)) ∧ ¬ nI 120 < nI mi + smx σ x (mn σ x) ∧ stk σ (nI tt) f s ∧ ¬ brd σ s f (nI x)) from (bI_f (fun h => c29 h.1)).symm) J18
          · skip
            refine mw_iload i_85_167 (x := nI mi + smx σ x (mn σ x)) rfl ?_
            refine mw_const i_85_168 (v := nI 120) (by decide) ?_
            refine mw_ic i_85_169 (p := (nI 120) < (nI mi + smx σ x (mn σ x))) Iff.rfl (fun c30 => ?_) (fun c30 => ?_)
            · skip
              refine mw_const i_85_195 (v := nI 0) (by decide) ?_
              exact mw_top (show nI 0 = bI ((cn1 σ x f s ∧ ¬ Ex (tix σ x (nI tt)) (mn σ x)) ∧ ¬ nI 120 < nI mi + smx σ x (mn σ x) ∧ stk σ (nI tt) f s ∧ ¬ brd σ s f (nI x)) from (bI_f (fun h => h.2.1 c30)).symm) J18
            · skip
              have hz1 := c29
              have hz2 := c30
              have J31 : stk σ (nI tt) f s → Mw (d9 + 1) (b + 61) 85 178 [some (pR (some RING)), some (pR (some QW)), some (pR (some QC)), some (pR (some QK)), some (pR (some QM)), some (pI (nI z)), some (pI (nI x)), some (pI (nI tw)), some (pI (nI f)), some (pI (nI s)), some (pI (nI mi)), some (pI (nI tt)), some (pI (nI 0)), some (pI (nI mi + smx σ x (mn σ x))), some (pI (bI (cn1 σ x f s ∧ ¬ Ex (tix σ x (nI tt)) (mn σ x)))), some (pI (chO σ tt)), u16] [] K I R Q := by
                intro hz
                refine mw_aload i_85_178 (L := QW) rfl ?_
                refine mw_aload i_85_179 (L := QC) rfl ?_
                refine mw_iload i_85_180 (x := nI 0) rfl ?_
                refine mw_ifF i_85_181 (show ¬ (¬ nI 0 = 0) by decide) ?_
                refine mw_iload i_85_182 (x := nI s) rfl ?_
                refine mw_goto i_85_183 ?_
                refine mw_iload i_85_185 (x := nI 0) rfl ?_
                refine mw_ifF i_85_186 (show ¬ (¬ nI 0 = 0) by decide) ?_
                refine mw_iload i_85_187 (x := nI f) rfl ?_
                refine mw_goto i_85_188 ?_
                refine mw_iload i_85_190 (x := nI x) rfl ?_
                refine mw_callS i_85_191 mf_82 (as := [pR (some QW), pR (some QC), pI (nI s), pI (nI f), pI (nI x)]) (rest := []) (d' := d9) (b' := b + 61) (ls0 := [some (pR (some QW)), some (pR (some QC)), some (pI (nI s)), some (pI (nI f)), some (pI (nI x))]) rfl rfl rfl (Nat.le_of_ble_eq_true rfl) rfl rfl rfl ?_
                refine b_isBarred hQ hL hV (by omega) (by omega) (by omega) ?_
                refine aft_v ?_
                refine mw_neB i_85_192 rfl (fun c32 => ?_) (fun c32 => ?_)
                · skip
                  refine mw_const i_85_195 (v := nI 0) (by decide) ?_
                  exact mw_top (show nI 0 = bI ((cn1 σ x f s ∧ ¬ Ex (tix σ x (nI tt)) (mn σ x)) ∧ ¬ nI 120 < nI mi + smx σ x (mn σ x) ∧ stk σ (nI tt) f s ∧ ¬ brd σ s f (nI x)) from (bI_f (fun h => h.2.2.2 c32)).symm) J18
                · skip
                  refine mw_const i_85_193 (v := nI 1) (by decide) ?_
                  refine mw_goto i_85_194 ?_
                  exact mw_top (show nI 1 = bI ((cn1 σ x f s ∧ ¬ Ex (tix σ x (nI tt)) (mn σ x)) ∧ ¬ nI 120 < nI mi + smx σ x (mn σ x) ∧ stk σ (nI tt) f s ∧ ¬ brd σ s f (nI x)) from (bI_t (⟨hz1, hz2, hz, c32⟩)).symm) J18
              refine mw_iload i_85_170 (x := chO σ tt) rfl ?_
              refine mw_if i_85_171 (p := (chO σ tt) < nI 0) Iff.rfl (fun c33 => ?_) (fun c33 => ?_)
              · skip
                exact J31 (Or.inr ⟨tt, by omega, rfl, Or.inl (neg_ch hch c33)⟩)
              · skip
                refine mw_iload i_85_172 (x := chO σ tt) rfl ?_
                refine mw_iload i_85_173 (x := nI f) rfl ?_
                refine mw_ic i_85_174 (p := (chO σ tt) = (nI f)) Iff.rfl (fun c34 => ?_) (fun c34 => ?_)
                · skip
                  exact J31 (Or.inr ⟨tt, by omega, rfl, Or.inr (Or.inl c34)⟩)
                · skip
                  refine mw_iload i_85_175 (x := chO σ tt) rfl ?_
                  refine mw_iload i_85_176 (x := nI s) rfl ?_
                  refine mw_ic i_85_177 (p := ¬ (chO σ tt) = (nI s)) Iff.rfl (fun c35 => ?_) (fun c35 => ?_)
                  · skip
                    refine mw_const i_85_195 (v := nI 0) (by decide) ?_
                    exact mw_top (show nI 0 = bI ((cn1 σ x f s ∧ ¬ Ex (tix σ x (nI tt)) (mn σ x)) ∧ ¬ nI 120 < nI mi + smx σ x (mn σ x) ∧ stk σ (nI tt) f s ∧ ¬ brd σ s f (nI x)) from (bI_f (fun h => stk_no hch (by omega) c33 c34 c35 h.2.2.1)).symm) J18
                  · skip
                    exact J31 (Or.inr ⟨tt, by omega, rfl, Or.inr (Or.inr (Classical.not_not.mp c35))⟩)
      · skip
        rw [hws]
        have hti9 : ti = (-1) ∨ isN ti (tn σ) := hti.elim Or.inl (fun ⟨t, h1, h2⟩ => Or.inr ⟨t, by rw [hL.2.2.2.2.2.2.2.2.2.2.1]; exact h1, h2⟩)
        clear eti
        rcases hti with rfl | ⟨tt, htt, rfl⟩
        · skip
          refine mw_iload i_85_153 (x := (-1)) rfl ?_
          refine mw_ifF i_85_154 (show ¬ nI 0 ≤ ((-1) : Int32) by decide) ?_
          refine mw_const i_85_155 (v := (-1)) (by decide) ?_
          refine mw_goto i_85_156 ?_
          refine mw_istore i_85_164 (ls' := [some (pR (some RING)), some (pR (some QW)), some (pR (some QC)), some (pR (some QK)), some (pR (some QM)), some (pI (nI z)), some (pI (nI x)), some (pI (nI tw)), some (pI (nI f)), some (pI (nI s)), some (pI (nI mi)), some (pI (-1)), some (pI (nI 1)), some (pI (nI mi + smx σ x (mn σ x))), some (pI (bI (cn1 σ x f s ∧ ¬ Ex (tix σ x (-1)) (mn σ x)))), some (pI (-1)), u16]) rfl (Nat.le_of_ble_eq_true rfl) ?_
          have J36 : Mw (d9 + 1) (b + 61) 85 196 [some (pR (some RING)), some (pR (some QW)), some (pR (some QC)), some (pR (some QK)), some (pR (some QM)), some (pI (nI z)), some (pI (nI x)), some (pI (nI tw)), some (pI (nI f)), some (pI (nI s)), some (pI (nI mi)), some (pI (-1)), some (pI (nI 1)), some (pI (nI mi + smx σ x (mn σ x))), some (pI (bI (cn1 σ x f s ∧ ¬ Ex (tix σ x (-1)) (mn σ x)))), some (pI (-1)), u16] [pI (bI ((cn1 σ x f s ∧ ¬ Ex (tix σ x (-1)) (mn σ x)) ∧ ¬ nI 120 < nI mi + smx σ x (mn σ x) ∧ stk σ (-1) f s ∧ ¬ brd σ f s (nI x)))] K I R Q := by
            refine mw_istore i_85_196 (ls' := [some (pR (some RING)), some (pR (some QW)), some (pR (some QC)), some (pR (some QK)), some (pR (some QM)), some (pI (nI z)), some (pI (nI x)), some (pI (nI tw)), some (pI (nI f)), some (pI (nI s)), some (pI (nI mi)), some (pI (-1)), some (pI (nI 1)), some (pI (nI mi + smx σ x (mn σ x))), some (pI (bI ((cn1 σ x f s ∧ ¬ Ex (tix σ x (-1)) (mn σ x)) ∧ ¬ nI 120 < nI mi + smx σ x (mn σ x) ∧ stk σ (-1) f s ∧ ¬ brd σ f s (nI x)))), some (pI (-1)), u16]) rfl (Nat.le_of_ble_eq_true rfl) ?_
            refine mw_iload i_85_197 (x := bI ((cn1 σ x f s ∧ ¬ Ex (tix σ x (-1)) (mn σ x)) ∧ ¬ nI 120 < nI mi + smx σ x (mn σ x) ∧ stk σ (-1) f s ∧ ¬ brd σ f s (nI x))) rfl ?_
            refine mw_neB i_85_198 rfl (fun c37 => ?_) (fun c37 => ?_)
            · skip
              have hg := c37
              have hm3 : mn σ x < 3 := hg.1.1.2.1
              refine mw_aload i_85_201 (L := QM) rfl ?_
              refine mw_iload i_85_202 (x := nI x) rfl ?_
              refine mw_callS i_85_203 mf_78 (as := [pR (some QM), pI (nI x)]) (rest := []) (d' := d9) (b' := b + 61) (ls0 := [some (pR (some QM)), some (pI (nI x))]) rfl rfl rfl (Nat.le_of_ble_eq_true rfl) rfl rfl rfl ?_
              refine a_slot (by omega) ?_
              refine aft_v ?_
              refine mw_const i_85_204 (v := nI 6) (by decide) ?_
              refine mw_aload i_85_205 (L := QM) rfl ?_
              refine mw_iload i_85_206 (x := nI x) rfl ?_
              refine mw_callS i_85_207 mf_79 (as := [pR (some QM), pI (nI x)]) (rest := [pI (nI 6), pI (nI (18 * (x % 3)))]) (d' := d9) (b' := b + 61) (ls0 := [some (pR (some QM)), some (pI (nI x))]) rfl rfl rfl (Nat.le_of_ble_eq_true rfl) rfl rfl rfl ?_
              refine b_many hQ hL hx1 hx2 (by omega) ?_
              refine aft_v ?_
              refine mw_imul i_85_208 (w := nI (6 * (mn σ x))) (pk_mul _ _) ?_
              refine mw_iadd i_85_209 (w := nI (18 * (x % 3) + (6 * (mn σ x)))) (nI_add _ _) ?_
              refine mw_istore i_85_210 (ls' := [some (pR (some RING)), some (pR (some QW)), some (pR (some QC)), some (pR (some QK)), some (pR (some QM)), some (pI (nI z)), some (pI (nI x)), some (pI (nI tw)), some (pI (nI f)), some (pI (nI s)), some (pI (nI mi)), some (pI (-1)), some (pI (nI 1)), some (pI (nI mi + smx σ x (mn σ x))), some (pI (bI ((cn1 σ x f s ∧ ¬ Ex (tix σ x (-1)) (mn σ x)) ∧ ¬ nI 120 < nI mi + smx σ x (mn σ x) ∧ stk σ (-1) f s ∧ ¬ brd σ f s (nI x)))), some (pI (-1)), some (pI (nI (18 * (x % 3) + (6 * (mn σ x)))))]) rfl (Nat.le_of_ble_eq_true rfl) ?_
              refine mw_aload i_85_211 (L := QK) rfl ?_
              refine mw_iload i_85_212 (x := nI (18 * (x % 3) + (6 * (mn σ x)))) rfl ?_
              refine mw_iload i_85_213 (x := nI f) rfl ?_
              obtain ⟨I58, e58⟩ : ∃ I58, I58 = up2 I QK (18 * (x % 3) + (6 * (mn σ x))) (nI f) := ⟨_, rfl⟩
              refine mw_iast i_85_214 (jn := 18 * (x % 3) + (6 * (mn σ x))) (n := 54) (by omega) (by omega) (x := nI f) hQ.2.2.2.2.1 (I' := I58) e58.symm ?_
              refine mw_aload i_85_215 (L := QK) rfl ?_
              refine mw_iload i_85_216 (x := nI (18 * (x % 3) + (6 * (mn σ x)))) rfl ?_
              refine mw_const i_85_217 (v := nI 1) (by decide) ?_
              refine mw_iadd i_85_218 (w := nI (18 * (x % 3) + (6 * (mn σ x)) + 1)) (nI_add _ _) ?_
              refine mw_iload i_85_219 (x := nI s) rfl ?_
              obtain ⟨I59, e59⟩ : ∃ I59, I59 = up2 I58 QK (18 * (x % 3) + (6 * (mn σ x)) + 1) (nI s) := ⟨_, rfl⟩
              refine mw_iast i_85_220 (jn := 18 * (x % 3) + (6 * (mn σ x)) + 1) (n := 54) (by omega) (by omega) (x := nI s) hQ.2.2.2.2.1 (I' := I59) e59.symm ?_
              refine mw_aload i_85_221 (L := QK) rfl ?_
              refine mw_iload i_85_222 (x := nI (18 * (x % 3) + (6 * (mn σ x)))) rfl ?_
              refine mw_const i_85_223 (v := nI 2) (by decide) ?_
              refine mw_iadd i_85_224 (w := nI (18 * (x % 3) + (6 * (mn σ x)) + 2)) (nI_add _ _) ?_
              refine mw_iload i_85_225 (x := nI 1) rfl ?_
              obtain ⟨I60, e60⟩ : ∃ I60, I60 = up2 I59 QK (18 * (x % 3) + (6 * (mn σ x)) + 2) (nI 1) := ⟨_, rfl⟩
              refine mw_iast i_85_226 (jn := 18 * (x % 3) + (6 * (mn σ x)) + 2) (n := 54) (by omega) (by omega) (x := nI 1) hQ.2.2.2.2.1 (I' := I60) e60.symm ?_
              refine mw_aload i_85_227 (L := QK) rfl ?_
              refine mw_iload i_85_228 (x := nI (18 * (x % 3) + (6 * (mn σ x)))) rfl ?_
              refine mw_const i_85_229 (v := nI 3) (by decide) ?_
              refine mw_iadd i_85_230 (w := nI (18 * (x % 3) + (6 * (mn σ x)) + 3)) (nI_add _ _) ?_
              refine mw_iload i_85_231 (x := nI mi) rfl ?_
              obtain ⟨I61, e61⟩ : ∃ I61, I61 = up2 I60 QK (18 * (x % 3) + (6 * (mn σ x)) + 3) (nI mi) := ⟨_, rfl⟩
              refine mw_iast i_85_232 (jn := 18 * (x % 3) + (6 * (mn σ x)) + 3) (n := 54) (by omega) (by omega) (x := nI mi) hQ.2.2.2.2.1 (I' := I61) e61.symm ?_
              refine mw_aload i_85_233 (L := QK) rfl ?_
              refine mw_iload i_85_234 (x := nI (18 * (x % 3) + (6 * (mn σ x)))) rfl ?_
              refine mw_const i_85_235 (v := nI 4) (by decide) ?_
              refine mw_iadd i_85_236 (w := nI (18 * (x % 3) + (6 * (mn σ x)) + 4)) (nI_add _ _) ?_
              refine mw_iload i_85_237 (x := (-1)) rfl ?_
              refine mw_const i_85_238 (v := nI 1) (by decide) ?_
              refine mw_iadd i_85_239 (w := ((-1) + (nI 1))) rfl ?_
              obtain ⟨I62, e62⟩ : ∃ I62, I62 = up2 I61 QK (18 * (x % 3) + (6 * (mn σ x)) + 4) ((-1) + (nI 1)) := ⟨_, rfl⟩
              refine mw_iast i_85_240 (jn := 18 * (x % 3) + (6 * (mn σ x)) + 4) (n := 54) (by omega) (by omega) (x := ((-1) + (nI 1))) hQ.2.2.2.2.1 (I' := I62) e62.symm ?_
              refine mw_aload i_85_241 (L := QK) rfl ?_
              refine mw_iload i_85_242 (x := nI (18 * (x % 3) + (6 * (mn σ x)))) rfl ?_
              refine mw_const i_85_243 (v := nI 5) (by decide) ?_
              refine mw_iadd i_85_244 (w := nI (18 * (x % 3) + (6 * (mn σ x)) + 5)) (nI_add _ _) ?_
              refine mw_const i_85_245 (v := nI 0) (by decide) ?_
              obtain ⟨I63, e63⟩ : ∃ I63, I63 = up2 I62 QK (18 * (x % 3) + (6 * (mn σ x)) + 5) (nI 0) := ⟨_, rfl⟩
              refine mw_iast i_85_246 (jn := 18 * (x % 3) + (6 * (mn σ x)) + 5) (n := 54) (by omega) (by omega) (x := nI 0) hQ.2.2.2.2.1 (I' := I63) e63.symm ?_
              refine mw_aload i_85_247 (L := QM) rfl ?_
              refine mw_const i_85_248 (v := nI 4) (by decide) ?_
              refine mw_iload i_85_249 (x := nI x) rfl ?_
              refine mw_const i_85_250 (v := nI 3) (by decide) ?_
              refine mw_irem i_85_251 (by decide) (w := nI (x % 3)) (pk_rem (by omega) (by omega) (by omega)) ?_
              refine mw_iadd i_85_252 (w := nI (4 + (x % 3))) (nI_add _ _) ?_
              refine mw_iload i_85_253 (x := nI tw) rfl ?_
              obtain ⟨I64, e64⟩ : ∃ I64, I64 = up2 I63 QM (4 + (x % 3)) (nI tw) := ⟨_, rfl⟩
              refine mw_iast i_85_254 (jn := 4 + (x % 3)) (n := 18) (by omega) (by omega) (x := nI tw) hQ.2.2.2.2.2 (I' := I64) e64.symm ?_
              refine mw_aload i_85_255 (L := QM) rfl ?_
              refine mw_const i_85_256 (v := nI 1) (by decide) ?_
              refine mw_iload i_85_257 (x := nI x) rfl ?_
              refine mw_const i_85_258 (v := nI 3) (by decide) ?_
              refine mw_irem i_85_259 (by decide) (w := nI (x % 3)) (pk_rem (by omega) (by omega) (by omega)) ?_
              refine mw_iadd i_85_260 (w := nI (1 + (x % 3))) (nI_add _ _) ?_
              refine mw_dup2 i_85_261 trivial trivial ?_
              refine mw_iald i_85_262 (jn := 1 + (x % 3)) (n := 18) (by omega) (by omega) hQ.2.2.2.2.2 (by decide) (v := nI (mn σ x)) (by rw [e64, up2_at, upd_ne (by omega), e63, up2_ne (by decide), e62, up2_ne (by decide), e61, up2_ne (by decide), e60, up2_ne (by decide), e59, up2_ne (by decide), e58, up2_ne (by decide)]; exact g1) ?_
              refine mw_const i_85_263 (v := nI 1) (by decide) ?_
              refine mw_iadd i_85_264 (w := nI (mn σ x + 1)) (nI_add _ _) ?_
              obtain ⟨I65, e65⟩ : ∃ I65, I65 = up2 I64 QM (1 + (x % 3)) (nI (mn σ x + 1)) := ⟨_, rfl⟩
              refine mw_iast i_85_265 (jn := 1 + (x % 3)) (n := 18) (by omega) (by omega) (x := nI (mn σ x + 1)) hQ.2.2.2.2.2 (I' := I65) e65.symm ?_
              have hLb : LR n (bkS σ x tw f s (False) (nI mi) (-1)) I65 := by rw [e65, e64, e63, e62, e61, e60, e59, e58]; exact LR_bk hL hx1 hx2 hm3 ((bI_t (fun h => h)).symm)
              refine mw_aload i_85_266 (L := RING) rfl ?_
              refine mw_iload i_85_267 (x := nI x) rfl ?_
              refine mw_iload i_85_268 (x := nI tw) rfl ?_
              refine mw_iload i_85_269 (x := nI f) rfl ?_
              refine mw_iload i_85_270 (x := nI s) rfl ?_
              refine mw_iload i_85_271 (x := nI 1) rfl ?_
              refine mw_ifT i_85_272 (show ¬ nI 1 = 0 by decide) ?_
              refine mw_const i_85_275 (v := nI 0) (by decide) ?_
              refine mw_iload i_85_276 (x := nI mi) rfl ?_
              refine mw_iload i_85_277 (x := (-1)) rfl ?_
              have hW1 : CW n σ K I65 R := CW_Q hW (show FrQ I I65 from by rw [e65]; exact FrQ_up (show FrQ I I64 from by rw [e64]; exact FrQ_up (show FrQ I I63 from by rw [e63]; exact FrQ_up (show FrQ I I62 from by rw [e62]; exact FrQ_up (show FrQ I I61 from by rw [e61]; exact FrQ_up (show FrQ I I60 from by rw [e60]; exact FrQ_up (show FrQ I I59 from by rw [e59]; exact FrQ_up (show FrQ I I58 from by rw [e58]; exact FrQ_up FrQ_rfl rfl) rfl) rfl) rfl) rfl) rfl) rfl) rfl)
              have hA9 : bkA σ x tw f s (nI mi) (-1) := ⟨⟨hg.1.1.1, by have := hg.1.1.2.1; omega, by have := Int32.not_lt.mp hg.2.1; rw [Int32.add_comm] at this; exact this, (Nat.eq_zero_or_pos (mn σ x)).elim Or.inl (fun h => Or.inr (htw1 (by omega)))⟩, hg.1.1.2.2.1, hg.1.1.2.2.2.1, hg.1.2⟩
              have hB9 : bkB σ x f s (False) (-1) := ⟨hg.1.1.2.2.2.2.1, hg.1.1.2.2.2.2.2, hg.2.2.1, fun h => h.elim, fun _ => hg.2.2.2⟩
              refine mw_callV i_85_278 mf_37 (as := [pI (nI x), pI (nI tw), pI (nI f), pI (nI s), pI (nI 0), pI (nI mi), pI (-1)]) (rest := []) (d' := d9) (b' := b) (ls0 := [some (pR (some RING)), some (pI (nI x)), some (pI (nI tw)), some (pI (nI f)), some (pI (nI s)), some (pI (nI 0)), some (pI (nI mi)), some (pI (-1)), none, none, none, none]) rfl rfl rfl (Nat.le_of_ble_eq_true rfl) hW.1.1.1.1 rfl (by omega) rfl ?_
              refine b_book (pb := False) (by omega) hW1 (bI_f (fun h => h)).symm htw4 (by omega) (by omega) hti9 hx1 (by omega) ⟨nI_le hmi.1 (by omega), nI_le (by omega) (by decide)⟩ hfs hA9 hB9 (fun K9 I9 R9 hX9 hKR9 hF9 hR9 => ?_)
              have hQ9 := KQ_K hQ hKR9
              refine aft_v ?_
              refine mw_aload i_85_279 (L := QM) rfl ?_
              refine mw_iload i_85_280 (x := nI x) rfl ?_
              refine mw_callS i_85_281 mf_79 (as := [pR (some QM), pI (nI x)]) (rest := [pI (nI (mn σ x))]) (d' := d9) (b' := b) (ls0 := [some (pR (some QM)), some (pI (nI x))]) rfl rfl rfl (Nat.le_of_ble_eq_true rfl) rfl rfl rfl ?_
              refine a_many hQ9 (by omega) (c := mn σ x + 1) ((congrFun (hF9 QM (by decide)) _).trans (by rw [e65, up2_at, upd_at])) ?_
              refine aft_v ?_
              refine mw_const i_85_282 (v := nI 1) (by decide) ?_
              refine mw_isub i_85_283 (w := nI ((mn σ x + 1) - 1)) (pk_sub (Nat.le_add_left 1 _)) ?_
              refine mw_icF i_85_284 (fun h => h rfl) ?_
              refine mw_const i_85_285 (v := nI 1) (by decide) ?_
              refine mw_goto i_85_286 ?_
              refine mw_iret i_85_288 (x := nI 1) (fun _ => (by decide)) ?_
              exact q _ K9 I9 R9 ⟨⟨hX9, hR9, IV_up (IV_bk hV (by omega) htw4 (by omega) (by omega) hti9 ⟨nI_le hmi.1 (by omega), nI_le (by omega) (by decide)⟩ hfs hg.1.1.1 (by have := hg.1.1.2.1; omega) hg.1.2) (Nat.le_succ n)⟩, LR_n (LR_C0 hLb hF9) (Nat.le_succ n), hQ9, (hKR9 SC0 (by decide)).1.trans hK0⟩
            · skip
              refine mw_const i_85_199 (v := nI 1) (by decide) ?_
              refine mw_iret i_85_200 (x := nI 1) (fun _ => (by decide)) ?_
              exact q σ K I R ⟨CW_up hW, LR_n hL (Nat.le_succ n), hQ, hK0⟩
          refine mw_iload i_85_165 (x := bI (cn1 σ x f s ∧ ¬ Ex (tix σ x (-1)) (mn σ x))) rfl ?_
          refine mw_eqB i_85_166 rfl (fun c47 => ?_) (fun c47 => ?_)
          · skip
            refine mw_const i_85_195 (v := nI 0) (by decide) ?_
            exact mw_top (show nI 0 = bI ((cn1 σ x f s ∧ ¬ Ex (tix σ x (-1)) (mn σ x)) ∧ ¬ nI 120 < nI mi + smx σ x (mn σ x) ∧ stk σ (-1) f s ∧ ¬ brd σ f s (nI x)) from (bI_f (fun h => c47 h.1)).symm) J36
          · skip
            refine mw_iload i_85_167 (x := nI mi + smx σ x (mn σ x)) rfl ?_
            refine mw_const i_85_168 (v := nI 120) (by decide) ?_
            refine mw_ic i_85_169 (p := (nI 120) < (nI mi + smx σ x (mn σ x))) Iff.rfl (fun c48 => ?_) (fun c48 => ?_)
            · skip
              refine mw_const i_85_195 (v := nI 0) (by decide) ?_
              exact mw_top (show nI 0 = bI ((cn1 σ x f s ∧ ¬ Ex (tix σ x (-1)) (mn σ x)) ∧ ¬ nI 120 < nI mi + smx σ x (mn σ x) ∧ stk σ (-1) f s ∧ ¬ brd σ f s (nI x)) from (bI_f (fun h => h.2.1 c48)).symm) J36
            · skip
              have hz1 := c47
              have hz2 := c48
              have J49 : stk σ (-1) f s → Mw (d9 + 1) (b + 61) 85 178 [some (pR (some RING)), some (pR (some QW)), some (pR (some QC)), some (pR (some QK)), some (pR (some QM)), some (pI (nI z)), some (pI (nI x)), some (pI (nI tw)), some (pI (nI f)), some (pI (nI s)), some (pI (nI mi)), some (pI (-1)), some (pI (nI 1)), some (pI (nI mi + smx σ x (mn σ x))), some (pI (bI (cn1 σ x f s ∧ ¬ Ex (tix σ x (-1)) (mn σ x)))), some (pI (-1)), u16] [] K I R Q := by
                intro hz
                refine mw_aload i_85_178 (L := QW) rfl ?_
                refine mw_aload i_85_179 (L := QC) rfl ?_
                refine mw_iload i_85_180 (x := nI 1) rfl ?_
                refine mw_ifT i_85_181 (show ¬ nI 1 = 0 by decide) ?_
                refine mw_iload i_85_184 (x := nI f) rfl ?_
                refine mw_iload i_85_185 (x := nI 1) rfl ?_
                refine mw_ifT i_85_186 (show ¬ nI 1 = 0 by decide) ?_
                refine mw_iload i_85_189 (x := nI s) rfl ?_
                refine mw_iload i_85_190 (x := nI x) rfl ?_
                refine mw_callS i_85_191 mf_82 (as := [pR (some QW), pR (some QC), pI (nI f), pI (nI s), pI (nI x)]) (rest := []) (d' := d9) (b' := b + 61) (ls0 := [some (pR (some QW)), some (pR (some QC)), some (pI (nI f)), some (pI (nI s)), some (pI (nI x))]) rfl rfl rfl (Nat.le_of_ble_eq_true rfl) rfl rfl rfl ?_
                refine b_isBarred hQ hL hV (by omega) (by omega) (by omega) ?_
                refine aft_v ?_
                refine mw_neB i_85_192 rfl (fun c50 => ?_) (fun c50 => ?_)
                · skip
                  refine mw_const i_85_195 (v := nI 0) (by decide) ?_
                  exact mw_top (show nI 0 = bI ((cn1 σ x f s ∧ ¬ Ex (tix σ x (-1)) (mn σ x)) ∧ ¬ nI 120 < nI mi + smx σ x (mn σ x) ∧ stk σ (-1) f s ∧ ¬ brd σ f s (nI x)) from (bI_f (fun h => h.2.2.2 c50)).symm) J36
                · skip
                  refine mw_const i_85_193 (v := nI 1) (by decide) ?_
                  refine mw_goto i_85_194 ?_
                  exact mw_top (show nI 1 = bI ((cn1 σ x f s ∧ ¬ Ex (tix σ x (-1)) (mn σ x)) ∧ ¬ nI 120 < nI mi + smx σ x (mn σ x) ∧ stk σ (-1) f s ∧ ¬ brd σ f s (nI x)) from (bI_t (⟨hz1, hz2, hz, c50⟩)).symm) J36
              refine mw_iload i_85_170 (x := (-1)) rfl ?_
              refine mw_ifT i_85_171 (show ((-1) : Int32) < nI 0 by decide) ?_
              exact J49 (Or.inl rfl)
        · skip
          have hch := (hL.2.2.2.2.2.2.2.1 tt htt).2.2
          refine mw_iload i_85_153 (x := nI tt) rfl ?_
          refine mw_ifT i_85_154 (nI_le (Nat.zero_le _) (by omega)) ?_
          refine mw_aload i_85_157 (L := QM) rfl ?_
          refine mw_const i_85_158 (v := nI 10) (by decide) ?_
          refine mw_iload i_85_159 (x := nI tt) rfl ?_
          refine mw_iadd i_85_160 (w := nI (10 + tt)) (nI_add _ _) ?_
          refine mw_iald i_85_161 (jn := 10 + tt) (n := 18) (by omega) (by omega) hQ.2.2.2.2.2 (by decide) (v := (chO σ tt + nI 1)) (hL.2.2.2.2.2.2.2.1 tt (by omega)).1 ?_
          refine mw_const i_85_162 (v := nI 1) (by decide) ?_
          refine mw_isub i_85_163 (w := chO σ tt) (Int32.add_sub_cancel _ _) ?_
          refine mw_istore i_85_164 (ls' := [some (pR (some RING)), some (pR (some QW)), some (pR (some QC)), some (pR (some QK)), some (pR (some QM)), some (pI (nI z)), some (pI (nI x)), some (pI (nI tw)), some (pI (nI f)), some (pI (nI s)), some (pI (nI mi)), some (pI (nI tt)), some (pI (nI 1)), some (pI (nI mi + smx σ x (mn σ x))), some (pI (bI (cn1 σ x f s ∧ ¬ Ex (tix σ x (nI tt)) (mn σ x)))), some (pI (chO σ tt)), u16]) rfl (Nat.le_of_ble_eq_true rfl) ?_
          have J51 : Mw (d9 + 1) (b + 61) 85 196 [some (pR (some RING)), some (pR (some QW)), some (pR (some QC)), some (pR (some QK)), some (pR (some QM)), some (pI (nI z)), some (pI (nI x)), some (pI (nI tw)), some (pI (nI f)), some (pI (nI s)), some (pI (nI mi)), some (pI (nI tt)), some (pI (nI 1)), some (pI (nI mi + smx σ x (mn σ x))), some (pI (bI (cn1 σ x f s ∧ ¬ Ex (tix σ x (nI tt)) (mn σ x)))), some (pI (chO σ tt)), u16] [pI (bI ((cn1 σ x f s ∧ ¬ Ex (tix σ x (nI tt)) (mn σ x)) ∧ ¬ nI 120 < nI mi + smx σ x (mn σ x) ∧ stk σ (nI tt) f s ∧ ¬ brd σ f s (nI x)))] K I R Q := by
            refine mw_istore i_85_196 (ls' := [some (pR (some RING)), some (pR (some QW)), some (pR (some QC)), some (pR (some QK)), some (pR (some QM)), some (pI (nI z)), some (pI (nI x)), some (pI (nI tw)), some (pI (nI f)), some (pI (nI s)), some (pI (nI mi)), some (pI (nI tt)), some (pI (nI 1)), some (pI (nI mi + smx σ x (mn σ x))), some (pI (bI ((cn1 σ x f s ∧ ¬ Ex (tix σ x (nI tt)) (mn σ x)) ∧ ¬ nI 120 < nI mi + smx σ x (mn σ x) ∧ stk σ (nI tt) f s ∧ ¬ brd σ f s (nI x)))), some (pI (chO σ tt)), u16]) rfl (Nat.le_of_ble_eq_true rfl) ?_
            refine mw_iload i_85_197 (x := bI ((cn1 σ x f s ∧ ¬ Ex (tix σ x (nI tt)) (mn σ x)) ∧ ¬ nI 120 < nI mi + smx σ x (mn σ x) ∧ stk σ (nI tt) f s ∧ ¬ brd σ f s (nI x))) rfl ?_
            refine mw_neB i_85_198 rfl (fun c52 => ?_) (fun c52 => ?_)
            · skip
              have hg := c52
              have hm3 : mn σ x < 3 := hg.1.1.2.1
              refine mw_aload i_85_201 (L := QM) rfl ?_
              refine mw_iload i_85_202 (x := nI x) rfl ?_
              refine mw_callS i_85_203 mf_78 (as := [pR (some QM), pI (nI x)]) (rest := []) (d' := d9) (b' := b + 61) (ls0 := [some (pR (some QM)), some (pI (nI x))]) rfl rfl rfl (Nat.le_of_ble_eq_true rfl) rfl rfl rfl ?_
              refine a_slot (by omega) ?_
              refine aft_v ?_
              refine mw_const i_85_204 (v := nI 6) (by decide) ?_
              refine mw_aload i_85_205 (L := QM) rfl ?_
              refine mw_iload i_85_206 (x := nI x) rfl ?_
              refine mw_callS i_85_207 mf_79 (as := [pR (some QM), pI (nI x)]) (rest := [pI (nI 6), pI (nI (18 * (x % 3)))]) (d' := d9) (b' := b + 61) (ls0 := [some (pR (some QM)), some (pI (nI x))]) rfl rfl rfl (Nat.le_of_ble_eq_true rfl) rfl rfl rfl ?_
              refine b_many hQ hL hx1 hx2 (by omega) ?_
              refine aft_v ?_
              refine mw_imul i_85_208 (w := nI (6 * (mn σ x))) (pk_mul _ _) ?_
              refine mw_iadd i_85_209 (w := nI (18 * (x % 3) + (6 * (mn σ x)))) (nI_add _ _) ?_
              refine mw_istore i_85_210 (ls' := [some (pR (some RING)), some (pR (some QW)), some (pR (some QC)), some (pR (some QK)), some (pR (some QM)), some (pI (nI z)), some (pI (nI x)), some (pI (nI tw)), some (pI (nI f)), some (pI (nI s)), some (pI (nI mi)), some (pI (nI tt)), some (pI (nI 1)), some (pI (nI mi + smx σ x (mn σ x))), some (pI (bI ((cn1 σ x f s ∧ ¬ Ex (tix σ x (nI tt)) (mn σ x)) ∧ ¬ nI 120 < nI mi + smx σ x (mn σ x) ∧ stk σ (nI tt) f s ∧ ¬ brd σ f s (nI x)))), some (pI (chO σ tt)), some (pI (nI (18 * (x % 3) + (6 * (mn σ x)))))]) rfl (Nat.le_of_ble_eq_true rfl) ?_
              refine mw_aload i_85_211 (L := QK) rfl ?_
              refine mw_iload i_85_212 (x := nI (18 * (x % 3) + (6 * (mn σ x)))) rfl ?_
              refine mw_iload i_85_213 (x := nI f) rfl ?_
              obtain ⟨I73, e73⟩ : ∃ I73, I73 = up2 I QK (18 * (x % 3) + (6 * (mn σ x))) (nI f) := ⟨_, rfl⟩
              refine mw_iast i_85_214 (jn := 18 * (x % 3) + (6 * (mn σ x))) (n := 54) (by omega) (by omega) (x := nI f) hQ.2.2.2.2.1 (I' := I73) e73.symm ?_
              refine mw_aload i_85_215 (L := QK) rfl ?_
              refine mw_iload i_85_216 (x := nI (18 * (x % 3) + (6 * (mn σ x)))) rfl ?_
              refine mw_const i_85_217 (v := nI 1) (by decide) ?_
              refine mw_iadd i_85_218 (w := nI (18 * (x % 3) + (6 * (mn σ x)) + 1)) (nI_add _ _) ?_
              refine mw_iload i_85_219 (x := nI s) rfl ?_
              obtain ⟨I74, e74⟩ : ∃ I74, I74 = up2 I73 QK (18 * (x % 3) + (6 * (mn σ x)) + 1) (nI s) := ⟨_, rfl⟩
              refine mw_iast i_85_220 (jn := 18 * (x % 3) + (6 * (mn σ x)) + 1) (n := 54) (by omega) (by omega) (x := nI s) hQ.2.2.2.2.1 (I' := I74) e74.symm ?_
              refine mw_aload i_85_221 (L := QK) rfl ?_
              refine mw_iload i_85_222 (x := nI (18 * (x % 3) + (6 * (mn σ x)))) rfl ?_
              refine mw_const i_85_223 (v := nI 2) (by decide) ?_
              refine mw_iadd i_85_224 (w := nI (18 * (x % 3) + (6 * (mn σ x)) + 2)) (nI_add _ _) ?_
              refine mw_iload i_85_225 (x := nI 1) rfl ?_
              obtain ⟨I75, e75⟩ : ∃ I75, I75 = up2 I74 QK (18 * (x % 3) + (6 * (mn σ x)) + 2) (nI 1) := ⟨_, rfl⟩
              refine mw_iast i_85_226 (jn := 18 * (x % 3) + (6 * (mn σ x)) + 2) (n := 54) (by omega) (by omega) (x := nI 1) hQ.2.2.2.2.1 (I' := I75) e75.symm ?_
              refine mw_aload i_85_227 (L := QK) rfl ?_
              refine mw_iload i_85_228 (x := nI (18 * (x % 3) + (6 * (mn σ x)))) rfl ?_
              refine mw_const i_85_229 (v := nI 3) (by decide) ?_
              refine mw_iadd i_85_230 (w := nI (18 * (x % 3) + (6 * (mn σ x)) + 3)) (nI_add _ _) ?_
              refine mw_iload i_85_231 (x := nI mi) rfl ?_
              obtain ⟨I76, e76⟩ : ∃ I76, I76 = up2 I75 QK (18 * (x % 3) + (6 * (mn σ x)) + 3) (nI mi) := ⟨_, rfl⟩
              refine mw_iast i_85_232 (jn := 18 * (x % 3) + (6 * (mn σ x)) + 3) (n := 54) (by omega) (by omega) (x := nI mi) hQ.2.2.2.2.1 (I' := I76) e76.symm ?_
              refine mw_aload i_85_233 (L := QK) rfl ?_
              refine mw_iload i_85_234 (x := nI (18 * (x % 3) + (6 * (mn σ x)))) rfl ?_
              refine mw_const i_85_235 (v := nI 4) (by decide) ?_
              refine mw_iadd i_85_236 (w := nI (18 * (x % 3) + (6 * (mn σ x)) + 4)) (nI_add _ _) ?_
              refine mw_iload i_85_237 (x := nI tt) rfl ?_
              refine mw_const i_85_238 (v := nI 1) (by decide) ?_
              refine mw_iadd i_85_239 (w := nI (tt + 1)) (nI_add _ _) ?_
              obtain ⟨I77, e77⟩ : ∃ I77, I77 = up2 I76 QK (18 * (x % 3) + (6 * (mn σ x)) + 4) (nI (tt + 1)) := ⟨_, rfl⟩
              refine mw_iast i_85_240 (jn := 18 * (x % 3) + (6 * (mn σ x)) + 4) (n := 54) (by omega) (by omega) (x := nI (tt + 1)) hQ.2.2.2.2.1 (I' := I77) e77.symm ?_
              refine mw_aload i_85_241 (L := QK) rfl ?_
              refine mw_iload i_85_242 (x := nI (18 * (x % 3) + (6 * (mn σ x)))) rfl ?_
              refine mw_const i_85_243 (v := nI 5) (by decide) ?_
              refine mw_iadd i_85_244 (w := nI (18 * (x % 3) + (6 * (mn σ x)) + 5)) (nI_add _ _) ?_
              refine mw_const i_85_245 (v := nI 0) (by decide) ?_
              obtain ⟨I78, e78⟩ : ∃ I78, I78 = up2 I77 QK (18 * (x % 3) + (6 * (mn σ x)) + 5) (nI 0) := ⟨_, rfl⟩
              refine mw_iast i_85_246 (jn := 18 * (x % 3) + (6 * (mn σ x)) + 5) (n := 54) (by omega) (by omega) (x := nI 0) hQ.2.2.2.2.1 (I' := I78) e78.symm ?_
              refine mw_aload i_85_247 (L := QM) rfl ?_
              refine mw_const i_85_248 (v := nI 4) (by decide) ?_
              refine mw_iload i_85_249 (x := nI x) rfl ?_
              refine mw_const i_85_250 (v := nI 3) (by decide) ?_
              refine mw_irem i_85_251 (by decide) (w := nI (x % 3)) (pk_rem (by omega) (by omega) (by omega)) ?_
              refine mw_iadd i_85_252 (w := nI (4 + (x % 3))) (nI_add _ _) ?_
              refine mw_iload i_85_253 (x := nI tw) rfl ?_
              obtain ⟨I79, e79⟩ : ∃ I79, I79 = up2 I78 QM (4 + (x % 3)) (nI tw) := ⟨_, rfl⟩
              refine mw_iast i_85_254 (jn := 4 + (x % 3)) (n := 18) (by omega) (by omega) (x := nI tw) hQ.2.2.2.2.2 (I' := I79) e79.symm ?_
              refine mw_aload i_85_255 (L := QM) rfl ?_
              refine mw_const i_85_256 (v := nI 1) (by decide) ?_
              refine mw_iload i_85_257 (x := nI x) rfl ?_
              refine mw_const i_85_258 (v := nI 3) (by decide) ?_
              refine mw_irem i_85_259 (by decide) (w := nI (x % 3)) (pk_rem (by omega) (by omega) (by omega)) ?_
              refine mw_iadd i_85_260 (w := nI (1 + (x % 3))) (nI_add _ _) ?_
              refine mw_dup2 i_85_261 trivial trivial ?_
              refine mw_iald i_85_262 (jn := 1 + (x % 3)) (n := 18) (by omega) (by omega) hQ.2.2.2.2.2 (by decide) (v := nI (mn σ x)) (by rw [e79, up2_at, upd_ne (by omega), e78, up2_ne (by decide), e77, up2_ne (by decide), e76, up2_ne (by decide), e75, up2_ne (by decide), e74, up2_ne (by decide), e73, up2_ne (by decide)]; exact g1) ?_
              refine mw_const i_85_263 (v := nI 1) (by decide) ?_
              refine mw_iadd i_85_264 (w := nI (mn σ x + 1)) (nI_add _ _) ?_
              obtain ⟨I80, e80⟩ : ∃ I80, I80 = up2 I79 QM (1 + (x % 3)) (nI (mn σ x + 1)) := ⟨_, rfl⟩
              refine mw_iast i_85_265 (jn := 1 + (x % 3)) (n := 18) (by omega) (by omega) (x := nI (mn σ x + 1)) hQ.2.2.2.2.2 (I' := I80) e80.symm ?_
              have hLb : LR n (bkS σ x tw f s (False) (nI mi) (nI tt)) I80 := by rw [e80, e79, e78, e77, e76, e75, e74, e73, ← nI_add tt 1]; exact LR_bk hL hx1 hx2 hm3 ((bI_t (fun h => h)).symm)
              refine mw_aload i_85_266 (L := RING) rfl ?_
              refine mw_iload i_85_267 (x := nI x) rfl ?_
              refine mw_iload i_85_268 (x := nI tw) rfl ?_
              refine mw_iload i_85_269 (x := nI f) rfl ?_
              refine mw_iload i_85_270 (x := nI s) rfl ?_
              refine mw_iload i_85_271 (x := nI 1) rfl ?_
              refine mw_ifT i_85_272 (show ¬ nI 1 = 0 by decide) ?_
              refine mw_const i_85_275 (v := nI 0) (by decide) ?_
              refine mw_iload i_85_276 (x := nI mi) rfl ?_
              refine mw_iload i_85_277 (x := nI tt) rfl ?_
              have hW1 : CW n σ K I80 R := CW_Q hW (show FrQ I I80 from by rw [e80]; exact FrQ_up (show FrQ I I79 from by rw [e79]; exact FrQ_up (show FrQ I I78 from by rw [e78]; exact FrQ_up (show FrQ I I77 from by rw [e77]; exact FrQ_up (show FrQ I I76 from by rw [e76]; exact FrQ_up (show FrQ I I75 from by rw [e75]; exact FrQ_up (show FrQ I I74 from by rw [e74]; exact FrQ_up (show FrQ I I73 from by rw [e73]; exact FrQ_up FrQ_rfl rfl) rfl) rfl) rfl) rfl) rfl) rfl) rfl)
              have hA9 : bkA σ x tw f s (nI mi) (nI tt) := ⟨⟨hg.1.1.1, by have := hg.1.1.2.1; omega, by have := Int32.not_lt.mp hg.2.1; rw [Int32.add_comm] at this; exact this, (Nat.eq_zero_or_pos (mn σ x)).elim Or.inl (fun h => Or.inr (htw1 (by omega)))⟩, hg.1.1.2.2.1, hg.1.1.2.2.2.1, hg.1.2⟩
              have hB9 : bkB σ x f s (False) (nI tt) := ⟨hg.1.1.2.2.2.2.1, hg.1.1.2.2.2.2.2, hg.2.2.1, fun h => h.elim, fun _ => hg.2.2.2⟩
              refine mw_callV i_85_278 mf_37 (as := [pI (nI x), pI (nI tw), pI (nI f), pI (nI s), pI (nI 0), pI (nI mi), pI (nI tt)]) (rest := []) (d' := d9) (b' := b) (ls0 := [some (pR (some RING)), some (pI (nI x)), some (pI (nI tw)), some (pI (nI f)), some (pI (nI s)), some (pI (nI 0)), some (pI (nI mi)), some (pI (nI tt)), none, none, none, none]) rfl rfl rfl (Nat.le_of_ble_eq_true rfl) hW.1.1.1.1 rfl (by omega) rfl ?_
              refine b_book (pb := False) (by omega) hW1 (bI_f (fun h => h)).symm htw4 (by omega) (by omega) hti9 hx1 (by omega) ⟨nI_le hmi.1 (by omega), nI_le (by omega) (by decide)⟩ hfs hA9 hB9 (fun K9 I9 R9 hX9 hKR9 hF9 hR9 => ?_)
              have hQ9 := KQ_K hQ hKR9
              refine aft_v ?_
              refine mw_aload i_85_279 (L := QM) rfl ?_
              refine mw_iload i_85_280 (x := nI x) rfl ?_
              refine mw_callS i_85_281 mf_79 (as := [pR (some QM), pI (nI x)]) (rest := [pI (nI (mn σ x))]) (d' := d9) (b' := b) (ls0 := [some (pR (some QM)), some (pI (nI x))]) rfl rfl rfl (Nat.le_of_ble_eq_true rfl) rfl rfl rfl ?_
              refine a_many hQ9 (by omega) (c := mn σ x + 1) ((congrFun (hF9 QM (by decide)) _).trans (by rw [e80, up2_at, upd_at])) ?_
              refine aft_v ?_
              refine mw_const i_85_282 (v := nI 1) (by decide) ?_
              refine mw_isub i_85_283 (w := nI ((mn σ x + 1) - 1)) (pk_sub (Nat.le_add_left 1 _)) ?_
              refine mw_icF i_85_284 (fun h => h rfl) ?_
              refine mw_const i_85_285 (v := nI 1) (by decide) ?_
              refine mw_goto i_85_286 ?_
              refine mw_iret i_85_288 (x := nI 1) (fun _ => (by decide)) ?_
              exact q _ K9 I9 R9 ⟨⟨hX9, hR9, IV_up (IV_bk hV (by omega) htw4 (by omega) (by omega) hti9 ⟨nI_le hmi.1 (by omega), nI_le (by omega) (by decide)⟩ hfs hg.1.1.1 (by have := hg.1.1.2.1; omega) hg.1.2) (Nat.le_succ n)⟩, LR_n (LR_C0 hLb hF9) (Nat.le_succ n), hQ9, (hKR9 SC0 (by decide)).1.trans hK0⟩
            · skip
              refine mw_const i_85_199 (v := nI 1) (by decide) ?_
              refine mw_iret i_85_200 (x := nI 1) (fun _ => (by decide)) ?_
              exact q σ K I R ⟨CW_up hW, LR_n hL (Nat.le_succ n), hQ, hK0⟩
          refine mw_iload i_85_165 (x := bI (cn1 σ x f s ∧ ¬ Ex (tix σ x (nI tt)) (mn σ x))) rfl ?_
          refine mw_eqB i_85_166 rfl (fun c62 => ?_) (fun c62 => ?_)
          · skip
            refine mw_const i_85_195 (v := nI 0) (by decide) ?_
            exact mw_top (show nI 0 = bI ((cn1 σ x f s ∧ ¬ Ex (tix σ x (nI tt)) (mn σ x)) ∧ ¬ nI 120 < nI mi + smx σ x (mn σ x) ∧ stk σ (nI tt) f s ∧ ¬ brd σ f s (nI x)) from (bI_f (fun h => c62 h.1)).symm) J51
          · skip
            refine mw_iload i_85_167 (x := nI mi + smx σ x (mn σ x)) rfl ?_
            refine mw_const i_85_168 (v := nI 120) (by decide) ?_
            refine mw_ic i_85_169 (p := (nI 120) < (nI mi + smx σ x (mn σ x))) Iff.rfl (fun c63 => ?_) (fun c63 => ?_)
            · skip
              refine mw_const i_85_195 (v := nI 0) (by decide) ?_
              exact mw_top (show nI 0 = bI ((cn1 σ x f s ∧ ¬ Ex (tix σ x (nI tt)) (mn σ x)) ∧ ¬ nI 120 < nI mi + smx σ x (mn σ x) ∧ stk σ (nI tt) f s ∧ ¬ brd σ f s (nI x)) from (bI_f (fun h => h.2.1 c63)).symm) J51
            · skip
              have hz1 := c62
              have hz2 := c63
              have J64 : stk σ (nI tt) f s → Mw (d9 + 1) (b + 61) 85 178 [some (pR (some RING)), some (pR (some QW)), some (pR (some QC)), some (pR (some QK)), some (pR (some QM)), some (pI (nI z)), some (pI (nI x)), some (pI (nI tw)), some (pI (nI f)), some (pI (nI s)), some (pI (nI mi)), some (pI (nI tt)), some (pI (nI 1)), some (pI (nI mi + smx σ x (mn σ x))), some (pI (bI (cn1 σ x f s ∧ ¬ Ex (tix σ x (nI tt)) (mn σ x)))), some (pI (chO σ tt)), u16] [] K I R Q := by
                intro hz
                refine mw_aload i_85_178 (L := QW) rfl ?_
                refine mw_aload i_85_179 (L := QC) rfl ?_
                refine mw_iload i_85_180 (x := nI 1) rfl ?_
                refine mw_ifT i_85_181 (show ¬ nI 1 = 0 by decide) ?_
                refine mw_iload i_85_184 (x := nI f) rfl ?_
                refine mw_iload i_85_185 (x := nI 1) rfl ?_
                refine mw_ifT i_85_186 (show ¬ nI 1 = 0 by decide) ?_
                refine mw_iload i_85_189 (x := nI s) rfl ?_
                refine mw_iload i_85_190 (x := nI x) rfl ?_
                refine mw_callS i_85_191 mf_82 (as := [pR (some QW), pR (some QC), pI (nI f), pI (nI s), pI (nI x)]) (rest := []) (d' := d9) (b' := b + 61) (ls0 := [some (pR (some QW)), some (pR (some QC)), some (pI (nI f)), some (pI (nI s)), some (pI (nI x))]) rfl rfl rfl (Nat.le_of_ble_eq_true rfl) rfl rfl rfl ?_
                refine b_isBarred hQ hL hV (by omega) (by omega) (by omega) ?_
                refine aft_v ?_
                refine mw_neB i_85_192 rfl (fun c65 => ?_) (fun c65 => ?_)
                · skip
                  refine mw_const i_85_195 (v := nI 0) (by decide) ?_
                  exact mw_top (show nI 0 = bI ((cn1 σ x f s ∧ ¬ Ex (tix σ x (nI tt)) (mn σ x)) ∧ ¬ nI 120 < nI mi + smx σ x (mn σ x) ∧ stk σ (nI tt) f s ∧ ¬ brd σ f s (nI x)) from (bI_f (fun h => h.2.2.2 c65)).symm) J51
                · skip
                  refine mw_const i_85_193 (v := nI 1) (by decide) ?_
                  refine mw_goto i_85_194 ?_
                  exact mw_top (show nI 1 = bI ((cn1 σ x f s ∧ ¬ Ex (tix σ x (nI tt)) (mn σ x)) ∧ ¬ nI 120 < nI mi + smx σ x (mn σ x) ∧ stk σ (nI tt) f s ∧ ¬ brd σ f s (nI x)) from (bI_t (⟨hz1, hz2, hz, c65⟩)).symm) J51
              refine mw_iload i_85_170 (x := chO σ tt) rfl ?_
              refine mw_if i_85_171 (p := (chO σ tt) < nI 0) Iff.rfl (fun c66 => ?_) (fun c66 => ?_)
              · skip
                exact J64 (Or.inr ⟨tt, by omega, rfl, Or.inl (neg_ch hch c66)⟩)
              · skip
                refine mw_iload i_85_172 (x := chO σ tt) rfl ?_
                refine mw_iload i_85_173 (x := nI f) rfl ?_
                refine mw_ic i_85_174 (p := (chO σ tt) = (nI f)) Iff.rfl (fun c67 => ?_) (fun c67 => ?_)
                · skip
                  exact J64 (Or.inr ⟨tt, by omega, rfl, Or.inr (Or.inl c67)⟩)
                · skip
                  refine mw_iload i_85_175 (x := chO σ tt) rfl ?_
                  refine mw_iload i_85_176 (x := nI s) rfl ?_
                  refine mw_ic i_85_177 (p := ¬ (chO σ tt) = (nI s)) Iff.rfl (fun c68 => ?_) (fun c68 => ?_)
                  · skip
                    refine mw_const i_85_195 (v := nI 0) (by decide) ?_
                    exact mw_top (show nI 0 = bI ((cn1 σ x f s ∧ ¬ Ex (tix σ x (nI tt)) (mn σ x)) ∧ ¬ nI 120 < nI mi + smx σ x (mn σ x) ∧ stk σ (nI tt) f s ∧ ¬ brd σ f s (nI x)) from (bI_f (fun h => stk_no hch (by omega) c66 c67 c68 h.2.2.1)).symm) J51
                  · skip
                    exact J64 (Or.inr ⟨tt, by omega, rfl, Or.inr (Or.inr (Classical.not_not.mp c68))⟩)
    refine mw_aload i_85_68 (L := QM) rfl ?_
    refine mw_const i_85_69 (v := nI 7) (by decide) ?_
    refine mw_iload i_85_70 (x := nI x) rfl ?_
    refine mw_const i_85_71 (v := nI 3) (by decide) ?_
    refine mw_irem i_85_72 (by decide) (w := nI (x % 3)) (pk_rem (by omega) (by omega) (by omega)) ?_
    refine mw_iadd i_85_73 (w := nI (7 + (x % 3))) (nI_add _ _) ?_
    refine mw_iald i_85_74 (jn := 7 + (x % 3)) (n := 18) (by omega) (by omega) hQ.2.2.2.2.2 (by decide) (v := σ 22 x) g4 ?_
    refine mw_if i_85_75 (p := ¬ (σ 22 x) = nI 0) Iff.rfl (fun c69 => ?_) (fun c69 => ?_)
    · skip
      refine mw_const i_85_105 (v := nI 0) (by decide) ?_
      exact mw_top (show nI 0 = bI (cn1 σ x f s) from (bI_f (fun h => c69 h.1)).symm) J2
    · skip
      refine mw_aload i_85_76 (L := QM) rfl ?_
      refine mw_iload i_85_77 (x := nI x) rfl ?_
      refine mw_callS i_85_78 mf_79 (as := [pR (some QM), pI (nI x)]) (rest := []) (d' := d9) (b' := b + 61) (ls0 := [some (pR (some QM)), some (pI (nI x))]) rfl rfl rfl (Nat.le_of_ble_eq_true rfl) rfl rfl rfl ?_
      refine b_many hQ hL hx1 hx2 (by omega) ?_
      refine aft_v ?_
      refine mw_const i_85_79 (v := nI 3) (by decide) ?_
      refine mw_ic i_85_80 (p := 3 ≤ (mn σ x)) (nI_leI (by omega) (by omega)) (fun c70 => ?_) (fun c70 => ?_)
      · skip
        refine mw_const i_85_105 (v := nI 0) (by decide) ?_
        exact mw_top (show nI 0 = bI (cn1 σ x f s) from (bI_f (fun h => absurd h.2.1 (Nat.not_lt.mpr c70))).symm) J2
      · skip
        refine mw_aload i_85_81 (L := QK) rfl ?_
        refine mw_aload i_85_82 (L := QM) rfl ?_
        refine mw_iload i_85_83 (x := nI x) rfl ?_
        refine mw_iload i_85_84 (x := nI f) rfl ?_
        refine mw_callS i_85_85 mf_83 (as := [pR (some QK), pR (some QM), pI (nI x), pI (nI f)]) (rest := []) (d' := d9) (b' := b + 61) (ls0 := [some (pR (some QK)), some (pR (some QM)), some (pI (nI x)), some (pI (nI f)), none, none, none]) rfl rfl rfl (Nat.le_of_ble_eq_true rfl) rfl rfl rfl ?_
        refine b_isOn (by omega) hQ hL hx1 hx2 (by omega) (by omega) ?_
        refine aft_v ?_
        refine mw_neB i_85_86 rfl (fun c71 => ?_) (fun c71 => ?_)
        · skip
          refine mw_const i_85_105 (v := nI 0) (by decide) ?_
          exact mw_top (show nI 0 = bI (cn1 σ x f s) from (bI_f (fun h => h.2.2.1 c71)).symm) J2
        · skip
          refine mw_aload i_85_87 (L := QK) rfl ?_
          refine mw_aload i_85_88 (L := QM) rfl ?_
          refine mw_iload i_85_89 (x := nI x) rfl ?_
          refine mw_iload i_85_90 (x := nI s) rfl ?_
          refine mw_callS i_85_91 mf_83 (as := [pR (some QK), pR (some QM), pI (nI x), pI (nI s)]) (rest := []) (d' := d9) (b' := b + 61) (ls0 := [some (pR (some QK)), some (pR (some QM)), some (pI (nI x)), some (pI (nI s)), none, none, none]) rfl rfl rfl (Nat.le_of_ble_eq_true rfl) rfl rfl rfl ?_
          refine b_isOn (by omega) hQ hL hx1 hx2 (by omega) (by omega) ?_
          refine aft_v ?_
          refine mw_neB i_85_92 rfl (fun c72 => ?_) (fun c72 => ?_)
          · skip
            refine mw_const i_85_105 (v := nI 0) (by decide) ?_
            exact mw_top (show nI 0 = bI (cn1 σ x f s) from (bI_f (fun h => h.2.2.2.1 c72)).symm) J2
          · skip
            refine mw_aload i_85_93 (L := QW) rfl ?_
            refine mw_iload i_85_94 (x := nI f) rfl ?_
            refine mw_iload i_85_95 (x := nI x) rfl ?_
            refine mw_callS i_85_96 mf_80 (as := [pR (some QW), pI (nI f), pI (nI x)]) (rest := []) (d' := d9) (b' := b + 61) (ls0 := [some (pR (some QW)), some (pI (nI f)), some (pI (nI x))]) rfl rfl rfl (Nat.le_of_ble_eq_true rfl) rfl rfl rfl ?_
            refine b_isHurt hQ hL (by omega) ?_
            refine aft_v ?_
            refine mw_neB i_85_97 rfl (fun c73 => ?_) (fun c73 => ?_)
            · skip
              refine mw_const i_85_105 (v := nI 0) (by decide) ?_
              exact mw_top (show nI 0 = bI (cn1 σ x f s) from (bI_f (fun h => h.2.2.2.2.1 c73)).symm) J2
            · skip
              refine mw_aload i_85_98 (L := QW) rfl ?_
              refine mw_iload i_85_99 (x := nI s) rfl ?_
              refine mw_iload i_85_100 (x := nI x) rfl ?_
              refine mw_callS i_85_101 mf_80 (as := [pR (some QW), pI (nI s), pI (nI x)]) (rest := []) (d' := d9) (b' := b + 61) (ls0 := [some (pR (some QW)), some (pI (nI s)), some (pI (nI x))]) rfl rfl rfl (Nat.le_of_ble_eq_true rfl) rfl rfl rfl ?_
              refine b_isHurt hQ hL (by omega) ?_
              refine aft_v ?_
              refine mw_neB i_85_102 rfl (fun c74 => ?_) (fun c74 => ?_)
              · skip
                refine mw_const i_85_105 (v := nI 0) (by decide) ?_
                exact mw_top (show nI 0 = bI (cn1 σ x f s) from (bI_f (fun h => h.2.2.2.2.2 c74)).symm) J2
              · skip
                refine mw_const i_85_103 (v := nI 1) (by decide) ?_
                refine mw_goto i_85_104 ?_
                exact mw_top (show nI 1 = bI (cn1 σ x f s) from (bI_t (⟨Classical.not_not.mp c69, Nat.lt_of_not_le c70, c71, c72, c73, c74⟩)).symm) J2
  refine mw_aload i_85_8 (L := QM) rfl ?_
  refine mw_iload i_85_9 (x := nI x) rfl ?_
  refine mw_callS i_85_10 mf_79 (as := [pR (some QM), pI (nI x)]) (rest := []) (d' := d9) (b' := b + 61) (ls0 := [some (pR (some QM)), some (pI (nI x))]) rfl rfl rfl (Nat.le_of_ble_eq_true rfl) rfl rfl rfl ?_
  refine b_many hQ hL hx1 hx2 (by omega) ?_
  refine aft_v ?_
  refine mw_if i_85_11 (p := (nI (mn σ x)) ≤ nI 0) Iff.rfl (fun c75 => ?_) (fun c75 => ?_)
  · skip
    refine mw_iload i_85_20 (x := nI z) rfl ?_
    refine mw_const i_85_21 (v := nI 3) (by decide) ?_
    refine mw_idiv i_85_22 (by decide) (w := nI (z / 3)) (pk_div (by omega) (by omega) (by omega)) ?_
    refine mw_const i_85_23 (v := nI 4) (by decide) ?_
    refine mw_irem i_85_24 (by decide) (w := nI ((z / 3) % 4)) (pk_rem (by omega) (by omega) (by omega)) ?_
    exact mw_top (show nI ((z / 3) % 4) = nI tw from congrArg nI (htw0 (by have := (nI_leI (by omega) (by decide)).mp c75; omega)).symm) J1
  · skip
    refine mw_aload i_85_12 (L := QM) rfl ?_
    refine mw_const i_85_13 (v := nI 4) (by decide) ?_
    refine mw_iload i_85_14 (x := nI x) rfl ?_
    refine mw_const i_85_15 (v := nI 3) (by decide) ?_
    refine mw_irem i_85_16 (by decide) (w := nI (x % 3)) (pk_rem (by omega) (by omega) (by omega)) ?_
    refine mw_iadd i_85_17 (w := nI (4 + (x % 3))) (nI_add _ _) ?_
    refine mw_iald i_85_18 (jn := 4 + (x % 3)) (n := 18) (by omega) (by omega) hQ.2.2.2.2.2 (by decide) (v := σ 21 x) (g3 (fun h => c75 (by rw [h]; decide))) ?_
    refine mw_goto i_85_19 ?_
    exact mw_top (show σ 21 x = nI tw from htw1 (fun h => c75 (by rw [h]; decide))) J1
