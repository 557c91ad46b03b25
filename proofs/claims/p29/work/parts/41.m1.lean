/-! the reference: small methods -/
theorem nlt {a b : Int32} (h : ¬ a < b) : b ≤ a := Int32.not_lt.mp h
theorem nle {a b : Int32} (h : ¬ a ≤ b) : b < a := Int32.not_le.mp h
theorem ltn {a b : Int32} (h : a < b) : ¬ b ≤ a := Int32.not_le.mpr h
set_option maxRecDepth 20000 in
theorem k_within {d b : Nat} {K : KM} {I : IM} {R : RM} {Q : QT} {v lo hi : Int32}  (q : Q (.inl (some (pI (bI (inr v lo hi))))) K I R) : Mw d b N_X5_isWithin 0 [some (pI v), some (pI lo), some (pI hi)] [] K I R Q := by
  refine mw_iload i_59_0 (x := v) rfl ?_
  refine mw_iload i_59_1 (x := lo) rfl ?_
  refine mw_ic i_59_2 (p := v < lo) Iff.rfl (fun c1 => ?_) (fun c1 => ?_)
  · skip
    refine mw_const i_59_8 (v := nI 0) (by decide) ?_
    refine mw_iret i_59_9 (x := nI 0) (fun _ => (by decide)) ?_
    rw [show nI 0 = bI (inr v lo hi) from (bI_f (fun h => ltn c1 h.1)).symm]
    exact q
  · skip
    refine mw_iload i_59_3 (x := v) rfl ?_
    refine mw_iload i_59_4 (x := hi) rfl ?_
    refine mw_ic i_59_5 (p := hi < v) Iff.rfl (fun c2 => ?_) (fun c2 => ?_)
    · skip
      refine mw_const i_59_8 (v := nI 0) (by decide) ?_
      refine mw_iret i_59_9 (x := nI 0) (fun _ => (by decide)) ?_
      rw [show nI 0 = bI (inr v lo hi) from (bI_f (fun h => ltn c2 h.2)).symm]
      exact q
    · skip
      refine mw_const i_59_6 (v := nI 1) (by decide) ?_
      refine mw_goto i_59_7 ?_
      refine mw_iret i_59_9 (x := nI 1) (fun _ => (by decide)) ?_
      rw [show nI 1 = bI (inr v lo hi) from (bI_t (⟨nlt c1, nlt c2⟩)).symm]
      exact q
/-- the reference's error number, out of three numbers that are 0 for no -/
def gz (x1 x2 x3 : Int32) : Nat := if x1 = 0 then 1 else if x2 = 0 then 2 else if x3 = 0 then 3 else 0
noncomputable def gn (p1 p2 p3 : Prop) : Nat := gz (bI p1) (bI p2) (bI p3)
theorem gn_0 {p1 p2 p3 : Prop} : gn p1 p2 p3 = 0 ↔ p1 ∧ p2 ∧ p3 := by
  unfold gn gz
  by_cases h1 : p1 <;> by_cases h2 : p2 <;> by_cases h3 : p3 <;> simp [bI_0, h1, h2, h3]
theorem gn_1 {p1 p2 p3 : Prop} (h : ¬ p1) : gn p1 p2 p3 = 1 := by unfold gn gz; rw [if_pos (bI_f h)]
theorem gn_2 {p1 p2 p3 : Prop} (h : p1) (h2 : ¬ p2) : gn p1 p2 p3 = 2 := by unfold gn gz; rw [if_neg (by rw [bI_t h]; decide), if_pos (bI_f h2)]
theorem gn_3 {p1 p2 p3 : Prop} (h : p1) (h2 : p2) (h3 : ¬ p3) : gn p1 p2 p3 = 3 := by unfold gn gz; rw [if_neg (by rw [bI_t h]; decide), if_neg (by rw [bI_t h2]; decide), if_pos (bI_f h3)]
theorem gn_t {p1 p2 p3 : Prop} (h : p1) (h2 : p2) (h3 : p3) : gn p1 p2 p3 = 0 := gn_0.mpr ⟨h, h2, h3⟩
theorem bI_T : bI True = nI 1 := bI_t trivial
/-- a number below another one -/
def isN (x : Int32) (n : Nat) : Prop := ∃ j, j < n ∧ x = nI j
theorem isN_i {x : Int32} {n : Nat} (hn : n < 2147483648) : isN x n ↔ 0 ≤ x.toInt ∧ x.toInt < n := by
  constructor
  · rintro ⟨j, hj, rfl⟩
    rw [nI_toInt (by omega)]
    omega
  · rintro ⟨h1, h2⟩
    obtain ⟨j, hj, rfl⟩ := nI_of (x := x) (by rw [Int32.lt_iff_toInt_lt]; simpa using h1)
    rw [nI_toInt hj] at h2
    exact ⟨j, by omega, rfl⟩
theorem nI_isN {j n : Nat} (hj : j < 2147483648) (hn : n < 2147483648) : isN (nI j) n ↔ j < n := by
  rw [isN_i hn, nI_toInt hj]
  omega
theorem inr_isN {x : Int32} {n : Nat} (hn : n < 2147483647) : inr x (nI 0) (nI n) ↔ isN x (n + 1) := by
  rw [isN_i (by omega)]
  unfold inr
  rw [Int32.le_iff_toInt_le, Int32.le_iff_toInt_le, nI_toInt (show 0 < 2 ^ 31 by decide), nI_toInt (show n < 2 ^ 31 by omega)]
  omega
theorem inr_isN1 {x : Int32} {n : Nat} (hn : n < 1073741824) : inr x (nI 0) (nI n - nI 1) ↔ isN x n := by
  rw [isN_i (by omega)]
  unfold inr
  rw [Int32.le_iff_toInt_le, Int32.le_iff_toInt_le, nI_toInt (show 0 < 2 ^ 31 by decide), pk_sub_toInt (by omega) (by decide)]
  omega