/-! the law's own rows; numbers made of bits and of digits -/
abbrev QW : Lb := (3, 0, 0)
abbrev QV : Lb := (3, 1, 0)
abbrev QC : Lb := (3, 2, 0)
abbrev QB : Lb := (3, 3, 0)
abbrev QK : Lb := (3, 4, 0)
abbrev QM : Lb := (3, 5, 0)
abbrev SC0 : Lb := (0, 0, 0)
def KQ (K : KM) : Prop := K QW = some (7, 63) ∧ K QV = some (7, 28) ∧ K QC = some (7, 49) ∧ K QB = some (7, 49) ∧ K QK = some (7, 54) ∧ K QM = some (7, 18)
/-- a wrestler is in the match at a place of the law's card -/
def oN (I : IM) (x one j : Nat) : Prop := I QK (18 * (x % 3) + 6 * j) = nI one ∨ I QK (18 * (x % 3) + 6 * j + 1) = nI one
def tuP (I : IM) (i : Nat) (sg : Int32) (t : Nat) : Prop := nI 50 ≤ sg * I QV (7 * t + i)
def sgn (ro : Int32) : Int32 := if ro = nI 1 then nI 1 else (-1)
def trl (ro : Int32) (n : Nat) : Int32 := if 1 < n then nI 1 - ro else ro
theorem ab_le {x : Int32} (h : x ≤ nI 0) : -x = (if 0 ≤ x then x else 0 - x) := by
  by_cases h0 : (0 : Int32) ≤ x
  · rw [if_pos h0, Int32.le_antisymm h h0]; rfl
  · rw [if_neg h0, Int32.zero_sub]
theorem ab_gt {x : Int32} (h : ¬ x ≤ nI 0) : x = (if 0 ≤ x then x else 0 - x) := (if_pos (Int32.le_of_lt (Int32.not_le.mp h))).symm
theorem Ex_m {p : Nat → Prop} {n : Nat} (h : Ex p n) : Ex p (n + 1) := by
  obtain ⟨j, hj, hp⟩ := h
  exact ⟨j, by omega, hp⟩
theorem sub1_lt {x c : Nat} (hx : x < 1073741824) (hc : c < 1073741824) (h : nI x ≤ nI c - nI 1) : nI x < nI c := by
  rw [Int32.le_iff_toInt_le, pk_sub_toInt hc (by decide), nI_toInt (by omega)] at h
  exact (nI_ltI (by omega) (by omega)).mpr (by omega)
theorem le_sub1 {x c : Nat} (hx : x < 1073741824) (hc : c < 1073741824) (h : nI x < nI c) : nI x ≤ nI c - nI 1 := by
  have := (nI_ltI (by omega) (by omega)).mp h
  rw [Int32.le_iff_toInt_le, pk_sub_toInt hc (by decide), nI_toInt (by omega)]
  omega
theorem cl_1 {e : Int32} (h : e < (-99)) : ((-99) : Int32) = cl99 e := by
  unfold cl99
  have h1 : e < nI 99 := Int32.lt_trans h (by decide)
  rw [if_pos h1, if_neg (Int32.lt_asymm h)]
theorem cl_2 {e : Int32} (_h : ¬ e < (-99)) (h2 : ¬ e ≤ nI 99) : nI 99 = cl99 e := by
  unfold cl99
  have h1 : ¬ e < nI 99 := Int32.lt_asymm (Int32.not_le.mp h2)
  rw [if_neg h1, if_pos (by decide)]
theorem cl_3 {e : Int32} (h : ¬ e < (-99)) (h2 : e ≤ nI 99) : e = cl99 e := by
  unfold cl99
  have e1 : (if e < nI 99 then e else nI 99) = e := by
    by_cases h1 : e < nI 99
    · rw [if_pos h1]
    · rw [if_neg h1]; exact (Int32.le_antisymm h2 (Int32.not_lt.mp h1)).symm
  rw [e1]
  by_cases h3 : (-99) < e
  · rw [if_pos h3]
  · rw [if_neg h3]; exact Int32.le_antisymm (Int32.not_lt.mp h3) (Int32.not_lt.mp h)
/-- a number of bits -/
noncomputable def bs (p : Nat → Prop) : Nat → Nat
  | 0 => 0
  | n + 1 => bs p n + @ite _ (p n) (Classical.propDecidable _) (2 ^ n) 0
theorem bs_lt (p : Nat → Prop) : ∀ n, bs p n < 2 ^ n
  | 0 => Nat.le_of_ble_eq_true rfl
  | n + 1 => by
    have h := bs_lt p n
    show bs p n + _ < 2 ^ (n + 1)
    rw [Nat.pow_succ]
    split <;> omega
theorem bs_t {p : Nat → Prop} {n : Nat} (h : p n) : bs p (n + 1) = bs p n + 2 ^ n := by
  show bs p n + _ = _
  rw [if_pos h]
theorem bs_f {p : Nat → Prop} {n : Nat} (h : ¬ p n) : bs p (n + 1) = bs p n := by
  show bs p n + _ = _
  rw [if_neg h, Nat.add_zero]
theorem bs_div {p : Nat → Prop} {s : Nat} : ∀ {n : Nat}, s < n → bs p n / 2 ^ s % 2 = @ite _ (p s) (Classical.propDecidable _) 1 0
  | 0, h => absurd h (Nat.not_lt_zero _)
  | n + 1, h => by
    by_cases e : s = n
    · subst e
      have hl := bs_lt p s
      by_cases hp : p s
      · rw [bs_t hp, if_pos hp, Nat.add_div_right _ (Nat.two_pow_pos s), Nat.div_eq_of_lt hl]
      · rw [bs_f hp, if_neg hp, Nat.div_eq_of_lt hl]
    · have ih := bs_div (p := p) (s := s) (n := n) (by omega)
      by_cases hp : p n
      · rw [bs_t hp, show n = s + (n - s - 1 + 1) by omega, Nat.pow_add, Nat.pow_succ 2 (n - s - 1), Nat.mul_comm (2 ^ (n - s - 1)) 2, Nat.add_mul_div_left _ _ (Nat.two_pow_pos s), Nat.add_mul_mod_self_left, ← show n = s + (n - s - 1 + 1) by omega]
        exact ih
      · rw [bs_f hp]
        exact ih
theorem s_l6 : ∀ n, n < 32 → ((nI n &&& 31).toBitVec.smod 32).toNat = n := by decide +kernel
theorem bs_bit {p : Nat → Prop} {n i : Nat} (hi : i < n) (hn : n ≤ 30) : (nI (bs p n) >>> (nI i &&& 31)) &&& nI 1 = bI (p i) := by
  have hl : bs p n < 2 ^ 30 := Nat.lt_of_lt_of_le (bs_lt p n) (Nat.pow_le_pow_right (by decide) hn)
  have hd : bs p n / 2 ^ i ≤ bs p n := Nat.div_le_self _ _
  rw [pk_shrN (by omega) _ i (s_l6 i (by omega)), pk_andN (by omega) 1 (by decide), show (2 : Nat) ^ 1 = 2 from rfl, bs_div hi]
  by_cases h : p i
  · rw [if_pos h, bI_t h]; rfl
  · rw [if_neg h, bI_f h]; rfl
theorem cnt_b (p : Nat → Prop) (n : Nat) : nI (cnt p n) + bI (p n) = nI (cnt p (n + 1)) := by
  by_cases h : p n
  · rw [cnt_t h, bI_t h]; exact nI_add _ 1
  · rw [cnt_f h, bI_f h]; exact Int32.add_zero _
/-- a number of digits to the base 8, the first one the least -/
def en (d : Nat → Nat) : Nat → Nat
  | 0 => 0
  | n + 1 => en d n + d n * 8 ^ n
theorem en_lt {d : Nat → Nat} (h : ∀ j, d j ≤ 7) : ∀ n, en d n < 8 ^ n
  | 0 => Nat.le_of_ble_eq_true rfl
  | n + 1 => by
    have h1 := en_lt h n
    have h2 := Nat.mul_le_mul_right (8 ^ n) (h n)
    show en d n + d n * 8 ^ n < 8 ^ (n + 1)
    rw [Nat.pow_succ]
    omega
theorem en_div {d : Nat → Nat} (h : ∀ j, d j ≤ 7) {s : Nat} : ∀ {n : Nat}, s < n → en d n / 8 ^ s % 8 = d s
  | 0, q => absurd q (Nat.not_lt_zero _)
  | n + 1, q => by
    show (en d n + d n * 8 ^ n) / 8 ^ s % 8 = d s
    by_cases e : s = n
    · subst e
      rw [Nat.add_mul_div_right _ _ (Nat.pow_pos (by decide)), Nat.div_eq_of_lt (en_lt h s), Nat.zero_add, Nat.mod_eq_of_lt (Nat.lt_succ_of_le (h s))]
    · have ih := en_div h (s := s) (n := n) (by omega)
      have e1 : d n * 8 ^ n = 8 ^ s * (8 * (8 ^ (n - s - 1) * d n)) := by
        have e0 : 8 ^ n = 8 ^ s * (8 * 8 ^ (n - s - 1)) := by
          rw [← Nat.pow_succ', ← Nat.pow_add]
          congr 1
          omega
        rw [e0, Nat.mul_comm (d n), Nat.mul_assoc, Nat.mul_assoc]
      rw [e1, Nat.add_mul_div_left _ _ (Nat.pow_pos (by decide)), Nat.add_mul_mod_self_left]
      exact ih
theorem p8 (i : Nat) : (2 : Nat) ^ (3 * i) = 8 ^ i := by rw [Nat.pow_mul]
theorem en_dig {d : Nat → Nat} (h : ∀ j, d j ≤ 7) {i : Nat} (hi : i < 6) : (nI (en d 6) >>> (nI (3 * i) &&& 31)) &&& nI 7 = nI (d i) := by
  have hl : en d 6 < 262144 := en_lt h 6
  have hd : en d 6 / 8 ^ i ≤ en d 6 := Nat.div_le_self _ _
  rw [pk_shrN (by omega) _ (3 * i) (s_l6 (3 * i) (by omega)), p8, pk_andN (by omega) 3 (by decide), show (2 : Nat) ^ 3 = 8 from rfl, en_div h hi]
/-- the first place at which they differ has the less -/
def Ahd (d1 d2 : Nat → Nat) : Prop := ∃ j, j < 6 ∧ (∀ i, i < j → d1 i = d2 i) ∧ d1 j < d2 j
theorem Ahd_n {d1 d2 : Nat → Nat} {i : Nat} (he : ∀ j, j < i → d1 j = d2 j) (_hi : i < 6) (h : d2 i < d1 i) : ¬ Ahd d1 d2 := fun ⟨j, _, h4, h5⟩ => by
  by_cases e : j < i
  · have := he j e; omega
  · by_cases e2 : j = i
    · subst e2; omega
    · have := h4 i (by omega); omega
theorem sub_eq0 {a b : Nat} (ha : a < 1000) (hb : b < 1000) (h : nI a - nI b = nI 0) : a = b := by
  have h1 := congrArg Int32.toInt h
  rw [pk_sub_toInt (by omega) (by omega), nI_toInt (by decide)] at h1
  omega
theorem sub_lt0 {a b : Nat} (ha : a < 1000) (hb : b < 1000) (h : nI a - nI b < nI 0) : a < b := by
  rw [Int32.lt_iff_toInt_lt, pk_sub_toInt (by omega) (by omega), nI_toInt (by decide)] at h
  omega
theorem sub_gt0 {a b : Nat} (ha : a < 1000) (hb : b < 1000) (h0 : ¬ nI a - nI b = nI 0) (h : nI 0 ≤ nI a - nI b) : b < a := by
  rw [Int32.le_iff_toInt_le, pk_sub_toInt (by omega) (by omega), nI_toInt (by decide)] at h
  by_cases e : a = b
  · subst e
    exact absurd (Int32.sub_self _) h0
  · omega
theorem mw_top {d b y i : Nat} {ls : List (Option PV)} {st : List PV} {K : KM} {I : IM} {R : RM} {Q : QT} {v w : Int32} (e : v = w) (h : Mw d b y i ls (pI w :: st) K I R Q) : Mw d b y i ls (pI v :: st) K I R Q := by subst e; exact h
set_option maxRecDepth 20000 in
set_option maxHeartbeats 400000 in
theorem a_slot {d b : Nat} {K : KM} {I : IM} {R : RM} {Q : QT} {x : Nat} (hx : x < 1000) (q : Q (.inl (some (pI (nI (18 * (x % 3)))))) K I R) : Mw d b N_L_slot 0 [some (pR (some QM)), some (pI (nI x))] [] K I R Q := by
  refine mw_const i_78_0 (v := nI 18) (by decide) ?_
  refine mw_iload i_78_1 (x := nI x) rfl ?_
  refine mw_const i_78_2 (v := nI 3) (by decide) ?_
  refine mw_irem i_78_3 (by decide) (w := nI (x % 3)) (pk_rem (by omega) (by omega) (by omega)) ?_
  refine mw_imul i_78_4 (w := nI (18 * (x % 3))) (pk_mul _ _) ?_
  refine mw_iretI i_78_5 (x := nI (18 * (x % 3))) rt_78 ?_
  exact q
set_option maxRecDepth 20000 in
set_option maxHeartbeats 400000 in
theorem a_many {d b : Nat} {K : KM} {I : IM} {R : RM} {Q : QT} {x c : Nat} (hQ : KQ K) (hx : x < 1000) (hc : I QM (1 + x % 3) = nI c) (q : Q (.inl (some (pI (nI c)))) K I R) : Mw d b N_L_many 0 [some (pR (some QM)), some (pI (nI x))] [] K I R Q := by
  refine mw_aload i_79_0 (L := QM) rfl ?_
  refine mw_const i_79_1 (v := nI 1) (by decide) ?_
  refine mw_iload i_79_2 (x := nI x) rfl ?_
  refine mw_const i_79_3 (v := nI 3) (by decide) ?_
  refine mw_irem i_79_4 (by decide) (w := nI (x % 3)) (pk_rem (by omega) (by omega) (by omega)) ?_
  refine mw_iadd i_79_5 (w := nI (1 + (x % 3))) (nI_add _ _) ?_
  refine mw_iald i_79_6 (jn := 1 + (x % 3)) (n := 18) (by omega) (by omega) hQ.2.2.2.2.2 (by decide) (v := nI c) hc ?_
  refine mw_iretI i_79_7 (x := nI c) rt_79 ?_
  exact q
set_option maxRecDepth 20000 in
set_option maxHeartbeats 400000 in
theorem a_isHurt {d b : Nat} {K : KM} {I : IM} {R : RM} {Q : QT} {i x : Nat} {v : Int32} (hQ : KQ K) (hi : i < 7) (hv : I QW (9 * i + 4) = v) (q : Q (.inl (some (pI (bI (nI x < v))))) K I R) : Mw d b N_L_isHurt 0 [some (pR (some QW)), some (pI (nI i)), some (pI (nI x))] [] K I R Q := by
  refine mw_iload i_80_0 (x := nI x) rfl ?_
  refine mw_aload i_80_1 (L := QW) rfl ?_
  refine mw_const i_80_2 (v := nI 9) (by decide) ?_
  refine mw_iload i_80_3 (x := nI i) rfl ?_
  refine mw_imul i_80_4 (w := nI (9 * i)) (pk_mul _ _) ?_
  refine mw_const i_80_5 (v := nI 4) (by decide) ?_
  refine mw_iadd i_80_6 (w := nI (9 * i + 4)) (nI_add _ _) ?_
  refine mw_iald i_80_7 (jn := 9 * i + 4) (n := 63) (by omega) (by omega) hQ.1 (by decide) (v := v) hv ?_
  refine mw_ic i_80_8 (p := v ≤ (nI x)) Iff.rfl (fun c1 => ?_) (fun c1 => ?_)
  · skip
    refine mw_const i_80_11 (v := nI 0) (by decide) ?_
    refine mw_iret i_80_12 (x := nI 0) (fun _ => (by decide)) ?_
    rw [show nI 0 = bI (nI x < v) from (bI_f (Int32.not_lt.mpr c1)).symm]
    exact q
  · skip
    refine mw_const i_80_9 (v := nI 1) (by decide) ?_
    refine mw_goto i_80_10 ?_
    refine mw_iret i_80_12 (x := nI 1) (fun _ => (by decide)) ?_
    rw [show nI 1 = bI (nI x < v) from (bI_t (Int32.not_le.mp c1)).symm]
    exact q
set_option maxRecDepth 20000 in
set_option maxHeartbeats 400000 in
theorem a_worth {d b : Nat} {K : KM} {I : IM} {R : RM} {Q : QT} {t i : Nat} {sk lo st : Int32} (hQ : KQ K) (ht : t < 4) (hi : i < 7) (h0 : I QW (9 * i) = sk) (h1 : I QV (7 * t + i) = lo) (h3 : I QW (9 * i + 3) = st) (q : Q (.inl (some (pI (wth sk lo st)))) K I R) : Mw d b N_L_worth 0 [some (pR (some QW)), some (pR (some QV)), some (pI (nI t)), some (pI (nI i)), none, none] [] K I R Q := by
  refine mw_aload i_81_0 (L := QV) rfl ?_
  refine mw_const i_81_1 (v := nI 7) (by decide) ?_
  refine mw_iload i_81_2 (x := nI t) rfl ?_
  refine mw_imul i_81_3 (w := nI (7 * t)) (pk_mul _ _) ?_
  refine mw_iload i_81_4 (x := nI i) rfl ?_
  refine mw_iadd i_81_5 (w := nI (7 * t + i)) (nI_add _ _) ?_
  refine mw_iald i_81_6 (jn := 7 * t + i) (n := 28) (by omega) (by omega) hQ.2.1 (by decide) (v := lo) h1 ?_
  refine mw_istore i_81_7 (ls' := [some (pR (some QW)), some (pR (some QV)), some (pI (nI t)), some (pI (nI i)), some (pI lo), none]) rfl (Nat.le_of_ble_eq_true rfl) ?_
  refine mw_aload i_81_8 (L := QW) rfl ?_
  refine mw_const i_81_9 (v := nI 9) (by decide) ?_
  refine mw_iload i_81_10 (x := nI i) rfl ?_
  refine mw_imul i_81_11 (w := nI (9 * i)) (pk_mul _ _) ?_
  refine mw_iald i_81_12 (jn := 9 * i) (n := 63) (by omega) (by omega) hQ.1 (by decide) (v := sk) h0 ?_
  have J1 : Mw d b 81 19 [some (pR (some QW)), some (pR (some QV)), some (pI (nI t)), some (pI (nI i)), some (pI lo), none] [pI (if 0 ≤ lo then lo else 0 - lo), pI sk] K I R Q := by
    refine mw_iadd i_81_19 (w := (sk + (if 0 ≤ lo then lo else 0 - lo))) rfl ?_
    refine mw_aload i_81_20 (L := QW) rfl ?_
    refine mw_const i_81_21 (v := nI 9) (by decide) ?_
    refine mw_iload i_81_22 (x := nI i) rfl ?_
    refine mw_imul i_81_23 (w := nI (9 * i)) (pk_mul _ _) ?_
    refine mw_const i_81_24 (v := nI 3) (by decide) ?_
    refine mw_iadd i_81_25 (w := nI (9 * i + 3)) (nI_add _ _) ?_
    refine mw_iald i_81_26 (jn := 9 * i + 3) (n := 63) (by omega) (by omega) hQ.1 (by decide) (v := st) h3 ?_
    refine mw_const i_81_27 (v := nI 10) (by decide) ?_
    refine mw_idiv i_81_28 (by decide) (w := (st / (nI 10))) rfl ?_
    refine mw_isub i_81_29 (w := ((sk + (if 0 ≤ lo then lo else 0 - lo)) - (st / (nI 10)))) rfl ?_
    refine mw_istore i_81_30 (ls' := [some (pR (some QW)), some (pR (some QV)), some (pI (nI t)), some (pI (nI i)), some (pI lo), some (pI ((sk + (if 0 ≤ lo then lo else 0 - lo)) - (st / (nI 10))))]) rfl (Nat.le_of_ble_eq_true rfl) ?_
    refine mw_iload i_81_31 (x := ((sk + (if 0 ≤ lo then lo else 0 - lo)) - (st / (nI 10)))) rfl ?_
    refine mw_const i_81_32 (v := nI 1) (by decide) ?_
    refine mw_ic i_81_33 (p := ((sk + (if 0 ≤ lo then lo else 0 - lo)) - (st / (nI 10))) ≤ (nI 1)) Iff.rfl (fun c2 => ?_) (fun c2 => ?_)
    · skip
      refine mw_const i_81_36 (v := nI 1) (by decide) ?_
      refine mw_iretI i_81_37 (x := nI 1) rt_81 ?_
      rw [show nI 1 = wth sk lo st from (if_neg (Int32.not_lt.mpr c2)).symm]
      exact q
    · skip
      refine mw_iload i_81_34 (x := ((sk + (if 0 ≤ lo then lo else 0 - lo)) - (st / (nI 10)))) rfl ?_
      refine mw_goto i_81_35 ?_
      refine mw_iretI i_81_37 (x := ((sk + (if 0 ≤ lo then lo else 0 - lo)) - (st / (nI 10)))) rt_81 ?_
      rw [show ((sk + (if 0 ≤ lo then lo else 0 - lo)) - (st / (nI 10))) = wth sk lo st from (if_pos (Int32.not_le.mp c2)).symm]
      exact q
  refine mw_iload i_81_13 (x := lo) rfl ?_
  refine mw_if i_81_14 (p := lo ≤ nI 0) Iff.rfl (fun c3 => ?_) (fun c3 => ?_)
  · skip
    refine mw_iload i_81_17 (x := lo) rfl ?_
    refine mw_ineg i_81_18 (w := -lo) rfl ?_
    exact mw_top (show -lo = (if 0 ≤ lo then lo else 0 - lo) from ab_le c3) J1
  · skip
    refine mw_iload i_81_15 (x := lo) rfl ?_
    refine mw_goto i_81_16 ?_
    exact mw_top (show lo = (if 0 ≤ lo then lo else 0 - lo) from ab_gt c3) J1
set_option maxRecDepth 20000 in
set_option maxHeartbeats 400000 in
theorem a_isBarred {d b : Nat} {K : KM} {I : IM} {R : RM} {Q : QT} {x lo wi cc p z : Nat} (hQ : KQ K) (hx : x < 1000) (hl : lo < 7) (hw : wi < 7) (hcc : cc ≤ 1000) (hp : p ≤ 1000) (hz : z ≤ 1) (hc : I QC (7 * lo + wi) = nI cc) (h8 : I QW (9 * lo + 8) = nI (2 * p + z)) (q : Q (.inl (some (pI (bI (nI x < nI cc ∨ nI x < nI p))))) K I R) : Mw d b N_L_isBarred 0 [some (pR (some QW)), some (pR (some QC)), some (pI (nI lo)), some (pI (nI wi)), some (pI (nI x))] [] K I R Q := by
  refine mw_iload i_82_0 (x := nI x) rfl ?_
  refine mw_aload i_82_1 (L := QC) rfl ?_
  refine mw_const i_82_2 (v := nI 7) (by decide) ?_
  refine mw_iload i_82_3 (x := nI lo) rfl ?_
  refine mw_imul i_82_4 (w := nI (7 * lo)) (pk_mul _ _) ?_
  refine mw_iload i_82_5 (x := nI wi) rfl ?_
  refine mw_iadd i_82_6 (w := nI (7 * lo + wi)) (nI_add _ _) ?_
  refine mw_iald i_82_7 (jn := 7 * lo + wi) (n := 49) (by omega) (by omega) hQ.2.2.1 (by decide) (v := nI cc) hc ?_
  refine mw_const i_82_8 (v := nI 1) (by decide) ?_
  refine mw_isub i_82_9 (w := ((nI cc) - (nI 1))) rfl ?_
  refine mw_ic i_82_10 (p := (nI x) ≤ ((nI cc) - (nI 1))) Iff.rfl (fun c1 => ?_) (fun c1 => ?_)
  · skip
    refine mw_const i_82_22 (v := nI 1) (by decide) ?_
    refine mw_goto i_82_23 ?_
    refine mw_iret i_82_25 (x := nI 1) (fun _ => (by decide)) ?_
    rw [show nI 1 = bI (nI x < nI cc ∨ nI x < nI p) from (bI_t (Or.inl (sub1_lt (by omega) (by omega) c1))).symm]
    exact q
  · skip
    refine mw_iload i_82_11 (x := nI x) rfl ?_
    refine mw_aload i_82_12 (L := QW) rfl ?_
    refine mw_const i_82_13 (v := nI 9) (by decide) ?_
    refine mw_iload i_82_14 (x := nI lo) rfl ?_
    refine mw_imul i_82_15 (w := nI (9 * lo)) (pk_mul _ _) ?_
    refine mw_const i_82_16 (v := nI 8) (by decide) ?_
    refine mw_iadd i_82_17 (w := nI (9 * lo + 8)) (nI_add _ _) ?_
    refine mw_iald i_82_18 (jn := 9 * lo + 8) (n := 63) (by omega) (by omega) hQ.1 (by decide) (v := nI (2 * p + z)) h8 ?_
    refine mw_const i_82_19 (v := nI 2) (by decide) ?_
    refine mw_idiv i_82_20 (by decide) (w := nI ((2 * p + z) / 2)) (pk_div (by omega) (by omega) (by omega)) ?_
    refine mw_ic i_82_21 (p := ((2 * p + z) / 2) ≤ x) (nI_leI (by omega) (by omega)) (fun c2 => ?_) (fun c2 => ?_)
    · skip
      refine mw_const i_82_24 (v := nI 0) (by decide) ?_
      refine mw_iret i_82_25 (x := nI 0) (fun _ => (by decide)) ?_
      rw [show nI 0 = bI (nI x < nI cc ∨ nI x < nI p) from (bI_f ((fun h => h.elim (fun h => c1 (le_sub1 (by omega) (by omega) h)) (fun h => absurd ((nI_ltI (by omega) (by omega)).mp h) (by omega))))).symm]
      exact q
    · skip
      refine mw_const i_82_22 (v := nI 1) (by decide) ?_
      refine mw_goto i_82_23 ?_
      refine mw_iret i_82_25 (x := nI 1) (fun _ => (by decide)) ?_
      rw [show nI 1 = bI (nI x < nI cc ∨ nI x < nI p) from (bI_t (Or.inr ((nI_ltI (by omega) (by omega)).mpr (by omega)))).symm]
      exact q
set_option maxRecDepth 20000 in
theorem a_isOn_lp {d b : Nat} {K : KM} {I : IM} {R : RM} {Q : QT} {x one c : Nat} (hd : 1 ≤ d) (hQ : KQ K) (hx : x < 1000) (ho : one < 7) (h3 : c ≤ 3) (hc : I QM (1 + x % 3) = nI c) (q : Q (.inl (some (pI (bI (Ex (oN I x one) c))))) K I R) : ∀ (n j : Nat) (u6 : Option PV), c - j < n → j ≤ c → Mw d b N_L_isOn 4 [some (pR (some QK)), some (pR (some QM)), some (pI (nI x)), some (pI (nI one)), some (pI (bI (Ex (oN I x one) j))), some (pI (nI j)), u6] [] K I R Q := by
  obtain ⟨d9, rfl⟩ : ∃ d9, d = d9 + 1 := ⟨d - 1, by omega⟩
  intro n
  induction n with
  | zero => intro j u6 hn; exact absurd hn (Nat.not_lt_zero _)
  | succ n ih =>
    intro j u6 hn hi
    refine mw_iload i_83_4 (x := nI j) rfl ?_
    refine mw_aload i_83_5 (L := QM) rfl ?_
    refine mw_iload i_83_6 (x := nI x) rfl ?_
    refine mw_callS i_83_7 mf_79 (as := [pR (some QM), pI (nI x)]) (rest := [pI (nI j)]) (d' := d9) (b' := b) (ls0 := [some (pR (some QM)), some (pI (nI x))]) rfl rfl rfl (Nat.le_of_ble_eq_true rfl) rfl rfl rfl ?_
    refine a_many hQ (by omega) hc ?_
    refine aft_v ?_
    refine mw_ic i_83_8 (p := c ≤ j) (nI_leI (by omega) (by omega)) (fun c1 => ?_) (fun c1 => ?_)
    · skip
      refine mw_iload i_83_37 (x := bI (Ex (oN I x one) j)) rfl ?_
      refine mw_iretB i_83_38 ?_
      obtain rfl : j = c := by omega
      exact q
    · skip
      refine mw_aload i_83_9 (L := QM) rfl ?_
      refine mw_iload i_83_10 (x := nI x) rfl ?_
      refine mw_callS i_83_11 mf_78 (as := [pR (some QM), pI (nI x)]) (rest := []) (d' := d9) (b' := b) (ls0 := [some (pR (some QM)), some (pI (nI x))]) rfl rfl rfl (Nat.le_of_ble_eq_true rfl) rfl rfl rfl ?_
      refine a_slot (by omega) ?_
      refine aft_v ?_
      refine mw_const i_83_12 (v := nI 6) (by decide) ?_
      refine mw_iload i_83_13 (x := nI j) rfl ?_
      refine mw_imul i_83_14 (w := nI (6 * j)) (pk_mul _ _) ?_
      refine mw_iadd i_83_15 (w := nI (18 * (x % 3) + (6 * j))) (nI_add _ _) ?_
      refine mw_istore i_83_16 (ls' := [some (pR (some QK)), some (pR (some QM)), some (pI (nI x)), some (pI (nI one)), some (pI (bI (Ex (oN I x one) j))), some (pI (nI j)), some (pI (nI (18 * (x % 3) + (6 * j))))]) rfl (Nat.le_of_ble_eq_true rfl) ?_
      have J2 : Mw (d9 + 1) b 83 34 [some (pR (some QK)), some (pR (some QM)), some (pI (nI x)), some (pI (nI one)), some (pI (bI (Ex (oN I x one) j))), some (pI (nI j)), some (pI (nI (18 * (x % 3) + (6 * j))))] [pI (bI (Ex (oN I x one) (j + 1)))] K I R Q := by
        refine mw_istore i_83_34 (ls' := [some (pR (some QK)), some (pR (some QM)), some (pI (nI x)), some (pI (nI one)), some (pI (bI (Ex (oN I x one) (j + 1)))), some (pI (nI j)), some (pI (nI (18 * (x % 3) + (6 * j))))]) rfl (Nat.le_of_ble_eq_true rfl) ?_
        refine mw_iinc i_83_35 (x := nI j) (v := nI (j + 1)) (ls' := [some (pR (some QK)), some (pR (some QM)), some (pI (nI x)), some (pI (nI one)), some (pI (bI (Ex (oN I x one) (j + 1)))), some (pI (nI (j + 1))), some (pI (nI (18 * (x % 3) + (6 * j))))]) rfl (nI_add _ _) rfl ?_
        refine mw_goto i_83_36 ?_
        exact ih (j + 1) _ (by omega) (by omega)
      refine mw_iload i_83_17 (x := bI (Ex (oN I x one) j)) rfl ?_
      refine mw_neB i_83_18 rfl (fun c3 => ?_) (fun c3 => ?_)
      · skip
        refine mw_const i_83_31 (v := nI 1) (by decide) ?_
        refine mw_goto i_83_32 ?_
        exact mw_top (show nI 1 = bI (Ex (oN I x one) (j + 1)) from (bI_t (Ex_m c3)).symm) J2
      · skip
        refine mw_aload i_83_19 (L := QK) rfl ?_
        refine mw_iload i_83_20 (x := nI (18 * (x % 3) + (6 * j))) rfl ?_
        refine mw_iald i_83_21 (jn := 18 * (x % 3) + (6 * j)) (n := 54) (by omega) (by omega) hQ.2.2.2.2.1 (by decide) (v := I QK (18 * (x % 3) + (6 * j))) rfl ?_
        refine mw_iload i_83_22 (x := nI one) rfl ?_
        refine mw_ic i_83_23 (p := (I QK (18 * (x % 3) + (6 * j))) = (nI one)) Iff.rfl (fun c4 => ?_) (fun c4 => ?_)
        · skip
          refine mw_const i_83_31 (v := nI 1) (by decide) ?_
          refine mw_goto i_83_32 ?_
          exact mw_top (show nI 1 = bI (Ex (oN I x one) (j + 1)) from (bI_t (⟨j, by omega, Or.inl c4⟩)).symm) J2
        · skip
          refine mw_aload i_83_24 (L := QK) rfl ?_
          refine mw_iload i_83_25 (x := nI (18 * (x % 3) + (6 * j))) rfl ?_
          refine mw_const i_83_26 (v := nI 1) (by decide) ?_
          refine mw_iadd i_83_27 (w := nI (18 * (x % 3) + (6 * j) + 1)) (nI_add _ _) ?_
          refine mw_iald i_83_28 (jn := 18 * (x % 3) + (6 * j) + 1) (n := 54) (by omega) (by omega) hQ.2.2.2.2.1 (by decide) (v := I QK (18 * (x % 3) + (6 * j) + 1)) rfl ?_
          refine mw_iload i_83_29 (x := nI one) rfl ?_
          refine mw_ic i_83_30 (p := ¬ (I QK (18 * (x % 3) + (6 * j) + 1)) = (nI one)) Iff.rfl (fun c5 => ?_) (fun c5 => ?_)
          · skip
            refine mw_const i_83_33 (v := nI 0) (by decide) ?_
            exact mw_top (show nI 0 = bI (Ex (oN I x one) (j + 1)) from (bI_f (Ex_s c3 (fun h => h.elim c4 c5))).symm) J2
          · skip
            refine mw_const i_83_31 (v := nI 1) (by decide) ?_
            refine mw_goto i_83_32 ?_
            exact mw_top (show nI 1 = bI (Ex (oN I x one) (j + 1)) from (bI_t (⟨j, by omega, Or.inr (Classical.not_not.mp c5)⟩)).symm) J2
set_option maxRecDepth 20000 in
set_option maxHeartbeats 400000 in
theorem a_isOn {d b : Nat} {K : KM} {I : IM} {R : RM} {Q : QT} {x one c : Nat} (hd : 1 ≤ d) (hQ : KQ K) (hx : x < 1000) (ho : one < 7) (h3 : c ≤ 3) (hc : I QM (1 + x % 3) = nI c) (q : Q (.inl (some (pI (bI (Ex (oN I x one) c))))) K I R) : Mw d b N_L_isOn 0 [some (pR (some QK)), some (pR (some QM)), some (pI (nI x)), some (pI (nI one)), none, none, none] [] K I R Q := by
  obtain ⟨d9, rfl⟩ : ∃ d9, d = d9 + 1 := ⟨d - 1, by omega⟩
  refine mw_const i_83_0 (v := nI 0) (by decide) ?_
  refine mw_istore i_83_1 (ls' := [some (pR (some QK)), some (pR (some QM)), some (pI (nI x)), some (pI (nI one)), some (pI (nI 0)), none, none]) rfl (Nat.le_of_ble_eq_true rfl) ?_
  refine mw_const i_83_2 (v := nI 0) (by decide) ?_
  refine mw_istore i_83_3 (ls' := [some (pR (some QK)), some (pR (some QM)), some (pI (nI x)), some (pI (nI one)), some (pI (nI 0)), some (pI (nI 0)), none]) rfl (Nat.le_of_ble_eq_true rfl) ?_
  have hlp := a_isOn_lp (d := d9 + 1) (b := b) (R := R) hd hQ hx ho h3 hc q (c + 1) 0 none (by omega) (by omega)
  rw [bI_f (p := Ex (oN I x one) 0) Ex_0] at hlp
  exact hlp
set_option maxRecDepth 20000 in
set_option maxHeartbeats 400000 in
theorem a_crown {d b : Nat} {K : KM} {I : IM} {R : RM} {Q : QT} {t : Nat} {ch : Int32} (hQ : KQ K) (ht : t < 2) (q : Q (.inl none) K (up2 (up2 I QM (10 + t) (ch + nI 1)) QM (12 + t) (I QM (12 + t) + nI 1)) R) : Mw d b N_L_crown 0 [some (pR (some QM)), some (pI (nI t)), some (pI ch)] [] K I R Q := by
  refine mw_aload i_84_0 (L := QM) rfl ?_
  refine mw_const i_84_1 (v := nI 10) (by decide) ?_
  refine mw_iload i_84_2 (x := nI t) rfl ?_
  refine mw_iadd i_84_3 (w := nI (10 + t)) (nI_add _ _) ?_
  refine mw_iload i_84_4 (x := ch) rfl ?_
  refine mw_const i_84_5 (v := nI 1) (by decide) ?_
  refine mw_iadd i_84_6 (w := (ch + (nI 1))) rfl ?_
  refine mw_iast i_84_7 (jn := 10 + t) (n := 18) (by omega) (by omega) (x := (ch + (nI 1))) hQ.2.2.2.2.2 (I' := up2 I QM (10 + t) (ch + (nI 1))) rfl ?_
  refine mw_aload i_84_8 (L := QM) rfl ?_
  refine mw_const i_84_9 (v := nI 12) (by decide) ?_
  refine mw_iload i_84_10 (x := nI t) rfl ?_
  refine mw_iadd i_84_11 (w := nI (12 + t)) (nI_add _ _) ?_
  refine mw_dup2 i_84_12 trivial trivial ?_
  refine mw_iald i_84_13 (jn := 12 + t) (n := 18) (by omega) (by omega) hQ.2.2.2.2.2 (by decide) (v := I QM (12 + t)) (by rw [up2_at, upd_ne (by omega)]) ?_
  refine mw_const i_84_14 (v := nI 1) (by decide) ?_
  refine mw_iadd i_84_15 (w := ((I QM (12 + t)) + (nI 1))) rfl ?_
  refine mw_iast i_84_16 (jn := 12 + t) (n := 18) (by omega) (by omega) (x := ((I QM (12 + t)) + (nI 1))) hQ.2.2.2.2.2 (I' := up2 (up2 I QM (10 + t) (ch + (nI 1))) QM (12 + t) ((I QM (12 + t)) + (nI 1))) rfl ?_
  refine mw_ret i_84_17 ?_
  exact q
set_option maxRecDepth 20000 in
set_option maxHeartbeats 400000 in
theorem a_love {d b : Nat} {K : KM} {I : IM} {R : RM} {Q : QT} {t i : Nat} {m : Int32} (hQ : KQ K) (ht : t < 4) (hi : i < 7) (q : Q (.inl none) K (up2 I QV (7 * t + i) (cl99 (I QV (7 * t + i) + m))) R) : Mw d b N_L_love 0 [some (pR (some QV)), some (pI (nI t)), some (pI (nI i)), some (pI m), none] [] K I R Q := by
  refine mw_aload i_93_0 (L := QV) rfl ?_
  refine mw_const i_93_1 (v := nI 7) (by decide) ?_
  refine mw_iload i_93_2 (x := nI t) rfl ?_
  refine mw_imul i_93_3 (w := nI (7 * t)) (pk_mul _ _) ?_
  refine mw_iload i_93_4 (x := nI i) rfl ?_
  refine mw_iadd i_93_5 (w := nI (7 * t + i)) (nI_add _ _) ?_
  refine mw_iald i_93_6 (jn := 7 * t + i) (n := 28) (by omega) (by omega) hQ.2.1 (by decide) (v := I QV (7 * t + i)) rfl ?_
  refine mw_iload i_93_7 (x := m) rfl ?_
  refine mw_iadd i_93_8 (w := ((I QV (7 * t + i)) + m)) rfl ?_
  refine mw_istore i_93_9 (ls' := [some (pR (some QV)), some (pI (nI t)), some (pI (nI i)), some (pI m), some (pI ((I QV (7 * t + i)) + m))]) rfl (Nat.le_of_ble_eq_true rfl) ?_
  refine mw_aload i_93_10 (L := QV) rfl ?_
  refine mw_const i_93_11 (v := nI 7) (by decide) ?_
  refine mw_iload i_93_12 (x := nI t) rfl ?_
  refine mw_imul i_93_13 (w := nI (7 * t)) (pk_mul _ _) ?_
  refine mw_iload i_93_14 (x := nI i) rfl ?_
  refine mw_iadd i_93_15 (w := nI (7 * t + i)) (nI_add _ _) ?_
  have J1 : Mw d b 93 27 [some (pR (some QV)), some (pI (nI t)), some (pI (nI i)), some (pI m), some (pI ((I QV (7 * t + i)) + m))] [pI (cl99 (I QV (7 * t + i) + m)), pI (nI (7 * t + i)), pR (some QV)] K I R Q := by
    refine mw_iast i_93_27 (jn := 7 * t + i) (n := 28) (by omega) (by omega) (x := cl99 (I QV (7 * t + i) + m)) hQ.2.1 (I' := up2 I QV (7 * t + i) (cl99 (I QV (7 * t + i) + m))) rfl ?_
    refine mw_ret i_93_28 ?_
    exact q
  refine mw_iload i_93_16 (x := ((I QV (7 * t + i)) + m)) rfl ?_
  refine mw_const i_93_17 (v := (-99)) (by decide) ?_
  refine mw_ic i_93_18 (p := (-99) ≤ ((I QV (7 * t + i)) + m)) Iff.rfl (fun c2 => ?_) (fun c2 => ?_)
  · skip
    refine mw_iload i_93_21 (x := ((I QV (7 * t + i)) + m)) rfl ?_
    refine mw_const i_93_22 (v := nI 99) (by decide) ?_
    refine mw_ic i_93_23 (p := ((I QV (7 * t + i)) + m) ≤ (nI 99)) Iff.rfl (fun c3 => ?_) (fun c3 => ?_)
    · skip
      refine mw_iload i_93_26 (x := ((I QV (7 * t + i)) + m)) rfl ?_
      exact mw_top (show ((I QV (7 * t + i)) + m) = cl99 (I QV (7 * t + i) + m) from cl_3 (Int32.not_lt.mpr c2) c3) J1
    · skip
      refine mw_const i_93_24 (v := nI 99) (by decide) ?_
      refine mw_goto i_93_25 ?_
      exact mw_top (show nI 99 = cl99 (I QV (7 * t + i) + m) from cl_2 (Int32.not_lt.mpr c2) c3) J1
  · skip
    refine mw_const i_93_19 (v := (-99)) (by decide) ?_
    refine mw_goto i_93_20 ?_
    exact mw_top (show (-99) = cl99 (I QV (7 * t + i) + m) from cl_1 (Int32.not_le.mp c2)) J1
set_option maxRecDepth 20000 in
theorem a_turn_lp {d b : Nat} {K : KM} {I : IM} {R : RM} {Q : QT} {i : Nat} {sg : Int32} (hQ : KQ K) (hi : i < 7) (q : Q (.inl none) K (up2 I QW (9 * i + 2) (trl (I QW (9 * i + 2)) (cnt (tuP I i sg) 4))) R) : ∀ (n t : Nat), 4 - t < n → t ≤ 4 → Mw d b N_L_turn 17 [some (pR (some QW)), some (pR (some QV)), some (pI (nI i)), some (pI sg), some (pI (nI (cnt (tuP I i sg) t))), some (pI (nI t))] [] K I R Q := by
  intro n
  induction n with
  | zero => intro t hn; exact absurd hn (Nat.not_lt_zero _)
  | succ n ih =>
    intro t hn hi
    have hcn := cnt_le (tuP I i sg) t
    refine mw_iload i_94_17 (x := nI t) rfl ?_
    refine mw_const i_94_18 (v := nI 4) (by decide) ?_
    refine mw_ic i_94_19 (p := 4 ≤ t) (nI_leI (by omega) (by omega)) (fun c1 => ?_) (fun c1 => ?_)
    · skip
      obtain rfl : t = 4 := by omega
      refine mw_aload i_94_39 (L := QW) rfl ?_
      refine mw_const i_94_40 (v := nI 9) (by decide) ?_
      refine mw_iload i_94_41 (x := nI i) rfl ?_
      refine mw_imul i_94_42 (w := nI (9 * i)) (pk_mul _ _) ?_
      refine mw_const i_94_43 (v := nI 2) (by decide) ?_
      refine mw_iadd i_94_44 (w := nI (9 * i + 2)) (nI_add _ _) ?_
      have J2 : Mw d b 94 65 [some (pR (some QW)), some (pR (some QV)), some (pI (nI i)), some (pI sg), some (pI (nI (cnt (tuP I i sg) 4))), some (pI (nI 4))] [pI (trl (I QW (9 * i + 2)) (cnt (tuP I i sg) 4)), pI (nI (9 * i + 2)), pR (some QW)] K I R Q := by
        refine mw_iast i_94_65 (jn := 9 * i + 2) (n := 63) (by omega) (by omega) (x := trl (I QW (9 * i + 2)) (cnt (tuP I i sg) 4)) hQ.1 (I' := up2 I QW (9 * i + 2) (trl (I QW (9 * i + 2)) (cnt (tuP I i sg) 4))) rfl ?_
        refine mw_ret i_94_66 ?_
        exact q
      refine mw_iload i_94_45 (x := nI (cnt (tuP I i sg) 4)) rfl ?_
      refine mw_const i_94_46 (v := nI 1) (by decide) ?_
      refine mw_ic i_94_47 (p := (cnt (tuP I i sg) 4) ≤ 1) (nI_leI (by omega) (by omega)) (fun c3 => ?_) (fun c3 => ?_)
      · skip
        refine mw_aload i_94_58 (L := QW) rfl ?_
        refine mw_const i_94_59 (v := nI 9) (by decide) ?_
        refine mw_iload i_94_60 (x := nI i) rfl ?_
        refine mw_imul i_94_61 (w := nI (9 * i)) (pk_mul _ _) ?_
        refine mw_const i_94_62 (v := nI 2) (by decide) ?_
        refine mw_iadd i_94_63 (w := nI (9 * i + 2)) (nI_add _ _) ?_
        refine mw_iald i_94_64 (jn := 9 * i + 2) (n := 63) (by omega) (by omega) hQ.1 (by decide) (v := I QW (9 * i + 2)) rfl ?_
        exact mw_top (show I QW (9 * i + 2) = trl (I QW (9 * i + 2)) (cnt (tuP I i sg) 4) from (if_neg (by omega)).symm) J2
      · skip
        refine mw_const i_94_48 (v := nI 1) (by decide) ?_
        refine mw_aload i_94_49 (L := QW) rfl ?_
        refine mw_const i_94_50 (v := nI 9) (by decide) ?_
        refine mw_iload i_94_51 (x := nI i) rfl ?_
        refine mw_imul i_94_52 (w := nI (9 * i)) (pk_mul _ _) ?_
        refine mw_const i_94_53 (v := nI 2) (by decide) ?_
        refine mw_iadd i_94_54 (w := nI (9 * i + 2)) (nI_add _ _) ?_
        refine mw_iald i_94_55 (jn := 9 * i + 2) (n := 63) (by omega) (by omega) hQ.1 (by decide) (v := I QW (9 * i + 2)) rfl ?_
        refine mw_isub i_94_56 (w := ((nI 1) - (I QW (9 * i + 2)))) rfl ?_
        refine mw_goto i_94_57 ?_
        exact mw_top (show ((nI 1) - (I QW (9 * i + 2))) = trl (I QW (9 * i + 2)) (cnt (tuP I i sg) 4) from (if_pos (by omega)).symm) J2
    · skip
      refine mw_iload i_94_20 (x := nI (cnt (tuP I i sg) t)) rfl ?_
      refine mw_iload i_94_21 (x := sg) rfl ?_
      refine mw_aload i_94_22 (L := QV) rfl ?_
      refine mw_const i_94_23 (v := nI 7) (by decide) ?_
      refine mw_iload i_94_24 (x := nI t) rfl ?_
      refine mw_imul i_94_25 (w := nI (7 * t)) (pk_mul _ _) ?_
      refine mw_iload i_94_26 (x := nI i) rfl ?_
      refine mw_iadd i_94_27 (w := nI (7 * t + i)) (nI_add _ _) ?_
      refine mw_iald i_94_28 (jn := 7 * t + i) (n := 28) (by omega) (by omega) hQ.2.1 (by decide) (v := I QV (7 * t + i)) rfl ?_
      refine mw_imul i_94_29 (w := (sg * (I QV (7 * t + i)))) rfl ?_
      refine mw_const i_94_30 (v := nI 50) (by decide) ?_
      refine mw_ic i_94_31 (p := (sg * (I QV (7 * t + i))) < (nI 50)) Iff.rfl (fun c4 => ?_) (fun c4 => ?_)
      · skip
        refine mw_const i_94_34 (v := nI 0) (by decide) ?_
        refine mw_iadd i_94_35 (w := nI (cnt (tuP I i sg) t + 0)) (nI_add _ _) ?_
        refine mw_istore i_94_36 (ls' := [some (pR (some QW)), some (pR (some QV)), some (pI (nI i)), some (pI sg), some (pI (nI (cnt (tuP I i sg) t + 0))), some (pI (nI t))]) rfl (Nat.le_of_ble_eq_true rfl) ?_
        refine mw_iinc i_94_37 (x := nI t) (v := nI (t + 1)) (ls' := [some (pR (some QW)), some (pR (some QV)), some (pI (nI i)), some (pI sg), some (pI (nI (cnt (tuP I i sg) t + 0))), some (pI (nI (t + 1)))]) rfl (nI_add _ _) rfl ?_
        refine mw_goto i_94_38 ?_
        rw [show cnt (tuP I i sg) t + 0 = cnt (tuP I i sg) (t + 1) from (cnt_f (p := tuP I i sg) (n := t) (Int32.not_le.mpr c4)).symm]
        exact ih (t + 1) (by omega) (by omega)
      · skip
        refine mw_const i_94_32 (v := nI 1) (by decide) ?_
        refine mw_goto i_94_33 ?_
        refine mw_iadd i_94_35 (w := nI (cnt (tuP I i sg) t + 1)) (nI_add _ _) ?_
        refine mw_istore i_94_36 (ls' := [some (pR (some QW)), some (pR (some QV)), some (pI (nI i)), some (pI sg), some (pI (nI (cnt (tuP I i sg) t + 1))), some (pI (nI t))]) rfl (Nat.le_of_ble_eq_true rfl) ?_
        refine mw_iinc i_94_37 (x := nI t) (v := nI (t + 1)) (ls' := [some (pR (some QW)), some (pR (some QV)), some (pI (nI i)), some (pI sg), some (pI (nI (cnt (tuP I i sg) t + 1))), some (pI (nI (t + 1)))]) rfl (nI_add _ _) rfl ?_
        refine mw_goto i_94_38 ?_
        rw [← cnt_t (p := tuP I i sg) (n := t) (Int32.not_lt.mp c4)]
        exact ih (t + 1) (by omega) (by omega)
set_option maxRecDepth 20000 in
set_option maxHeartbeats 400000 in
theorem a_turn {d b : Nat} {K : KM} {I : IM} {R : RM} {Q : QT} {i : Nat} (hQ : KQ K) (hi : i < 7) (q : Q (.inl none) K (up2 I QW (9 * i + 2) (trl (I QW (9 * i + 2)) (cnt (tuP I i (sgn (I QW (9 * i + 2)))) 4))) R) : Mw d b N_L_turn 0 [some (pR (some QW)), some (pR (some QV)), some (pI (nI i)), none, none, none] [] K I R Q := by
  have J1 : Mw d b 94 12 [some (pR (some QW)), some (pR (some QV)), some (pI (nI i)), none, none, none] [pI (sgn (I QW (9 * i + 2)))] K I R Q := by
    refine mw_istore i_94_12 (ls' := [some (pR (some QW)), some (pR (some QV)), some (pI (nI i)), some (pI (sgn (I QW (9 * i + 2)))), none, none]) rfl (Nat.le_of_ble_eq_true rfl) ?_
    refine mw_const i_94_13 (v := nI 0) (by decide) ?_
    refine mw_istore i_94_14 (ls' := [some (pR (some QW)), some (pR (some QV)), some (pI (nI i)), some (pI (sgn (I QW (9 * i + 2)))), some (pI (nI 0)), none]) rfl (Nat.le_of_ble_eq_true rfl) ?_
    refine mw_const i_94_15 (v := nI 0) (by decide) ?_
    refine mw_istore i_94_16 (ls' := [some (pR (some QW)), some (pR (some QV)), some (pI (nI i)), some (pI (sgn (I QW (9 * i + 2)))), some (pI (nI 0)), some (pI (nI 0))]) rfl (Nat.le_of_ble_eq_true rfl) ?_
    exact a_turn_lp hQ hi q 5 0 (by omega) (by omega)
  refine mw_aload i_94_0 (L := QW) rfl ?_
  refine mw_const i_94_1 (v := nI 9) (by decide) ?_
  refine mw_iload i_94_2 (x := nI i) rfl ?_
  refine mw_imul i_94_3 (w := nI (9 * i)) (pk_mul _ _) ?_
  refine mw_const i_94_4 (v := nI 2) (by decide) ?_
  refine mw_iadd i_94_5 (w := nI (9 * i + 2)) (nI_add _ _) ?_
  refine mw_iald i_94_6 (jn := 9 * i + 2) (n := 63) (by omega) (by omega) hQ.1 (by decide) (v := I QW (9 * i + 2)) rfl ?_
  refine mw_const i_94_7 (v := nI 1) (by decide) ?_
  refine mw_ic i_94_8 (p := ¬ (I QW (9 * i + 2)) = (nI 1)) Iff.rfl (fun c2 => ?_) (fun c2 => ?_)
  · skip
    refine mw_const i_94_11 (v := (-1)) (by decide) ?_
    exact mw_top (show (-1) = sgn (I QW (9 * i + 2)) from (if_neg c2).symm) J1
  · skip
    refine mw_const i_94_9 (v := nI 1) (by decide) ?_
    refine mw_goto i_94_10 ?_
    exact mw_top (show nI 1 = sgn (I QW (9 * i + 2)) from (if_pos (Classical.not_not.mp c2)).symm) J1
set_option maxRecDepth 20000 in
theorem a_count_lp {d b : Nat} {K : KM} {I : IM} {R : RM} {Q : QT} {p : Nat → Prop}  (q : Q (.inl (some (pI (nI (cnt p 6))))) K I R) : ∀ (n i : Nat), 6 - i < n → i ≤ 6 → Mw d b N_L_count 4 [some (pI (nI (bs p 6))), some (pI (nI (cnt p i))), some (pI (nI i))] [] K I R Q := by
  intro n
  induction n with
  | zero => intro i hn; exact absurd hn (Nat.not_lt_zero _)
  | succ n ih =>
    intro i hn hi
    refine mw_iload i_88_4 (x := nI i) rfl ?_
    refine mw_const i_88_5 (v := nI 6) (by decide) ?_
    refine mw_ic i_88_6 (p := 6 ≤ i) (nI_leI (by omega) (by omega)) (fun c1 => ?_) (fun c1 => ?_)
    · skip
      refine mw_iload i_88_17 (x := nI (cnt p i)) rfl ?_
      refine mw_iretI i_88_18 (x := nI (cnt p i)) rt_88 ?_
      obtain rfl : i = 6 := by omega
      exact q
    · skip
      refine mw_iload i_88_7 (x := nI (cnt p i)) rfl ?_
      refine mw_iload i_88_8 (x := nI (bs p 6)) rfl ?_
      refine mw_iload i_88_9 (x := nI i) rfl ?_
      refine mw_ishr i_88_10 (w := nI (bs p 6) >>> (nI i &&& 31)) rfl ?_
      refine mw_const i_88_11 (v := nI 1) (by decide) ?_
      refine mw_iand i_88_12 (w := bI (p i)) (bs_bit (by omega) (by omega)) ?_
      refine mw_iadd i_88_13 (w := nI (cnt p (i + 1))) (cnt_b _ _) ?_
      refine mw_istore i_88_14 (ls' := [some (pI (nI (bs p 6))), some (pI (nI (cnt p (i + 1)))), some (pI (nI i))]) rfl (Nat.le_of_ble_eq_true rfl) ?_
      refine mw_iinc i_88_15 (x := nI i) (v := nI (i + 1)) (ls' := [some (pI (nI (bs p 6))), some (pI (nI (cnt p (i + 1)))), some (pI (nI (i + 1)))]) rfl (nI_add _ _) rfl ?_
      refine mw_goto i_88_16 ?_
      exact ih (i + 1) (by omega) (by omega)
set_option maxRecDepth 20000 in
set_option maxHeartbeats 400000 in
theorem a_count {d b : Nat} {K : KM} {I : IM} {R : RM} {Q : QT} {p : Nat → Prop}  (q : Q (.inl (some (pI (nI (cnt p 6))))) K I R) : Mw d b N_L_count 0 [some (pI (nI (bs p 6))), none, none] [] K I R Q := by
  refine mw_const i_88_0 (v := nI 0) (by decide) ?_
  refine mw_istore i_88_1 (ls' := [some (pI (nI (bs p 6))), some (pI (nI 0)), none]) rfl (Nat.le_of_ble_eq_true rfl) ?_
  refine mw_const i_88_2 (v := nI 0) (by decide) ?_
  refine mw_istore i_88_3 (ls' := [some (pI (nI (bs p 6))), some (pI (nI 0)), some (pI (nI 0))]) rfl (Nat.le_of_ble_eq_true rfl) ?_
  exact a_count_lp q 7 0 (by omega) (by omega)
set_option maxRecDepth 20000 in
theorem a_isAhead_lp {d b : Nat} {K : KM} {I : IM} {R : RM} {Q : QT} {d1 d2 : Nat → Nat} (h1 : ∀ j, d1 j ≤ 7) (h2 : ∀ j, d2 j ≤ 7) (q : Q (.inl (some (pI (bI (Ahd d1 d2))))) K I R) : ∀ (n i : Nat) (he : ∀ j, j < i → d1 j = d2 j) (u3 : Option PV), 6 - i < n → i ≤ 6 → Mw d b N_L_isAhead 2 [some (pI (nI (en d1 6))), some (pI (nI (en d2 6))), some (pI (nI i)), u3] [] K I R Q := by
  intro n
  induction n with
  | zero => intro i he u3 hn; exact absurd hn (Nat.not_lt_zero _)
  | succ n ih =>
    intro i he u3 hn hi
    have hb1 := h1 i
    have hb2 := h2 i
    refine mw_iload i_90_2 (x := nI i) rfl ?_
    refine mw_const i_90_3 (v := nI 6) (by decide) ?_
    refine mw_ic i_90_4 (p := 6 ≤ i) (nI_leI (by omega) (by omega)) (fun c1 => ?_) (fun c1 => ?_)
    · skip
      refine mw_const i_90_31 (v := nI 0) (by decide) ?_
      refine mw_iret i_90_32 (x := nI 0) (fun _ => (by decide)) ?_
      obtain rfl : i = 6 := by omega
      rw [show nI 0 = bI (Ahd d1 d2) from (bI_f (fun h => by obtain ⟨j, hj, _, h5⟩ := h; have := he j hj; omega)).symm]
      exact q
    · skip
      refine mw_iload i_90_5 (x := nI (en d1 6)) rfl ?_
      refine mw_const i_90_6 (v := nI 3) (by decide) ?_
      refine mw_iload i_90_7 (x := nI i) rfl ?_
      refine mw_imul i_90_8 (w := nI (3 * i)) (pk_mul _ _) ?_
      refine mw_ishr i_90_9 (w := nI (en d1 6) >>> (nI (3 * i) &&& 31)) rfl ?_
      refine mw_const i_90_10 (v := nI 7) (by decide) ?_
      refine mw_iand i_90_11 (w := nI (d1 i)) (en_dig h1 (by omega)) ?_
      refine mw_iload i_90_12 (x := nI (en d2 6)) rfl ?_
      refine mw_const i_90_13 (v := nI 3) (by decide) ?_
      refine mw_iload i_90_14 (x := nI i) rfl ?_
      refine mw_imul i_90_15 (w := nI (3 * i)) (pk_mul _ _) ?_
      refine mw_ishr i_90_16 (w := nI (en d2 6) >>> (nI (3 * i) &&& 31)) rfl ?_
      refine mw_const i_90_17 (v := nI 7) (by decide) ?_
      refine mw_iand i_90_18 (w := nI (d2 i)) (en_dig h2 (by omega)) ?_
      refine mw_isub i_90_19 (w := (nI (d1 i) - nI (d2 i))) rfl ?_
      refine mw_istore i_90_20 (ls' := [some (pI (nI (en d1 6))), some (pI (nI (en d2 6))), some (pI (nI i)), some (pI (nI (d1 i) - nI (d2 i)))]) rfl (Nat.le_of_ble_eq_true rfl) ?_
      refine mw_iload i_90_21 (x := (nI (d1 i) - nI (d2 i))) rfl ?_
      refine mw_if i_90_22 (p := (nI (d1 i) - nI (d2 i)) = nI 0) Iff.rfl (fun c2 => ?_) (fun c2 => ?_)
      · skip
        refine mw_iinc i_90_29 (x := nI i) (v := nI (i + 1)) (ls' := [some (pI (nI (en d1 6))), some (pI (nI (en d2 6))), some (pI (nI (i + 1))), some (pI (nI (d1 i) - nI (d2 i)))]) rfl (nI_add _ _) rfl ?_
        refine mw_goto i_90_30 ?_
        exact ih (i + 1) (fun j hj => by
          by_cases e : j = i
          · subst e; exact sub_eq0 (by omega) (by omega) c2
          · exact he j (by omega)) _ (by omega) (by omega)
      · skip
        refine mw_iload i_90_23 (x := (nI (d1 i) - nI (d2 i))) rfl ?_
        refine mw_if i_90_24 (p := nI 0 ≤ (nI (d1 i) - nI (d2 i))) Iff.rfl (fun c3 => ?_) (fun c3 => ?_)
        · skip
          refine mw_const i_90_27 (v := nI 0) (by decide) ?_
          refine mw_iret i_90_28 (x := nI 0) (fun _ => (by decide)) ?_
          rw [show nI 0 = bI (Ahd d1 d2) from (bI_f (Ahd_n he (by omega) (sub_gt0 (by omega) (by omega) c2 c3))).symm]
          exact q
        · skip
          refine mw_const i_90_25 (v := nI 1) (by decide) ?_
          refine mw_goto i_90_26 ?_
          refine mw_iret i_90_28 (x := nI 1) (fun _ => (by decide)) ?_
          rw [show nI 1 = bI (Ahd d1 d2) from (bI_t ⟨i, by omega, he, sub_lt0 (by omega) (by omega) (Int32.not_le.mp c3)⟩).symm]
          exact q
set_option maxRecDepth 20000 in
set_option maxHeartbeats 400000 in
theorem a_isAhead {d b : Nat} {K : KM} {I : IM} {R : RM} {Q : QT} {d1 d2 : Nat → Nat} (h1 : ∀ j, d1 j ≤ 7) (h2 : ∀ j, d2 j ≤ 7) (q : Q (.inl (some (pI (bI (Ahd d1 d2))))) K I R) : Mw d b N_L_isAhead 0 [some (pI (nI (en d1 6))), some (pI (nI (en d2 6))), none, none] [] K I R Q := by
  refine mw_const i_90_0 (v := nI 0) (by decide) ?_
  refine mw_istore i_90_1 (ls' := [some (pI (nI (en d1 6))), some (pI (nI (en d2 6))), some (pI (nI 0)), none]) rfl (Nat.le_of_ble_eq_true rfl) ?_
  exact a_isAhead_lp h1 h2 q 7 0 (fun j hj => absurd hj (Nat.not_lt_zero _)) _ (by omega) (by omega)
