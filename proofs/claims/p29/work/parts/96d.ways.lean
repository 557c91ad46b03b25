/-! ways to mend, as the law writes them -/
theorem nI_or (a b : Nat) : nI a ||| nI b = nI (a ||| b) := by
  apply Int32.toBitVec_inj.1
  show BitVec.ofNat 32 a ||| BitVec.ofNat 32 b = BitVec.ofNat 32 (a ||| b)
  apply BitVec.eq_of_getLsbD_eq
  intro i hi
  simp [hi]
theorem or_hi {a b j : Nat} (ha : a < 8 ^ j) : nI a ||| nI (b * 8 ^ j) = nI (a + b * 8 ^ j) := by
  rw [nI_or, Nat.or_comm, ← p8, ← Nat.shiftLeft_eq, Nat.add_comm a, Nat.shiftLeft_add_eq_or_of_lt (by rw [p8]; exact ha)]
theorem shl_hi {b j : Nat} (hb : b ≤ 7) (hj : j < 6) : nI b <<< (nI (3 * j) &&& 31) = nI (b * 8 ^ j) := by
  have h : (8 : Nat) ^ j ≤ 8 ^ 5 := Nat.pow_le_pow_right (by decide) (by omega)
  have h2 := Nat.mul_le_mul hb h
  rw [pk_shlN _ (3 * j) (s_l6 (3 * j) (by omega)) (by rw [p8]; omega), p8]
theorem and7 {a : Nat} (ha : a < 2147483648) : nI a &&& nI 7 = nI (a % 8) := pk_andN (by omega) 3 (by decide)
theorem shr3 {a : Nat} (ha : a < 2147483648) : nI a >>> (nI 3 &&& 31) = nI (a / 8) := pk_shrN (by omega) _ 3 (by decide)
/-- the digits of a way, a seat each -/
noncomputable def dW (σ : ST) (c : Nat → Nat) (s : Nat) : Nat := @ite _ (oP σ s) (Classical.propDecidable _) (c (cnt (oP σ) s)) 7
theorem dW_t {σ : ST} {c : Nat → Nat} {s : Nat} (h : oP σ s) : dW σ c s = c (cnt (oP σ) s) := if_pos h
theorem dW_f {σ : ST} {c : Nat → Nat} {s : Nat} (h : ¬ oP σ s) : dW σ c s = 7 := if_neg h
theorem dW_le {σ : ST} {c : Nat → Nat} (hc : ∀ k, c k ≤ 7) (s : Nat) : dW σ c s ≤ 7 := by
  by_cases h : oP σ s
  · rw [dW_t h]; exact hc _
  · rw [dW_f h]; exact Nat.le_refl _
/-- who came so far -/
def cmP (σ : ST) (c : Nat → Nat) (s w : Nat) : Prop := ∃ k, k < cnt (oP σ) s ∧ c k = w
theorem bs_congr {p q : Nat → Prop} : ∀ {n : Nat}, (∀ w, w < n → (p w ↔ q w)) → bs p n = bs q n
  | 0, _ => rfl
  | n + 1, h => by
    have ih := bs_congr (p := p) (q := q) (n := n) (fun w hw => h w (by omega))
    by_cases e : p n
    · rw [bs_t e, bs_t ((h n (by omega)).mp e), ih]
    · rw [bs_f e, bs_f (fun q9 => e ((h n (by omega)).mpr q9)), ih]
theorem bs_ins {p q : Nat → Prop} {w : Nat} (hp : ¬ p w) (hq : ∀ v, q v ↔ (p v ∨ v = w)) : ∀ {n : Nat}, w < n → bs q n = bs p n + 2 ^ w
  | 0, h => absurd h (Nat.not_lt_zero _)
  | n + 1, h => by
    by_cases e : w = n
    · subst e
      rw [bs_t ((hq w).mpr (Or.inr rfl)), bs_f hp]
      rw [bs_congr (p := q) (q := p) (n := w) (fun v hv => (hq v).trans ⟨fun h => h.elim id (fun e => absurd e (by omega)), Or.inl⟩)]
    · have ih := bs_ins hp hq (n := n) (by omega)
      by_cases hpn : p n
      · rw [bs_t ((hq n).mpr (Or.inl hpn)), bs_t hpn, ih]; omega
      · rw [bs_f (fun h => hpn (((hq n).mp h).elim id (fun e2 => absurd e2.symm e))), bs_f hpn, ih]
theorem cm_ins {σ : ST} {c : Nat → Nat} {j e : Nat} (ho : oP σ j) (he : e = dW σ c j) (h7 : e < 7) (hn : ¬ cmP σ c j e) : nI (bs (cmP σ c j) 7) ||| nI (2 ^ e) = nI (bs (cmP σ c (j + 1)) 7) := by
  rw [dW_t ho] at he
  have hq : ∀ v, cmP σ c (j + 1) v ↔ (cmP σ c j v ∨ v = e) := fun v => by
    unfold cmP
    rw [cnt_t ho]
    constructor
    · rintro ⟨k, hk, hv⟩
      by_cases e9 : k = cnt (oP σ) j
      · right; rw [← hv, he, e9]
      · left; exact ⟨k, by omega, hv⟩
    · rintro (⟨k, hk, hv⟩ | rfl)
      · exact ⟨k, by omega, hv⟩
      · exact ⟨cnt (oP σ) j, Nat.lt_succ_self _, he.symm⟩
  rw [bs_ins hn hq h7]
  refine orl7 _ (bs_lt _ 7) e h7 ?_
  rw [bs_div h7, if_neg hn]
theorem cm_same {σ : ST} {c : Nat → Nat} {j : Nat} (h : ¬ oP σ j ∨ dW σ c j = 7) : bs (cmP σ c (j + 1)) 7 = bs (cmP σ c j) 7 := bs_congr (fun w hw => by
  unfold cmP
  by_cases ho : oP σ j
  · rw [cnt_t ho]
    have h7 : c (cnt (oP σ) j) = 7 := by rw [← dW_t (c := c) ho]; exact h.resolve_left (fun q => q ho)
    constructor
    · rintro ⟨k, hk, hv⟩
      by_cases e9 : k = cnt (oP σ) j
      · subst e9; omega
      · exact ⟨k, by omega, hv⟩
    · rintro ⟨k, hk, hv⟩; exact ⟨k, by omega, hv⟩
  · rw [cnt_f ho])
theorem smW_s {σ : ST} {tw : Nat} {c : Nat → Nat} {k : Nat} : smW σ tw c (k + 1) = smW σ tw c k + wo σ tw (c k) := rfl
theorem sm_same {σ : ST} {tw : Nat} {c : Nat → Nat} {j : Nat} (h10 : pn σ = 7) (h : ¬ oP σ j ∨ dW σ c j = 7) : smW σ tw c (cnt (oP σ) (j + 1)) = smW σ tw c (cnt (oP σ) j) := by
  by_cases ho : oP σ j
  · have h7 : c (cnt (oP σ) j) = pn σ := by rw [h10, ← dW_t (c := c) ho]; exact h.resolve_left (fun q => q ho)
    rw [cnt_t ho, smW_s, h7, wo_P, add0]
  · rw [cnt_f ho]
theorem sm_up {σ : ST} {tw : Nat} {c : Nat → Nat} {j e : Nat} (h10 : pn σ = 7) (ho : oP σ j) (he : e = dW σ c j) (h7 : e < 7) : smW σ tw c (cnt (oP σ) (j + 1)) = smW σ tw c (cnt (oP σ) j) + wrt σ tw e := by
  rw [dW_t ho] at he
  rw [cnt_t ho, smW_s, ← he, wo_n (by omega)]
/-- the comers so far are there to come, each once -/
def Cm (σ : ST) (c : Nat → Nat) (k : Nat) : Prop := ¬ c k = 7 → cand σ (c k) ∧ ∀ i, i < k → ¬ c i = c k
theorem cm_same2 {σ : ST} {c : Nat → Nat} {j : Nat} (hI : ∀ k, k < cnt (oP σ) j → Cm σ c k) (h : ¬ oP σ j ∨ dW σ c j = 7) : ∀ k, k < cnt (oP σ) (j + 1) → Cm σ c k := fun k hk => by
  by_cases ho : oP σ j
  · rw [cnt_t ho] at hk
    by_cases e : k = cnt (oP σ) j
    · intro h7
      rw [e, ← dW_t (c := c) ho] at h7
      exact absurd (h.resolve_left (fun q => q ho)) h7
    · exact hI k (by omega)
  · rw [cnt_f ho] at hk; exact hI k hk
theorem cm_up2 {σ : ST} {c : Nat → Nat} {j e : Nat} (hI : ∀ k, k < cnt (oP σ) j → Cm σ c k) (ho : oP σ j) (he : e = dW σ c j) (h1 : cand σ e) (h2 : ¬ cmP σ c j e) : ∀ k, k < cnt (oP σ) (j + 1) → Cm σ c k := fun k hk => by
  rw [cnt_t ho] at hk
  rw [dW_t ho] at he
  by_cases e9 : k = cnt (oP σ) j
  · intro _
    rw [e9, ← he]
    exact ⟨h1, fun i hi q => h2 ⟨i, hi, q⟩⟩
  · exact hI k (by omega)
theorem mO_le {σ : ST} : mO σ ≤ 2 * mn σ (dn σ) := cnt_le _ _
theorem oc_lt {n : Nat} {σ : ST} {I : IM} (hL : LR n σ I) {j : Nat} (hj : j < 6) (ho : oP σ j) : cnt (oP σ) j < mO σ := by
  rw [← cnt6 hL]
  exact cnt_lt hj ho
theorem sO_bad {n : Nat} {σ : ST} {I : IM} {tw : Nat} {c : Nat → Nat} (hL : LR n σ I) {j e : Nat} (hj : j < 6) (ho : oP σ j) (he : e = dW σ c j) (h7 : e < 7) (h : ¬ cand σ e ∨ cmP σ c j e) : (-1) = Vv σ tw c := by
  rw [dW_t ho] at he
  have h10 := hL.2.2.2.2.2.2.2.2.2.1
  refine (if_neg (fun hP => ?_)).symm
  have := (hP _ (oc_lt hL hj ho)).1 (by rw [← he]; omega)
  rw [← he] at this
  rcases h with h | ⟨k, hk, hv⟩
  · exact h this.1
  · exact this.2 k hk hv
/-- a match of a way is as it must be -/
def okM (σ : ST) (c : Nat → Nat) (m : Nat) : Prop := (oP σ (2 * m) ∧ oP σ (2 * m + 1) → (who σ c (mO σ) (2 * m) = 7 ↔ who σ c (mO σ) (2 * m + 1) = 7)) ∧ (oP σ (2 * m) ∨ oP σ (2 * m + 1) → ¬ bad σ c (mO σ) m)
theorem oP_opn {σ : ST} {s : Nat} (h : s < 2 * mn σ (dn σ)) : oP σ s ↔ opn σ s := ⟨fun q => q.2, fun q => ⟨h, q⟩⟩
theorem who_o {σ : ST} {c : Nat → Nat} {s : Nat} (h : oP σ s) : who σ c (mO σ) s = dW σ c s := by
  have h2 : cnt (opn σ) s < mO σ := cnt_lt h.1 h.2
  unfold who
  rw [if_pos h.2, if_pos h2, dW_t h, cnt_oP (Nat.le_of_lt h.1)]
theorem who_c {σ : ST} {c : Nat → Nat} {s : Nat} (hs : s < 2 * mn σ (dn σ)) (h : ¬ oP σ s) : who σ c (mO σ) s = sw σ s := by
  unfold who
  rw [if_neg (fun q => h ⟨hs, q⟩)]
theorem Os_at {σ : ST} {s : Nat} (h : oP σ s) : cnt (opn σ) s < mO σ ∧ Os σ (cnt (opn σ) s) = s := ⟨cnt_lt h.1 h.2, pos_cnt h.1 h.2⟩
theorem sO_bad2 {n : Nat} {σ : ST} {I : IM} {tw : Nat} {c : Nat → Nat} (hL : LR n σ I) (hI : ∀ k, k < mO σ → Cm σ c k) {m : Nat} (hm : m < mn σ (dn σ)) (h : ¬ okM σ c m) : (-1) = Vv σ tw c := by
  have h10 := hL.2.2.2.2.2.2.2.2.2.1
  have hI0 : ∀ k, k < mO σ → ¬ c k = pn σ → cand σ (c k) := fun k hk h7 => (hI k hk (by rw [← h10]; exact h7)).1
  refine (if_neg (fun hP => h ?_)).symm
  have hA := (PVd_Al hI0).mp hP
  refine ⟨fun ⟨ha, hb⟩ => ?_, fun ho => ?_⟩
  · obtain ⟨q1, q2⟩ := Os_at ha
    have := (hA _ q1).1
    rw [q2, show fac (2 * m) = 2 * m + 1 by unfold fac; rw [if_pos (by omega)]] at this
    have := this hb.2
    rw [h10] at this
    rw [who_o ha, dW_t ha, cnt_oP (by omega)]
    exact this
  · rcases ho with ho | ho
    · obtain ⟨q1, q2⟩ := Os_at ho
      have := (hA _ q1).2.2
      rw [q2, show 2 * m / 2 = m by omega] at this
      exact this
    · obtain ⟨q1, q2⟩ := Os_at ho
      have := (hA _ q1).2.2
      rw [q2, show (2 * m + 1) / 2 = m by omega] at this
      exact this
theorem sO_good {n : Nat} {σ : ST} {I : IM} {tw : Nat} {c : Nat → Nat} (hL : LR n σ I) (hI : ∀ k, k < mO σ → Cm σ c k) (hM : ∀ m, m < mn σ (dn σ) → okM σ c m) : smW σ tw c (mO σ) = Vv σ tw c := by
  have h10 := hL.2.2.2.2.2.2.2.2.2.1
  have hI0 : ∀ k, k < mO σ → ¬ c k = pn σ → cand σ (c k) := fun k hk h7 => (hI k hk (by rw [← h10]; exact h7)).1
  refine (if_pos ((PVd_Al hI0).mpr (fun i hi => ?_))).symm
  obtain ⟨o1, o2, o3⟩ := Os_lt hi
  have hoP : oP σ (Os σ i) := ⟨o1, o2⟩
  have hw : who σ c (mO σ) (Os σ i) = c i := by rw [who_o hoP, dW_t hoP, cnt_oP (Nat.le_of_lt o1), o3]
  have hm : Os σ i / 2 < mn σ (dn σ) := by omega
  have hk := hM _ hm
  refine ⟨fun hf => ?_, fun h7 => ?_, ?_⟩
  · rw [h10]
    by_cases he : Os σ i % 2 = 0
    · have ef : fac (Os σ i) = Os σ i + 1 := if_pos he
      rw [ef] at hf ⊢
      have e2 : 2 * (Os σ i / 2) = Os σ i := by omega
      have := hk.1
      rw [e2] at this
      rw [← hw]
      exact this ⟨hoP, by omega, hf⟩
    · have ef : fac (Os σ i) = Os σ i - 1 := if_neg he
      rw [ef] at hf ⊢
      have e2 : 2 * (Os σ i / 2) = Os σ i - 1 := by omega
      have := hk.1
      rw [e2, show Os σ i - 1 + 1 = Os σ i by omega] at this
      rw [← hw]
      exact (this ⟨⟨by omega, hf⟩, hoP⟩).symm
  · exact fun j hj => (hI i hi (by rw [← h10]; exact h7)).2 j hj
  · refine hk.2 ?_
    by_cases he : Os σ i % 2 = 0
    · left; rw [show 2 * (Os σ i / 2) = Os σ i by omega]; exact hoP
    · right; rw [show 2 * (Os σ i / 2) + 1 = Os σ i by omega]; exact hoP
/-- two bits -/
noncomputable def b2 (a b : Prop) : Nat := @ite _ a (Classical.propDecidable _) 1 0 + @ite _ b (Classical.propDecidable _) 2 0
theorem b2_le (a b : Prop) : b2 a b ≤ 3 := by unfold b2; split <;> split <;> omega
theorem b2_0 {a b : Prop} : b2 a b = 0 ↔ ¬ (a ∨ b) := by
  unfold b2
  by_cases ha : a <;> by_cases hb : b <;> simp [ha, hb]
theorem b2_3 {a b : Prop} : b2 a b = 3 ↔ a ∧ b := by
  unfold b2
  by_cases ha : a <;> by_cases hb : b <;> simp [ha, hb]
theorem b2_le0 {a b : Prop} : nI (b2 a b) ≤ nI 0 ↔ ¬ (a ∨ b) := by
  have := b2_le a b
  rw [nI_leI (by omega) (by decide), ← b2_0]
  omega
theorem bs_two {p : Nat → Prop} {n i : Nat} (hi : i + 1 < n) (hn : n ≤ 30) : (nI (bs p n) >>> (nI i &&& 31)) &&& nI 3 = nI (b2 (p i) (p (i + 1))) := by
  have hl : bs p n < 2 ^ 30 := Nat.lt_of_lt_of_le (bs_lt p n) (Nat.pow_le_pow_right (by decide) hn)
  have hd : bs p n / 2 ^ i ≤ bs p n := Nat.div_le_self _ _
  have e1 := bs_div (p := p) (s := i) (n := n) (by omega)
  have e2 := bs_div (p := p) (s := i + 1) (n := n) hi
  rw [Nat.pow_succ, ← Nat.div_div_eq_div_mul] at e2
  rw [pk_shrN (by omega) _ i (s_l6 i (by omega)), pk_andN (by omega) 2 (by decide), show (2 : Nat) ^ 2 = 4 from rfl]
  congr 1
  unfold b2
  generalize bs p n / 2 ^ i = a at *
  by_cases h1 : p i
  · rw [if_pos h1] at e1 ⊢
    by_cases h2 : p (i + 1)
    · rw [if_pos h2] at e2 ⊢; omega
    · rw [if_neg h2] at e2 ⊢; omega
  · rw [if_neg h1] at e1 ⊢
    by_cases h2 : p (i + 1)
    · rw [if_pos h2] at e2 ⊢; omega
    · rw [if_neg h2] at e2 ⊢; omega
theorem en_d2 {d : Nat → Nat} (h : ∀ j, d j ≤ 7) {i : Nat} (hi : i < 3) : (nI (en d 6) >>> (nI (6 * i) &&& 31)) &&& nI 7 = nI (d (2 * i)) := by
  have := en_dig h (i := 2 * i) (by omega)
  rw [show 3 * (2 * i) = 6 * i by omega] at this
  exact this
theorem en_d3 {d : Nat → Nat} (h : ∀ j, d j ≤ 7) {i : Nat} (hi : i < 3) : (nI (en d 6) >>> (nI (6 * i + 3) &&& 31)) &&& nI 7 = nI (d (2 * i + 1)) := by
  have := en_dig h (i := 2 * i + 1) (by omega)
  rw [show 3 * (2 * i + 1) = 6 * i + 3 by omega] at this
  exact this
/-- the ways in their order -/
theorem pre_lex {P : Nat} {c c' : Nat → Nat} : ∀ {m : Nat}, (∀ j, j < m → c j ≤ P) → (∃ k, k < m ∧ (∀ j, j < k → c j = c' j) ∧ c k < c' k) → pre P c m < pre P c' m
  | 0, _, ⟨k, hk, _⟩ => absurd hk (Nat.not_lt_zero _)
  | m + 1, hc, ⟨k, hk, he, hl⟩ => by
    show pre P c m * (P + 1) + c m < pre P c' m * (P + 1) + c' m
    by_cases e : k = m
    · subst e
      rw [pre_congr (c := c) (c' := c') (p := k) he]
      omega
    · have ih := pre_lex (m := m) (fun j hj => hc j (by omega)) ⟨k, by omega, he, hl⟩
      have h1 := Nat.mul_le_mul_right (P + 1) (Nat.succ_le_of_lt ih)
      have h2 := hc m (by omega)
      rw [Nat.succ_mul] at h1
      omega
theorem lex_pre {P : Nat} {c c' : Nat → Nat} {m : Nat} (hc : ∀ j, j < m → c j ≤ P) (hc' : ∀ j, j < m → c' j ≤ P) : (∃ k, k < m ∧ (∀ j, j < k → c j = c' j) ∧ c k < c' k) ↔ pre P c m < pre P c' m := by
  refine ⟨pre_lex hc, fun h => ?_⟩
  by_cases e : ∀ j, j < m → c j = c' j
  · rw [pre_congr e] at h; exact absurd h (Nat.lt_irrefl _)
  · obtain ⟨k0, hk0⟩ := Classical.not_forall.mp e
    obtain ⟨hk1, hk2⟩ := Classical.not_imp.mp hk0
    obtain ⟨k, ⟨hk, hne⟩, hmin⟩ := pk_least (fun k => k < m ∧ ¬ c k = c' k) ⟨k0, hk1, hk2⟩
    have he : ∀ j, j < k → c j = c' j := fun j hj => Classical.byContradiction (fun q => hmin j hj ⟨by omega, q⟩)
    rcases Nat.lt_or_ge (c k) (c' k) with hl | hl
    · exact ⟨k, hk, he, hl⟩
    · have := pre_lex (P := P) (c := c') (c' := c) (m := m) hc' ⟨k, hk, fun j hj => (he j hj).symm, by omega⟩
      omega
theorem Ahd_lex {n : Nat} {σ : ST} {I : IM} (hL : LR n σ I) {c c' : Nat → Nat} : Ahd (dW σ c) (dW σ c') ↔ ∃ k, k < mO σ ∧ (∀ j, j < k → c j = c' j) ∧ c k < c' k := by
  have h6 := cnt6 hL
  constructor
  · rintro ⟨s, hs, he, hl⟩
    have ho : oP σ s := Classical.byContradiction (fun q => by rw [dW_f q, dW_f q] at hl; exact absurd hl (Nat.lt_irrefl _))
    refine ⟨cnt (oP σ) s, oc_lt hL hs ho, fun j hj => ?_, by rw [← dW_t (c := c) ho, ← dW_t (c := c') ho]; exact hl⟩
    have hj6 : j < cnt (oP σ) 6 := Nat.lt_of_lt_of_le hj (cnt_mono (by omega))
    obtain ⟨p1, p2, p3⟩ := pos_lt hj6
    have hps : pos (oP σ) 6 j < s := Classical.byContradiction (fun q => by
      have := cnt_mono (p := oP σ) (Nat.not_lt.mp q)
      omega)
    have := he _ hps
    rw [dW_t p2, dW_t p2, p3] at this
    exact this
  · rintro ⟨k, hk, he, hl⟩
    obtain ⟨p1, p2, p3⟩ := pos_lt (p := oP σ) (n := 6) (k := k) (by rw [h6]; exact hk)
    refine ⟨_, p1, fun i hi => ?_, by rw [dW_t p2, dW_t p2, p3]; exact hl⟩
    by_cases ho : oP σ i
    · rw [dW_t ho, dW_t ho]
      exact he _ (by have := cnt_lt hi ho; omega)
    · rw [dW_f ho, dW_f ho]
theorem Wb_first {V : Nat → Int32} {B N : Nat} (hB : B < N) (h0 : (-1) < V B) (h : ∀ w, w < N → V w < V B ∨ (V w = V B ∧ B ≤ w)) : ∀ n, n ≤ N → (n ≤ B → (Wb V n).1 < V B) ∧ (B < n → Wb V n = (V B, B))
  | 0, _ => ⟨fun _ => h0, fun q => absurd q (Nat.not_lt_zero _)⟩
  | n + 1, hn => by
    obtain ⟨i1, i2⟩ := Wb_first hB h0 h n (by omega)
    rw [Wb_s]
    refine ⟨fun q => ?_, fun q => ?_⟩
    · have hl := (h n (by omega)).resolve_right (fun q9 => by omega)
      split
      · exact hl
      · exact i1 (by omega)
    · by_cases e : n = B
      · subst e
        rw [if_pos (i1 (Nat.le_refl _))]
      · rw [i2 (by omega)]
        rw [if_neg]
        show ¬ V B < V n
        rcases h n (by omega) with q9 | ⟨q9, -⟩
        · exact Int32.lt_asymm q9
        · rw [q9]; exact Int32.lt_irrefl
theorem cg_en {d : Nat → Nat} (h : ∀ j, d j ≤ 7) {m k : Nat} (hk : k < m) : cg 7 (en d m) k = d k := en_div h hk
theorem best_ok {n : Nat} {σ : ST} {I : IM} {tw : Nat} {cB : Nat → Nat} (hL : LR n σ I) (hc : ∀ k, cB k ≤ 7) (h : ∀ t, t < 8 ^ mO σ → Vv σ tw (cg 7 t) < Vv σ tw cB ∨ (Vv σ tw (cg 7 t) = Vv σ tw cB ∧ pre 7 cB (mO σ) ≤ pre 7 (cg 7 t) (mO σ))) : Vv σ tw cB = bS σ tw ∧ ∀ k, k < mO σ → cB k = bC σ tw k := by
  have h10 := hL.2.2.2.2.2.2.2.2.2.1
  have hB : pre 7 cB (mO σ) < 8 ^ mO σ := pre_lt (P := 7) (fun j _ => hc j)
  have hdB : ∀ k, k < mO σ → dig 7 (mO σ) (pre 7 cB (mO σ)) k = cB k := dig_pre (Nat.le_refl _) (fun j _ => hc j) (by rw [Nat.sub_self, Nat.pow_zero, Nat.div_one])
  have hVB : Vw σ tw (pre 7 cB (mO σ)) = Vv σ tw cB := by
    rw [Vw_v, h10]; exact Vv_congr hdB
  have hall : ∀ w, w < 8 ^ mO σ → Vw σ tw w < Vw σ tw (pre 7 cB (mO σ)) ∨ (Vw σ tw w = Vw σ tw (pre 7 cB (mO σ)) ∧ pre 7 cB (mO σ) ≤ w) := fun w hw => by
    have hd : ∀ k, dig 7 (mO σ) w k ≤ 7 := fun k => dig_le
    have hcg : ∀ k, k < mO σ → cg 7 (en (dig 7 (mO σ) w) (mO σ)) k = dig 7 (mO σ) w k := fun k hk => cg_en hd hk
    have h9 := h (en (dig 7 (mO σ) w) (mO σ)) (en_lt hd _)
    have e1 : Vv σ tw (cg 7 (en (dig 7 (mO σ) w) (mO σ))) = Vw σ tw w := by rw [Vw_v, h10]; exact Vv_congr hcg
    have e2 : pre 7 (cg 7 (en (dig 7 (mO σ) w) (mO σ))) (mO σ) = w := by
      rw [pre_congr hcg, pre_dig hw _ (Nat.le_refl _), Nat.sub_self, Nat.pow_zero, Nat.div_one]
    rw [e1, e2] at h9
    rw [hVB]; exact h9
  have h0 : (-1) < Vw σ tw (pre 7 cB (mO σ)) := by
    have e7 : Vv σ tw (fun _ => pn σ) = nI 0 := by unfold Vv; rw [if_pos PVd_P, smW_P]
    have hcg : ∀ k, k < mO σ → cg 7 (en (fun _ => 7) (mO σ)) k = 7 := fun k hk => cg_en (d := fun _ => 7) (fun _ => Nat.le_refl _) hk
    have e1 : Vv σ tw (cg 7 (en (fun _ => 7) (mO σ))) = nI 0 := by
      rw [← e7]; exact Vv_congr (fun k hk => by rw [hcg k hk, h10])
    have h9 := h (en (fun _ => 7) (mO σ)) (en_lt (d := fun _ => 7) (fun _ => Nat.le_refl _) _)
    rw [hVB]
    rw [e1] at h9
    have hn1 : ((-1) : Int32) < nI 0 := by decide
    rcases h9 with q | ⟨q, -⟩
    · exact Int32.lt_trans hn1 q
    · rw [← q]; exact hn1
  have hW := (Wb_first hB h0 hall (8 ^ mO σ) (Nat.le_refl _)).2 hB
  have hN : nW σ = 8 ^ mO σ := by unfold nW; rw [h10]
  refine ⟨?_, fun k hk => ?_⟩
  · unfold bS; rw [hN, hW, hVB]
  · unfold bC; rw [hN, hW, h10]; exact (hdB k hk).symm
theorem en_congr {d d' : Nat → Nat} : ∀ {n : Nat}, (∀ j, j < n → d j = d' j) → en d n = en d' n
  | 0, _ => rfl
  | n + 1, h => by
    show en d n + d n * 8 ^ n = en d' n + d' n * 8 ^ n
    rw [en_congr (n := n) (fun j hj => h j (by omega)), h n (by omega)]
theorem en_dW {n : Nat} {σ : ST} {I : IM} (hL : LR n σ I) {c c' : Nat → Nat} (h : ∀ k, k < mO σ → c k = c' k) : en (dW σ c) 6 = en (dW σ c') 6 := en_congr (fun j hj => by
  by_cases ho : oP σ j
  · rw [dW_t ho, dW_t ho, h _ (oc_lt hL hj ho)]
  · rw [dW_f ho, dW_f ho])
theorem dW_7 {σ : ST} {s : Nat} : dW σ (fun _ => 7) s = 7 := by
  by_cases ho : oP σ s
  · rw [dW_t ho]
  · rw [dW_f ho]
theorem en_7 {σ : ST} : en (dW σ (fun _ => 7)) 6 = 262143 := by
  rw [en_congr (d' := fun _ => 7) (fun j _ => dW_7)]
  decide
theorem Vv_7 {n : Nat} {σ : ST} {I : IM} {tw : Nat} (hL : LR n σ I) : Vv σ tw (fun _ => 7) = nI 0 := by
  have h10 := hL.2.2.2.2.2.2.2.2.2.1
  rw [Vv_congr (c' := fun _ => pn σ) (fun k _ => h10.symm)]
  unfold Vv
  rw [if_pos PVd_P, smW_P]
theorem imd {u : Nat} (h : u < 1000000) : nI u + Int32.ofInt (-1) = imu u := by
  cases u with
  | zero => decide
  | succ u => exact pk_m1 u
/-- one more way is seen -/
def Seen (σ : ST) (tw : Nat) (cB : Nat → Nat) (u : Nat) : Prop := ∀ t, u ≤ t → t < 8 ^ mO σ → Vv σ tw (cg 7 t) < Vv σ tw cB ∨ (Vv σ tw (cg 7 t) = Vv σ tw cB ∧ pre 7 cB (mO σ) ≤ pre 7 (cg 7 t) (mO σ))
theorem Seen_new1 {σ : ST} {tw u : Nat} {cB : Nat → Nat} (h : Seen σ tw cB (u + 1)) (hl : Vv σ tw cB < Vv σ tw (cg 7 u)) : Seen σ tw (cg 7 u) u := fun t h1 h2 => by
  by_cases e : t = u
  · subst e; exact Or.inr ⟨rfl, Nat.le_refl _⟩
  · rcases h t (by omega) h2 with q | ⟨q, -⟩
    · exact Or.inl (Int32.lt_trans q hl)
    · exact Or.inl (by rw [q]; exact hl)
theorem Seen_new2 {σ : ST} {tw u : Nat} {cB : Nat → Nat} (h : Seen σ tw cB (u + 1)) (he : Vv σ tw (cg 7 u) = Vv σ tw cB) (hp : pre 7 (cg 7 u) (mO σ) < pre 7 cB (mO σ)) : Seen σ tw (cg 7 u) u := fun t h1 h2 => by
  by_cases e : t = u
  · subst e; exact Or.inr ⟨rfl, Nat.le_refl _⟩
  · rw [he]
    rcases h t (by omega) h2 with q | ⟨q, q2⟩
    · exact Or.inl q
    · exact Or.inr ⟨q, by omega⟩
theorem Seen_old1 {σ : ST} {tw u : Nat} {cB : Nat → Nat} (h : Seen σ tw cB (u + 1)) (hl : ¬ Vv σ tw cB < Vv σ tw (cg 7 u)) (he : ¬ Vv σ tw (cg 7 u) = Vv σ tw cB) : Seen σ tw cB u := fun t h1 h2 => by
  by_cases e : t = u
  · subst e
    refine Or.inl ?_
    have h3 := Int32.not_lt.mp hl
    exact Classical.byContradiction (fun q => he (Int32.le_antisymm h3 (Int32.not_lt.mp q)))
  · exact h t (by omega) h2
theorem Seen_old2 {σ : ST} {tw u : Nat} {cB : Nat → Nat} (h : Seen σ tw cB (u + 1)) (he : Vv σ tw (cg 7 u) = Vv σ tw cB) (hp : ¬ pre 7 (cg 7 u) (mO σ) < pre 7 cB (mO σ)) : Seen σ tw cB u := fun t h1 h2 => by
  by_cases e : t = u
  · subst e; exact Or.inr ⟨he, Nat.not_lt.mp hp⟩
  · exact h t (by omega) h2
set_option maxRecDepth 20000 in
theorem b_sum2_lp {d b : Nat} {K : KM} {I : IM} {R : RM} {Q : QT} {n n0 : Nat} {σ : ST} {c : Nat → Nat} {cm : Int32} (hd : 2 ≤ d) (hQ : KQ K) (hL : LR n σ I) (hV : IV n0 σ) (hmn : ¬ mn σ (dn σ) = 0) (hc : ∀ k, c k ≤ 7) (hI : ∀ k, k < mO σ → Cm σ c k)  (q : Q (.inl (some (pI (Vv σ (twn σ (dn σ)) c)))) K I R) : ∀ (n j : Nat) (hM : ∀ m, m < j → m < mn σ (dn σ) → okM σ c m) (u10 u11 u12 u13 u14 : Option PV), 3 - j < n → j ≤ 3 → Mw d b N_L_sumOf 77 [some (pR (some QW)), some (pR (some QV)), some (pR (some QC)), some (pR (some QK)), some (pR (some QM)), some (pI (nI (bs (oP σ) 6))), some (pI (nI (en (dW σ c) 6))), some (pI (smW σ (twn σ (dn σ)) c (mO σ))), some (pI cm), some (pI (nI j)), u10, u11, u12, u13, u14] [] K I R Q := by
  obtain ⟨d9, rfl⟩ : ∃ d9, d = d9 + 1 := ⟨d - 1, by omega⟩
  intro n
  induction n with
  | zero => intro j hM u10 u11 u12 u13 u14 hn; exact absurd hn (Nat.not_lt_zero _)
  | succ n ih =>
    intro j hM u10 u11 u12 u13 u14 hn hi
    have hdd := hV.2.2.1.2
    have h10 := hL.2.2.2.2.2.2.2.2.2.1
    obtain ⟨g1, g2, g3, g4, g5⟩ := LR_card hL (x := dn σ) (Nat.le_refl _) (by omega)
    have htw : I QM (4 + dn σ % 3) = nI (twn σ (dn σ)) ∧ twn σ (dn σ) < 4 := by
      obtain ⟨t, ht, et⟩ := (hV.2.2.2.2.2.1 (dn σ) (by omega)).2.2.2.1 hmn
      have e : twn σ (dn σ) = t := by unfold twn; rw [et]; exact nI_clamp (by omega)
      rw [g3 hmn, et, e]; exact ⟨rfl, ht⟩
    have hD := dW_le (σ := σ) hc
    refine mw_iload i_89_77 (x := nI j) rfl ?_
    refine mw_const i_89_78 (v := nI 3) (by decide) ?_
    refine mw_ic i_89_79 (p := 3 ≤ j) (nI_leI (by omega) (by omega)) (fun c1 => ?_) (fun c1 => ?_)
    · skip
      refine mw_iload i_89_226 (x := smW σ (twn σ (dn σ)) c (mO σ)) rfl ?_
      refine mw_iretI i_89_227 (x := smW σ (twn σ (dn σ)) c (mO σ)) rt_89 ?_
      obtain rfl : j = 3 := by omega
      rw [sO_good hL hI (fun m hm => hM m (by omega) hm)]
      exact q
    · skip
      by_cases hjm : j < mn σ (dn σ)
      · skip
        have hw1 : who σ c (mO σ) (2 * j) ≤ pn σ := who_lt hV (fun k _ => by rw [h10]; exact hc k) (by omega)
        have hw2 : who σ c (mO σ) (2 * j + 1) ≤ pn σ := who_lt hV (fun k _ => by rw [h10]; exact hc k) (by omega)
        have hb2 := b2_le (oP σ (2 * j)) (oP σ (2 * j + 1))
        have hc2 := (((hV.2.2.2.2.2.1 (dn σ) (by omega)).2.2.2.2.1 j hjm)).2.2.2.1
        refine mw_aload i_89_80 (L := QM) rfl ?_
        refine mw_aload i_89_81 (L := QM) rfl ?_
        refine mw_const i_89_82 (v := nI 0) (by decide) ?_
        refine mw_iald i_89_83 (jn := 0) (n := 18) (by omega) (by omega) hQ.2.2.2.2.2 (by decide) (v := nI (dn σ)) (LR_day hL hV) ?_
        refine mw_callS i_89_84 mf_78 (as := [pR (some QM), pI (nI (dn σ))]) (rest := []) (d' := d9) (b' := b) (ls0 := [some (pR (some QM)), some (pI (nI (dn σ)))]) rfl rfl rfl (Nat.le_of_ble_eq_true rfl) rfl rfl rfl ?_
        refine a_slot (by omega) ?_
        refine aft_v ?_
        refine mw_const i_89_85 (v := nI 6) (by decide) ?_
        refine mw_iload i_89_86 (x := nI j) rfl ?_
        refine mw_imul i_89_87 (w := nI (6 * j)) (pk_mul _ _) ?_
        refine mw_iadd i_89_88 (w := nI (18 * ((dn σ) % 3) + (6 * j))) (nI_add _ _) ?_
        refine mw_istore i_89_89 (ls' := [some (pR (some QW)), some (pR (some QV)), some (pR (some QC)), some (pR (some QK)), some (pR (some QM)), some (pI (nI (bs (oP σ) 6))), some (pI (nI (en (dW σ c) 6))), some (pI (smW σ (twn σ (dn σ)) c (mO σ))), some (pI cm), some (pI (nI j)), some (pI (nI (18 * ((dn σ) % 3) + (6 * j)))), u11, u12, u13, u14]) rfl (Nat.le_of_ble_eq_true rfl) ?_
        have J2 : Mw (d9 + 1) b 89 110 [some (pR (some QW)), some (pR (some QV)), some (pR (some QC)), some (pR (some QK)), some (pR (some QM)), some (pI (nI (bs (oP σ) 6))), some (pI (nI (en (dW σ c) 6))), some (pI (smW σ (twn σ (dn σ)) c (mO σ))), some (pI cm), some (pI (nI j)), some (pI (nI (18 * ((dn σ) % 3) + (6 * j)))), u11, u12, u13, u14] [pI (nI (who σ c (mO σ) (2 * j)))] K I R Q := by
          refine mw_istore i_89_110 (ls' := [some (pR (some QW)), some (pR (some QV)), some (pR (some QC)), some (pR (some QK)), some (pR (some QM)), some (pI (nI (bs (oP σ) 6))), some (pI (nI (en (dW σ c) 6))), some (pI (smW σ (twn σ (dn σ)) c (mO σ))), some (pI cm), some (pI (nI j)), some (pI (nI (18 * ((dn σ) % 3) + (6 * j)))), some (pI (nI (who σ c (mO σ) (2 * j)))), u12, u13, u14]) rfl (Nat.le_of_ble_eq_true rfl) ?_
          have J3 : Mw (d9 + 1) b 89 137 [some (pR (some QW)), some (pR (some QV)), some (pR (some QC)), some (pR (some QK)), some (pR (some QM)), some (pI (nI (bs (oP σ) 6))), some (pI (nI (en (dW σ c) 6))), some (pI (smW σ (twn σ (dn σ)) c (mO σ))), some (pI cm), some (pI (nI j)), some (pI (nI (18 * ((dn σ) % 3) + (6 * j)))), some (pI (nI (who σ c (mO σ) (2 * j)))), u12, u13, u14] [pI (nI (who σ c (mO σ) (2 * j + 1)))] K I R Q := by
            refine mw_istore i_89_137 (ls' := [some (pR (some QW)), some (pR (some QV)), some (pR (some QC)), some (pR (some QK)), some (pR (some QM)), some (pI (nI (bs (oP σ) 6))), some (pI (nI (en (dW σ c) 6))), some (pI (smW σ (twn σ (dn σ)) c (mO σ))), some (pI cm), some (pI (nI j)), some (pI (nI (18 * ((dn σ) % 3) + (6 * j)))), some (pI (nI (who σ c (mO σ) (2 * j)))), some (pI (nI (who σ c (mO σ) (2 * j + 1)))), u13, u14]) rfl (Nat.le_of_ble_eq_true rfl) ?_
            have J4 : Mw (d9 + 1) b 89 156 [some (pR (some QW)), some (pR (some QV)), some (pR (some QC)), some (pR (some QK)), some (pR (some QM)), some (pI (nI (bs (oP σ) 6))), some (pI (nI (en (dW σ c) 6))), some (pI (smW σ (twn σ (dn σ)) c (mO σ))), some (pI cm), some (pI (nI j)), some (pI (nI (18 * ((dn σ) % 3) + (6 * j)))), some (pI (nI (who σ c (mO σ) (2 * j)))), some (pI (nI (who σ c (mO σ) (2 * j + 1)))), u13, u14] [pI (bI (oP σ (2 * j) ∨ oP σ (2 * j + 1)))] K I R Q := by
              refine mw_istore i_89_156 (ls' := [some (pR (some QW)), some (pR (some QV)), some (pR (some QC)), some (pR (some QK)), some (pR (some QM)), some (pI (nI (bs (oP σ) 6))), some (pI (nI (en (dW σ c) 6))), some (pI (smW σ (twn σ (dn σ)) c (mO σ))), some (pI cm), some (pI (nI j)), some (pI (nI (18 * ((dn σ) % 3) + (6 * j)))), some (pI (nI (who σ c (mO σ) (2 * j)))), some (pI (nI (who σ c (mO σ) (2 * j + 1)))), some (pI (bI (oP σ (2 * j) ∨ oP σ (2 * j + 1)))), u14]) rfl (Nat.le_of_ble_eq_true rfl) ?_
              have J5 : Mw (d9 + 1) b 89 169 [some (pR (some QW)), some (pR (some QV)), some (pR (some QC)), some (pR (some QK)), some (pR (some QM)), some (pI (nI (bs (oP σ) 6))), some (pI (nI (en (dW σ c) 6))), some (pI (smW σ (twn σ (dn σ)) c (mO σ))), some (pI cm), some (pI (nI j)), some (pI (nI (18 * ((dn σ) % 3) + (6 * j)))), some (pI (nI (who σ c (mO σ) (2 * j)))), some (pI (nI (who σ c (mO σ) (2 * j + 1)))), some (pI (bI (oP σ (2 * j) ∨ oP σ (2 * j + 1)))), u14] [pI (bI (oP σ (2 * j) ∧ oP σ (2 * j + 1)))] K I R Q := by
                refine mw_istore i_89_169 (ls' := [some (pR (some QW)), some (pR (some QV)), some (pR (some QC)), some (pR (some QK)), some (pR (some QM)), some (pI (nI (bs (oP σ) 6))), some (pI (nI (en (dW σ c) 6))), some (pI (smW σ (twn σ (dn σ)) c (mO σ))), some (pI cm), some (pI (nI j)), some (pI (nI (18 * ((dn σ) % 3) + (6 * j)))), some (pI (nI (who σ c (mO σ) (2 * j)))), some (pI (nI (who σ c (mO σ) (2 * j + 1)))), some (pI (bI (oP σ (2 * j) ∨ oP σ (2 * j + 1)))), some (pI (bI (oP σ (2 * j) ∧ oP σ (2 * j + 1))))]) rfl (Nat.le_of_ble_eq_true rfl) ?_
                have J6 : (oP σ (2 * j) ∧ oP σ (2 * j + 1) → (who σ c (mO σ) (2 * j) = 7 ↔ who σ c (mO σ) (2 * j + 1) = 7)) → Mw (d9 + 1) b 89 189 [some (pR (some QW)), some (pR (some QV)), some (pR (some QC)), some (pR (some QK)), some (pR (some QM)), some (pI (nI (bs (oP σ) 6))), some (pI (nI (en (dW σ c) 6))), some (pI (smW σ (twn σ (dn σ)) c (mO σ))), some (pI cm), some (pI (nI j)), some (pI (nI (18 * ((dn σ) % 3) + (6 * j)))), some (pI (nI (who σ c (mO σ) (2 * j)))), some (pI (nI (who σ c (mO σ) (2 * j + 1)))), some (pI (bI (oP σ (2 * j) ∨ oP σ (2 * j + 1)))), some (pI (bI (oP σ (2 * j) ∧ oP σ (2 * j + 1))))] [] K I R Q := by
                  intro hz
                  refine mw_iload i_89_189 (x := bI (oP σ (2 * j) ∨ oP σ (2 * j + 1))) rfl ?_
                  refine mw_eqB i_89_190 rfl (fun c7 => ?_) (fun c7 => ?_)
                  · skip
                    refine mw_iinc i_89_224 (x := nI j) (v := nI (j + 1)) (ls' := [some (pR (some QW)), some (pR (some QV)), some (pR (some QC)), some (pR (some QK)), some (pR (some QM)), some (pI (nI (bs (oP σ) 6))), some (pI (nI (en (dW σ c) 6))), some (pI (smW σ (twn σ (dn σ)) c (mO σ))), some (pI cm), some (pI (nI (j + 1))), some (pI (nI (18 * ((dn σ) % 3) + (6 * j)))), some (pI (nI (who σ c (mO σ) (2 * j)))), some (pI (nI (who σ c (mO σ) (2 * j + 1)))), some (pI (bI (oP σ (2 * j) ∨ oP σ (2 * j + 1)))), some (pI (bI (oP σ (2 * j) ∧ oP σ (2 * j + 1))))]) rfl (nI_add _ _) rfl ?_
                    refine mw_goto i_89_225 ?_
                    refine ih (j + 1) (fun m hm hm2 => ?_) _ _ _ _ _ (by omega) (by omega)
                    by_cases e : m = j
                    · subst e; exact ⟨hz, fun h => absurd h c7⟩
                    · exact hM m (by omega) hm2
                  · skip
                    refine mw_iload i_89_191 (x := nI (who σ c (mO σ) (2 * j))) rfl ?_
                    refine mw_const i_89_192 (v := nI 7) (by decide) ?_
                    refine mw_ic i_89_193 (p := 7 ≤ (who σ c (mO σ) (2 * j))) (nI_leI (by omega) (by omega)) (fun c8 => ?_) (fun c8 => ?_)
                    · skip
                      refine mw_iinc i_89_224 (x := nI j) (v := nI (j + 1)) (ls' := [some (pR (some QW)), some (pR (some QV)), some (pR (some QC)), some (pR (some QK)), some (pR (some QM)), some (pI (nI (bs (oP σ) 6))), some (pI (nI (en (dW σ c) 6))), some (pI (smW σ (twn σ (dn σ)) c (mO σ))), some (pI cm), some (pI (nI (j + 1))), some (pI (nI (18 * ((dn σ) % 3) + (6 * j)))), some (pI (nI (who σ c (mO σ) (2 * j)))), some (pI (nI (who σ c (mO σ) (2 * j + 1)))), some (pI (bI (oP σ (2 * j) ∨ oP σ (2 * j + 1)))), some (pI (bI (oP σ (2 * j) ∧ oP σ (2 * j + 1))))]) rfl (nI_add _ _) rfl ?_
                      refine mw_goto i_89_225 ?_
                      refine ih (j + 1) (fun m hm hm2 => ?_) _ _ _ _ _ (by omega) (by omega)
                      by_cases e : m = j
                      · subst e; exact ⟨hz, fun _ h => absurd h.1 (by rw [h10]; omega)⟩
                      · exact hM m (by omega) hm2
                    · skip
                      refine mw_iload i_89_194 (x := nI (who σ c (mO σ) (2 * j + 1))) rfl ?_
                      refine mw_const i_89_195 (v := nI 7) (by decide) ?_
                      refine mw_ic i_89_196 (p := 7 ≤ (who σ c (mO σ) (2 * j + 1))) (nI_leI (by omega) (by omega)) (fun c9 => ?_) (fun c9 => ?_)
                      · skip
                        refine mw_iinc i_89_224 (x := nI j) (v := nI (j + 1)) (ls' := [some (pR (some QW)), some (pR (some QV)), some (pR (some QC)), some (pR (some QK)), some (pR (some QM)), some (pI (nI (bs (oP σ) 6))), some (pI (nI (en (dW σ c) 6))), some (pI (smW σ (twn σ (dn σ)) c (mO σ))), some (pI cm), some (pI (nI (j + 1))), some (pI (nI (18 * ((dn σ) % 3) + (6 * j)))), some (pI (nI (who σ c (mO σ) (2 * j)))), some (pI (nI (who σ c (mO σ) (2 * j + 1)))), some (pI (bI (oP σ (2 * j) ∨ oP σ (2 * j + 1)))), some (pI (bI (oP σ (2 * j) ∧ oP σ (2 * j + 1))))]) rfl (nI_add _ _) rfl ?_
                        refine mw_goto i_89_225 ?_
                        refine ih (j + 1) (fun m hm hm2 => ?_) _ _ _ _ _ (by omega) (by omega)
                        by_cases e : m = j
                        · subst e; exact ⟨hz, fun _ h => absurd h.2.1 (by rw [h10]; omega)⟩
                        · exact hM m (by omega) hm2
                      · skip
                        by_cases hwn : σ 19 (36 * dn σ + 6 * j + 2) = nI 0
                        · skip
                          have brM_p : bad σ c (mO σ) j → brd σ (who σ c (mO σ) (2 * j + 1)) (who σ c (mO σ) (2 * j)) (nI (dn σ)) := fun h => by have := h.2.2; unfold brM at this; rw [if_pos hwn] at this; exact this
                          have brM_q : brd σ (who σ c (mO σ) (2 * j + 1)) (who σ c (mO σ) (2 * j)) (nI (dn σ)) → brM σ j (who σ c (mO σ) (2 * j)) (who σ c (mO σ) (2 * j + 1)) := fun h => by unfold brM; rw [if_pos hwn]; exact h
                          refine mw_aload i_89_197 (L := QW) rfl ?_
                          refine mw_aload i_89_198 (L := QC) rfl ?_
                          refine mw_aload i_89_199 (L := QK) rfl ?_
                          refine mw_iload i_89_200 (x := nI (18 * ((dn σ) % 3) + (6 * j))) rfl ?_
                          refine mw_const i_89_201 (v := nI 2) (by decide) ?_
                          refine mw_iadd i_89_202 (w := nI (18 * ((dn σ) % 3) + (6 * j) + 2)) (nI_add _ _) ?_
                          refine mw_iald i_89_203 (jn := 18 * ((dn σ) % 3) + (6 * j) + 2) (n := 54) (by omega) (by omega) hQ.2.2.2.2.1 (by decide) (v := σ 19 (36 * dn σ + 6 * j + 2)) (g5 j (by omega)).2.2.1 ?_
                          refine mw_ifF i_89_204 (fun h => h hwn) ?_
                          refine mw_iload i_89_205 (x := nI (who σ c (mO σ) (2 * j + 1))) rfl ?_
                          refine mw_goto i_89_206 ?_
                          refine mw_aload i_89_208 (L := QK) rfl ?_
                          refine mw_iload i_89_209 (x := nI (18 * ((dn σ) % 3) + (6 * j))) rfl ?_
                          refine mw_const i_89_210 (v := nI 2) (by decide) ?_
                          refine mw_iadd i_89_211 (w := nI (18 * ((dn σ) % 3) + (6 * j) + 2)) (nI_add _ _) ?_
                          refine mw_iald i_89_212 (jn := 18 * ((dn σ) % 3) + (6 * j) + 2) (n := 54) (by omega) (by omega) hQ.2.2.2.2.1 (by decide) (v := σ 19 (36 * dn σ + 6 * j + 2)) (g5 j (by omega)).2.2.1 ?_
                          refine mw_ifF i_89_213 (fun h => h hwn) ?_
                          refine mw_iload i_89_214 (x := nI (who σ c (mO σ) (2 * j))) rfl ?_
                          refine mw_goto i_89_215 ?_
                          refine mw_aload i_89_217 (L := QM) rfl ?_
                          refine mw_const i_89_218 (v := nI 0) (by decide) ?_
                          refine mw_iald i_89_219 (jn := 0) (n := 18) (by omega) (by omega) hQ.2.2.2.2.2 (by decide) (v := nI (dn σ)) (LR_day hL hV) ?_
                          refine mw_callS i_89_220 mf_82 (as := [pR (some QW), pR (some QC), pI (nI (who σ c (mO σ) (2 * j + 1))), pI (nI (who σ c (mO σ) (2 * j))), pI (nI (dn σ))]) (rest := []) (d' := d9) (b' := b) (ls0 := [some (pR (some QW)), some (pR (some QC)), some (pI (nI (who σ c (mO σ) (2 * j + 1)))), some (pI (nI (who σ c (mO σ) (2 * j)))), some (pI (nI (dn σ)))]) rfl rfl rfl (Nat.le_of_ble_eq_true rfl) rfl rfl rfl ?_
                          refine b_isBarred hQ hL hV (by omega) (by omega) (by omega) ?_
                          refine aft_v ?_
                          refine mw_eqB i_89_221 rfl (fun c10 => ?_) (fun c10 => ?_)
                          · skip
                            refine mw_iinc i_89_224 (x := nI j) (v := nI (j + 1)) (ls' := [some (pR (some QW)), some (pR (some QV)), some (pR (some QC)), some (pR (some QK)), some (pR (some QM)), some (pI (nI (bs (oP σ) 6))), some (pI (nI (en (dW σ c) 6))), some (pI (smW σ (twn σ (dn σ)) c (mO σ))), some (pI cm), some (pI (nI (j + 1))), some (pI (nI (18 * ((dn σ) % 3) + (6 * j)))), some (pI (nI (who σ c (mO σ) (2 * j)))), some (pI (nI (who σ c (mO σ) (2 * j + 1)))), some (pI (bI (oP σ (2 * j) ∨ oP σ (2 * j + 1)))), some (pI (bI (oP σ (2 * j) ∧ oP σ (2 * j + 1))))]) rfl (nI_add _ _) rfl ?_
                            refine mw_goto i_89_225 ?_
                            refine ih (j + 1) (fun m hm hm2 => ?_) _ _ _ _ _ (by omega) (by omega)
                            by_cases e : m = j
                            · subst e; exact ⟨hz, fun _ h => absurd (brM_p h) c10⟩
                            · exact hM m (by omega) hm2
                          · skip
                            refine mw_const i_89_222 (v := (-1)) (by decide) ?_
                            refine mw_iretI i_89_223 (x := (-1)) rt_89 ?_
                            rw [show ((-1) : Int32) = Vv σ (twn σ (dn σ)) c from sO_bad2 hL hI hjm (fun h => (h.2 c7) ⟨by rw [h10]; omega, by rw [h10]; omega, brM_q c10⟩)]
                            exact q
                        · skip
                          have brM_p : bad σ c (mO σ) j → brd σ (who σ c (mO σ) (2 * j)) (who σ c (mO σ) (2 * j + 1)) (nI (dn σ)) := fun h => by have := h.2.2; unfold brM at this; rw [if_neg hwn] at this; exact this
                          have brM_q : brd σ (who σ c (mO σ) (2 * j)) (who σ c (mO σ) (2 * j + 1)) (nI (dn σ)) → brM σ j (who σ c (mO σ) (2 * j)) (who σ c (mO σ) (2 * j + 1)) := fun h => by unfold brM; rw [if_neg hwn]; exact h
                          refine mw_aload i_89_197 (L := QW) rfl ?_
                          refine mw_aload i_89_198 (L := QC) rfl ?_
                          refine mw_aload i_89_199 (L := QK) rfl ?_
                          refine mw_iload i_89_200 (x := nI (18 * ((dn σ) % 3) + (6 * j))) rfl ?_
                          refine mw_const i_89_201 (v := nI 2) (by decide) ?_
                          refine mw_iadd i_89_202 (w := nI (18 * ((dn σ) % 3) + (6 * j) + 2)) (nI_add _ _) ?_
                          refine mw_iald i_89_203 (jn := 18 * ((dn σ) % 3) + (6 * j) + 2) (n := 54) (by omega) (by omega) hQ.2.2.2.2.1 (by decide) (v := σ 19 (36 * dn σ + 6 * j + 2)) (g5 j (by omega)).2.2.1 ?_
                          refine mw_ifT i_89_204 (hwn) ?_
                          refine mw_iload i_89_207 (x := nI (who σ c (mO σ) (2 * j))) rfl ?_
                          refine mw_aload i_89_208 (L := QK) rfl ?_
                          refine mw_iload i_89_209 (x := nI (18 * ((dn σ) % 3) + (6 * j))) rfl ?_
                          refine mw_const i_89_210 (v := nI 2) (by decide) ?_
                          refine mw_iadd i_89_211 (w := nI (18 * ((dn σ) % 3) + (6 * j) + 2)) (nI_add _ _) ?_
                          refine mw_iald i_89_212 (jn := 18 * ((dn σ) % 3) + (6 * j) + 2) (n := 54) (by omega) (by omega) hQ.2.2.2.2.1 (by decide) (v := σ 19 (36 * dn σ + 6 * j + 2)) (g5 j (by omega)).2.2.1 ?_
                          refine mw_ifT i_89_213 (hwn) ?_
                          refine mw_iload i_89_216 (x := nI (who σ c (mO σ) (2 * j + 1))) rfl ?_
                          refine mw_aload i_89_217 (L := QM) rfl ?_
                          refine mw_const i_89_218 (v := nI 0) (by decide) ?_
                          refine mw_iald i_89_219 (jn := 0) (n := 18) (by omega) (by omega) hQ.2.2.2.2.2 (by decide) (v := nI (dn σ)) (LR_day hL hV) ?_
                          refine mw_callS i_89_220 mf_82 (as := [pR (some QW), pR (some QC), pI (nI (who σ c (mO σ) (2 * j))), pI (nI (who σ c (mO σ) (2 * j + 1))), pI (nI (dn σ))]) (rest := []) (d' := d9) (b' := b) (ls0 := [some (pR (some QW)), some (pR (some QC)), some (pI (nI (who σ c (mO σ) (2 * j)))), some (pI (nI (who σ c (mO σ) (2 * j + 1)))), some (pI (nI (dn σ)))]) rfl rfl rfl (Nat.le_of_ble_eq_true rfl) rfl rfl rfl ?_
                          refine b_isBarred hQ hL hV (by omega) (by omega) (by omega) ?_
                          refine aft_v ?_
                          refine mw_eqB i_89_221 rfl (fun c11 => ?_) (fun c11 => ?_)
                          · skip
                            refine mw_iinc i_89_224 (x := nI j) (v := nI (j + 1)) (ls' := [some (pR (some QW)), some (pR (some QV)), some (pR (some QC)), some (pR (some QK)), some (pR (some QM)), some (pI (nI (bs (oP σ) 6))), some (pI (nI (en (dW σ c) 6))), some (pI (smW σ (twn σ (dn σ)) c (mO σ))), some (pI cm), some (pI (nI (j + 1))), some (pI (nI (18 * ((dn σ) % 3) + (6 * j)))), some (pI (nI (who σ c (mO σ) (2 * j)))), some (pI (nI (who σ c (mO σ) (2 * j + 1)))), some (pI (bI (oP σ (2 * j) ∨ oP σ (2 * j + 1)))), some (pI (bI (oP σ (2 * j) ∧ oP σ (2 * j + 1))))]) rfl (nI_add _ _) rfl ?_
                            refine mw_goto i_89_225 ?_
                            refine ih (j + 1) (fun m hm hm2 => ?_) _ _ _ _ _ (by omega) (by omega)
                            by_cases e : m = j
                            · subst e; exact ⟨hz, fun _ h => absurd (brM_p h) c11⟩
                            · exact hM m (by omega) hm2
                          · skip
                            refine mw_const i_89_222 (v := (-1)) (by decide) ?_
                            refine mw_iretI i_89_223 (x := (-1)) rt_89 ?_
                            rw [show ((-1) : Int32) = Vv σ (twn σ (dn σ)) c from sO_bad2 hL hI hjm (fun h => (h.2 c7) ⟨by rw [h10]; omega, by rw [h10]; omega, brM_q c11⟩)]
                            exact q
                refine mw_iload i_89_170 (x := bI (oP σ (2 * j) ∨ oP σ (2 * j + 1))) rfl ?_
                refine mw_eqB i_89_171 rfl (fun c12 => ?_) (fun c12 => ?_)
                · skip
                  exact J6 (fun h => absurd (Or.inl h.1) c12)
                · skip
                  refine mw_iload i_89_172 (x := bI (oP σ (2 * j) ∧ oP σ (2 * j + 1))) rfl ?_
                  refine mw_eqB i_89_173 rfl (fun c13 => ?_) (fun c13 => ?_)
                  · skip
                    exact J6 (fun h => absurd h c13)
                  · skip
                    have J14 : Mw (d9 + 1) b 89 180 [some (pR (some QW)), some (pR (some QV)), some (pR (some QC)), some (pR (some QK)), some (pR (some QM)), some (pI (nI (bs (oP σ) 6))), some (pI (nI (en (dW σ c) 6))), some (pI (smW σ (twn σ (dn σ)) c (mO σ))), some (pI cm), some (pI (nI j)), some (pI (nI (18 * ((dn σ) % 3) + (6 * j)))), some (pI (nI (who σ c (mO σ) (2 * j)))), some (pI (nI (who σ c (mO σ) (2 * j + 1)))), some (pI (bI (oP σ (2 * j) ∨ oP σ (2 * j + 1)))), some (pI (bI (oP σ (2 * j) ∧ oP σ (2 * j + 1))))] [pI (bI (who σ c (mO σ) (2 * j) = 7))] K I R Q := by
                      have J15 : Mw (d9 + 1) b 89 186 [some (pR (some QW)), some (pR (some QV)), some (pR (some QC)), some (pR (some QK)), some (pR (some QM)), some (pI (nI (bs (oP σ) 6))), some (pI (nI (en (dW σ c) 6))), some (pI (smW σ (twn σ (dn σ)) c (mO σ))), some (pI cm), some (pI (nI j)), some (pI (nI (18 * ((dn σ) % 3) + (6 * j)))), some (pI (nI (who σ c (mO σ) (2 * j)))), some (pI (nI (who σ c (mO σ) (2 * j + 1)))), some (pI (bI (oP σ (2 * j) ∨ oP σ (2 * j + 1)))), some (pI (bI (oP σ (2 * j) ∧ oP σ (2 * j + 1))))] [pI (bI (who σ c (mO σ) (2 * j + 1) = 7)), pI (bI (who σ c (mO σ) (2 * j) = 7))] K I R Q := by
                        refine mw_ic i_89_186 (p := (bI (who σ c (mO σ) (2 * j) = 7)) = (bI (who σ c (mO σ) (2 * j + 1) = 7))) Iff.rfl (fun c16 => ?_) (fun c16 => ?_)
                        · skip
                          exact J6 (fun _ => bI_inj.mp c16)
                        · skip
                          refine mw_const i_89_187 (v := (-1)) (by decide) ?_
                          refine mw_iretI i_89_188 (x := (-1)) rt_89 ?_
                          rw [show ((-1) : Int32) = Vv σ (twn σ (dn σ)) c from sO_bad2 hL hI hjm (fun h => c16 (bI_inj.mpr (h.1 c13)))]
                          exact q
                      refine mw_iload i_89_180 (x := nI (who σ c (mO σ) (2 * j + 1))) rfl ?_
                      refine mw_const i_89_181 (v := nI 7) (by decide) ?_
                      refine mw_ic i_89_182 (p := ¬ (who σ c (mO σ) (2 * j + 1)) = 7) (not_congr (nI_eq (by omega) (by omega))) (fun c17 => ?_) (fun c17 => ?_)
                      · skip
                        refine mw_const i_89_185 (v := nI 0) (by decide) ?_
                        exact mw_top (show nI 0 = bI (who σ c (mO σ) (2 * j + 1) = 7) from (bI_f (c17)).symm) J15
                      · skip
                        refine mw_const i_89_183 (v := nI 1) (by decide) ?_
                        refine mw_goto i_89_184 ?_
                        exact mw_top (show nI 1 = bI (who σ c (mO σ) (2 * j + 1) = 7) from (bI_t ((Classical.not_not.mp c17))).symm) J15
                    refine mw_iload i_89_174 (x := nI (who σ c (mO σ) (2 * j))) rfl ?_
                    refine mw_const i_89_175 (v := nI 7) (by decide) ?_
                    refine mw_ic i_89_176 (p := ¬ (who σ c (mO σ) (2 * j)) = 7) (not_congr (nI_eq (by omega) (by omega))) (fun c18 => ?_) (fun c18 => ?_)
                    · skip
                      refine mw_const i_89_179 (v := nI 0) (by decide) ?_
                      exact mw_top (show nI 0 = bI (who σ c (mO σ) (2 * j) = 7) from (bI_f (c18)).symm) J14
                    · skip
                      refine mw_const i_89_177 (v := nI 1) (by decide) ?_
                      refine mw_goto i_89_178 ?_
                      exact mw_top (show nI 1 = bI (who σ c (mO σ) (2 * j) = 7) from (bI_t ((Classical.not_not.mp c18))).symm) J14
              refine mw_iload i_89_157 (x := nI (bs (oP σ) 6)) rfl ?_
              refine mw_const i_89_158 (v := nI 2) (by decide) ?_
              refine mw_iload i_89_159 (x := nI j) rfl ?_
              refine mw_imul i_89_160 (w := nI (2 * j)) (pk_mul _ _) ?_
              refine mw_ishr i_89_161 (w := nI (bs (oP σ) 6) >>> ((nI (2 * j)) &&& 31)) rfl ?_
              refine mw_const i_89_162 (v := nI 3) (by decide) ?_
              refine mw_iand i_89_163 (w := nI (b2 (oP σ (2 * j)) (oP σ (2 * j + 1)))) (bs_two (by omega) (by decide)) ?_
              refine mw_const i_89_164 (v := nI 3) (by decide) ?_
              refine mw_ic i_89_165 (p := ¬ (b2 (oP σ (2 * j)) (oP σ (2 * j + 1))) = 3) (not_congr (nI_eq (by omega) (by omega))) (fun c19 => ?_) (fun c19 => ?_)
              · skip
                refine mw_const i_89_168 (v := nI 0) (by decide) ?_
                exact mw_top (show nI 0 = bI (oP σ (2 * j) ∧ oP σ (2 * j + 1)) from (bI_f ((fun h => c19 (b2_3.mpr h)))).symm) J5
              · skip
                refine mw_const i_89_166 (v := nI 1) (by decide) ?_
                refine mw_goto i_89_167 ?_
                exact mw_top (show nI 1 = bI (oP σ (2 * j) ∧ oP σ (2 * j + 1)) from (bI_t ((b2_3.mp (Classical.not_not.mp c19)))).symm) J5
            refine mw_iload i_89_138 (x := nI j) rfl ?_
            refine mw_aload i_89_139 (L := QM) rfl ?_
            refine mw_aload i_89_140 (L := QM) rfl ?_
            refine mw_const i_89_141 (v := nI 0) (by decide) ?_
            refine mw_iald i_89_142 (jn := 0) (n := 18) (by omega) (by omega) hQ.2.2.2.2.2 (by decide) (v := nI (dn σ)) (LR_day hL hV) ?_
            refine mw_callS i_89_143 mf_79 (as := [pR (some QM), pI (nI (dn σ))]) (rest := [pI (nI j)]) (d' := d9) (b' := b) (ls0 := [some (pR (some QM)), some (pI (nI (dn σ)))]) rfl rfl rfl (Nat.le_of_ble_eq_true rfl) rfl rfl rfl ?_
            refine b_many hQ hL (Nat.le_refl _) (by omega) (by omega) ?_
            refine aft_v ?_
            refine mw_ic i_89_144 (p := (mn σ (dn σ)) ≤ j) (nI_leI (by omega) (by omega)) (fun c20 => ?_) (fun c20 => ?_)
            · skip
              exact absurd c20 (by omega)
            · skip
              refine mw_iload i_89_145 (x := nI (bs (oP σ) 6)) rfl ?_
              refine mw_const i_89_146 (v := nI 2) (by decide) ?_
              refine mw_iload i_89_147 (x := nI j) rfl ?_
              refine mw_imul i_89_148 (w := nI (2 * j)) (pk_mul _ _) ?_
              refine mw_ishr i_89_149 (w := nI (bs (oP σ) 6) >>> ((nI (2 * j)) &&& 31)) rfl ?_
              refine mw_const i_89_150 (v := nI 3) (by decide) ?_
              refine mw_iand i_89_151 (w := nI (b2 (oP σ (2 * j)) (oP σ (2 * j + 1)))) (bs_two (by omega) (by decide)) ?_
              refine mw_if i_89_152 (p := (nI (b2 (oP σ (2 * j)) (oP σ (2 * j + 1)))) ≤ nI 0) Iff.rfl (fun c21 => ?_) (fun c21 => ?_)
              · skip
                refine mw_const i_89_155 (v := nI 0) (by decide) ?_
                exact mw_top (show nI 0 = bI (oP σ (2 * j) ∨ oP σ (2 * j + 1)) from (bI_f ((fun h => absurd h (b2_le0.mp c21)))).symm) J4
              · skip
                refine mw_const i_89_153 (v := nI 1) (by decide) ?_
                refine mw_goto i_89_154 ?_
                exact mw_top (show nI 1 = bI (oP σ (2 * j) ∨ oP σ (2 * j + 1)) from (bI_t ((Classical.not_not.mp (fun h => c21 (b2_le0.mpr h))))).symm) J4
          refine mw_iload i_89_111 (x := nI (bs (oP σ) 6)) rfl ?_
          refine mw_const i_89_112 (v := nI 2) (by decide) ?_
          refine mw_iload i_89_113 (x := nI j) rfl ?_
          refine mw_imul i_89_114 (w := nI (2 * j)) (pk_mul _ _) ?_
          refine mw_const i_89_115 (v := nI 1) (by decide) ?_
          refine mw_iadd i_89_116 (w := nI (2 * j + 1)) (nI_add _ _) ?_
          refine mw_ishr i_89_117 (w := nI (bs (oP σ) 6) >>> ((nI (2 * j + 1)) &&& 31)) rfl ?_
          refine mw_const i_89_118 (v := nI 1) (by decide) ?_
          refine mw_iand i_89_119 (w := bI (oP σ (2 * j + 1))) (bs_bit (by omega) (by omega)) ?_
          refine mw_const i_89_120 (v := nI 1) (by decide) ?_
          refine mw_ic i_89_121 (p := ¬ (bI (oP σ (2 * j + 1))) = (nI 1)) Iff.rfl (fun c22 => ?_) (fun c22 => ?_)
          · skip
            refine mw_aload i_89_132 (L := QK) rfl ?_
            refine mw_iload i_89_133 (x := nI (18 * ((dn σ) % 3) + (6 * j))) rfl ?_
            refine mw_const i_89_134 (v := nI 1) (by decide) ?_
            refine mw_iadd i_89_135 (w := nI (18 * ((dn σ) % 3) + (6 * j) + 1)) (nI_add _ _) ?_
            refine mw_iald i_89_136 (jn := 18 * ((dn σ) % 3) + (6 * j) + 1) (n := 54) (by omega) (by omega) hQ.2.2.2.2.1 (by decide) (v := nI (sw σ (2 * j + 1))) ((g5 j (by omega)).2.1.trans (sw_at hV (r := 1) (by omega) (by decide)).1) ?_
            exact mw_top (show nI (sw σ (2 * j + 1)) = nI (who σ c (mO σ) (2 * j + 1)) from congrArg nI (who_c (by omega) (fun h => c22 (bI_t h))).symm) J3
          · skip
            refine mw_iload i_89_122 (x := nI (en (dW σ c) 6)) rfl ?_
            refine mw_const i_89_123 (v := nI 6) (by decide) ?_
            refine mw_iload i_89_124 (x := nI j) rfl ?_
            refine mw_imul i_89_125 (w := nI (6 * j)) (pk_mul _ _) ?_
            refine mw_const i_89_126 (v := nI 3) (by decide) ?_
            refine mw_iadd i_89_127 (w := nI (6 * j + 3)) (nI_add _ _) ?_
            refine mw_ishr i_89_128 (w := nI (en (dW σ c) 6) >>> ((nI (6 * j + 3)) &&& 31)) rfl ?_
            refine mw_const i_89_129 (v := nI 7) (by decide) ?_
            refine mw_iand i_89_130 (w := nI (dW σ c (2 * j + 1))) (en_d3 hD (by omega)) ?_
            refine mw_goto i_89_131 ?_
            exact mw_top (show nI (dW σ c (2 * j + 1)) = nI (who σ c (mO σ) (2 * j + 1)) from congrArg nI (who_o (bI_1.mp (Classical.not_not.mp c22))).symm) J3
        refine mw_iload i_89_90 (x := nI (bs (oP σ) 6)) rfl ?_
        refine mw_const i_89_91 (v := nI 2) (by decide) ?_
        refine mw_iload i_89_92 (x := nI j) rfl ?_
        refine mw_imul i_89_93 (w := nI (2 * j)) (pk_mul _ _) ?_
        refine mw_ishr i_89_94 (w := nI (bs (oP σ) 6) >>> ((nI (2 * j)) &&& 31)) rfl ?_
        refine mw_const i_89_95 (v := nI 1) (by decide) ?_
        refine mw_iand i_89_96 (w := bI (oP σ (2 * j))) (bs_bit (by omega) (by omega)) ?_
        refine mw_const i_89_97 (v := nI 1) (by decide) ?_
        refine mw_ic i_89_98 (p := ¬ (bI (oP σ (2 * j))) = (nI 1)) Iff.rfl (fun c23 => ?_) (fun c23 => ?_)
        · skip
          refine mw_aload i_89_107 (L := QK) rfl ?_
          refine mw_iload i_89_108 (x := nI (18 * ((dn σ) % 3) + (6 * j))) rfl ?_
          refine mw_iald i_89_109 (jn := 18 * ((dn σ) % 3) + (6 * j)) (n := 54) (by omega) (by omega) hQ.2.2.2.2.1 (by decide) (v := nI (sw σ (2 * j))) ((g5 j (by omega)).1.trans (sw_at hV (r := 0) (by omega) (by decide)).1) ?_
          exact mw_top (show nI (sw σ (2 * j)) = nI (who σ c (mO σ) (2 * j)) from congrArg nI (who_c (by omega) (fun h => c23 (bI_t h))).symm) J2
        · skip
          refine mw_iload i_89_99 (x := nI (en (dW σ c) 6)) rfl ?_
          refine mw_const i_89_100 (v := nI 6) (by decide) ?_
          refine mw_iload i_89_101 (x := nI j) rfl ?_
          refine mw_imul i_89_102 (w := nI (6 * j)) (pk_mul _ _) ?_
          refine mw_ishr i_89_103 (w := nI (en (dW σ c) 6) >>> ((nI (6 * j)) &&& 31)) rfl ?_
          refine mw_const i_89_104 (v := nI 7) (by decide) ?_
          refine mw_iand i_89_105 (w := nI (dW σ c (2 * j))) (en_d2 hD (by omega)) ?_
          refine mw_goto i_89_106 ?_
          exact mw_top (show nI (dW σ c (2 * j)) = nI (who σ c (mO σ) (2 * j)) from congrArg nI (who_o (bI_1.mp (Classical.not_not.mp c23))).symm) J2
      · skip
        have hb2 := b2_le (oP σ (2 * j)) (oP σ (2 * j + 1))
        have hb0 : ¬ (oP σ (2 * j) ∨ oP σ (2 * j + 1)) := fun h => h.elim (fun h => absurd h.1 (by omega)) (fun h => absurd h.1 (by omega))
        refine mw_aload i_89_80 (L := QM) rfl ?_
        refine mw_aload i_89_81 (L := QM) rfl ?_
        refine mw_const i_89_82 (v := nI 0) (by decide) ?_
        refine mw_iald i_89_83 (jn := 0) (n := 18) (by omega) (by omega) hQ.2.2.2.2.2 (by decide) (v := nI (dn σ)) (LR_day hL hV) ?_
        refine mw_callS i_89_84 mf_78 (as := [pR (some QM), pI (nI (dn σ))]) (rest := []) (d' := d9) (b' := b) (ls0 := [some (pR (some QM)), some (pI (nI (dn σ)))]) rfl rfl rfl (Nat.le_of_ble_eq_true rfl) rfl rfl rfl ?_
        refine a_slot (by omega) ?_
        refine aft_v ?_
        refine mw_const i_89_85 (v := nI 6) (by decide) ?_
        refine mw_iload i_89_86 (x := nI j) rfl ?_
        refine mw_imul i_89_87 (w := nI (6 * j)) (pk_mul _ _) ?_
        refine mw_iadd i_89_88 (w := nI (18 * ((dn σ) % 3) + (6 * j))) (nI_add _ _) ?_
        refine mw_istore i_89_89 (ls' := [some (pR (some QW)), some (pR (some QV)), some (pR (some QC)), some (pR (some QK)), some (pR (some QM)), some (pI (nI (bs (oP σ) 6))), some (pI (nI (en (dW σ c) 6))), some (pI (smW σ (twn σ (dn σ)) c (mO σ))), some (pI cm), some (pI (nI j)), some (pI (nI (18 * ((dn σ) % 3) + (6 * j)))), u11, u12, u13, u14]) rfl (Nat.le_of_ble_eq_true rfl) ?_
        refine mw_iload i_89_90 (x := nI (bs (oP σ) 6)) rfl ?_
        refine mw_const i_89_91 (v := nI 2) (by decide) ?_
        refine mw_iload i_89_92 (x := nI j) rfl ?_
        refine mw_imul i_89_93 (w := nI (2 * j)) (pk_mul _ _) ?_
        refine mw_ishr i_89_94 (w := nI (bs (oP σ) 6) >>> ((nI (2 * j)) &&& 31)) rfl ?_
        refine mw_const i_89_95 (v := nI 1) (by decide) ?_
        refine mw_iand i_89_96 (w := nI 0) ((bs_bit (by omega) (by omega)).trans (bI_f (fun h => absurd h.1 (by omega)))) ?_
        refine mw_const i_89_97 (v := nI 1) (by decide) ?_
        refine mw_icT i_89_98 (show ¬ nI 0 = nI 1 by decide) ?_
        refine mw_aload i_89_107 (L := QK) rfl ?_
        refine mw_iload i_89_108 (x := nI (18 * ((dn σ) % 3) + (6 * j))) rfl ?_
        refine mw_iald i_89_109 (jn := 18 * ((dn σ) % 3) + (6 * j)) (n := 54) (by omega) (by omega) hQ.2.2.2.2.1 (by decide) (v := I QK (18 * ((dn σ) % 3) + (6 * j))) rfl ?_
        refine mw_istore i_89_110 (ls' := [some (pR (some QW)), some (pR (some QV)), some (pR (some QC)), some (pR (some QK)), some (pR (some QM)), some (pI (nI (bs (oP σ) 6))), some (pI (nI (en (dW σ c) 6))), some (pI (smW σ (twn σ (dn σ)) c (mO σ))), some (pI cm), some (pI (nI j)), some (pI (nI (18 * ((dn σ) % 3) + (6 * j)))), some (pI (I QK (18 * ((dn σ) % 3) + (6 * j)))), u12, u13, u14]) rfl (Nat.le_of_ble_eq_true rfl) ?_
        refine mw_iload i_89_111 (x := nI (bs (oP σ) 6)) rfl ?_
        refine mw_const i_89_112 (v := nI 2) (by decide) ?_
        refine mw_iload i_89_113 (x := nI j) rfl ?_
        refine mw_imul i_89_114 (w := nI (2 * j)) (pk_mul _ _) ?_
        refine mw_const i_89_115 (v := nI 1) (by decide) ?_
        refine mw_iadd i_89_116 (w := nI (2 * j + 1)) (nI_add _ _) ?_
        refine mw_ishr i_89_117 (w := nI (bs (oP σ) 6) >>> ((nI (2 * j + 1)) &&& 31)) rfl ?_
        refine mw_const i_89_118 (v := nI 1) (by decide) ?_
        refine mw_iand i_89_119 (w := nI 0) ((bs_bit (by omega) (by omega)).trans (bI_f (fun h => absurd h.1 (by omega)))) ?_
        refine mw_const i_89_120 (v := nI 1) (by decide) ?_
        refine mw_icT i_89_121 (show ¬ nI 0 = nI 1 by decide) ?_
        refine mw_aload i_89_132 (L := QK) rfl ?_
        refine mw_iload i_89_133 (x := nI (18 * ((dn σ) % 3) + (6 * j))) rfl ?_
        refine mw_const i_89_134 (v := nI 1) (by decide) ?_
        refine mw_iadd i_89_135 (w := nI (18 * ((dn σ) % 3) + (6 * j) + 1)) (nI_add _ _) ?_
        refine mw_iald i_89_136 (jn := 18 * ((dn σ) % 3) + (6 * j) + 1) (n := 54) (by omega) (by omega) hQ.2.2.2.2.1 (by decide) (v := I QK (18 * ((dn σ) % 3) + (6 * j) + 1)) rfl ?_
        refine mw_istore i_89_137 (ls' := [some (pR (some QW)), some (pR (some QV)), some (pR (some QC)), some (pR (some QK)), some (pR (some QM)), some (pI (nI (bs (oP σ) 6))), some (pI (nI (en (dW σ c) 6))), some (pI (smW σ (twn σ (dn σ)) c (mO σ))), some (pI cm), some (pI (nI j)), some (pI (nI (18 * ((dn σ) % 3) + (6 * j)))), some (pI (I QK (18 * ((dn σ) % 3) + (6 * j)))), some (pI (I QK (18 * ((dn σ) % 3) + (6 * j) + 1))), u13, u14]) rfl (Nat.le_of_ble_eq_true rfl) ?_
        have J24 : Mw (d9 + 1) b 89 156 [some (pR (some QW)), some (pR (some QV)), some (pR (some QC)), some (pR (some QK)), some (pR (some QM)), some (pI (nI (bs (oP σ) 6))), some (pI (nI (en (dW σ c) 6))), some (pI (smW σ (twn σ (dn σ)) c (mO σ))), some (pI cm), some (pI (nI j)), some (pI (nI (18 * ((dn σ) % 3) + (6 * j)))), some (pI (I QK (18 * ((dn σ) % 3) + (6 * j)))), some (pI (I QK (18 * ((dn σ) % 3) + (6 * j) + 1))), u13, u14] [pI (bI (oP σ (2 * j) ∨ oP σ (2 * j + 1)))] K I R Q := by
          refine mw_istore i_89_156 (ls' := [some (pR (some QW)), some (pR (some QV)), some (pR (some QC)), some (pR (some QK)), some (pR (some QM)), some (pI (nI (bs (oP σ) 6))), some (pI (nI (en (dW σ c) 6))), some (pI (smW σ (twn σ (dn σ)) c (mO σ))), some (pI cm), some (pI (nI j)), some (pI (nI (18 * ((dn σ) % 3) + (6 * j)))), some (pI (I QK (18 * ((dn σ) % 3) + (6 * j)))), some (pI (I QK (18 * ((dn σ) % 3) + (6 * j) + 1))), some (pI (bI (oP σ (2 * j) ∨ oP σ (2 * j + 1)))), u14]) rfl (Nat.le_of_ble_eq_true rfl) ?_
          have J25 : Mw (d9 + 1) b 89 169 [some (pR (some QW)), some (pR (some QV)), some (pR (some QC)), some (pR (some QK)), some (pR (some QM)), some (pI (nI (bs (oP σ) 6))), some (pI (nI (en (dW σ c) 6))), some (pI (smW σ (twn σ (dn σ)) c (mO σ))), some (pI cm), some (pI (nI j)), some (pI (nI (18 * ((dn σ) % 3) + (6 * j)))), some (pI (I QK (18 * ((dn σ) % 3) + (6 * j)))), some (pI (I QK (18 * ((dn σ) % 3) + (6 * j) + 1))), some (pI (bI (oP σ (2 * j) ∨ oP σ (2 * j + 1)))), u14] [pI (bI (oP σ (2 * j) ∧ oP σ (2 * j + 1)))] K I R Q := by
            refine mw_istore i_89_169 (ls' := [some (pR (some QW)), some (pR (some QV)), some (pR (some QC)), some (pR (some QK)), some (pR (some QM)), some (pI (nI (bs (oP σ) 6))), some (pI (nI (en (dW σ c) 6))), some (pI (smW σ (twn σ (dn σ)) c (mO σ))), some (pI cm), some (pI (nI j)), some (pI (nI (18 * ((dn σ) % 3) + (6 * j)))), some (pI (I QK (18 * ((dn σ) % 3) + (6 * j)))), some (pI (I QK (18 * ((dn σ) % 3) + (6 * j) + 1))), some (pI (bI (oP σ (2 * j) ∨ oP σ (2 * j + 1)))), some (pI (bI (oP σ (2 * j) ∧ oP σ (2 * j + 1))))]) rfl (Nat.le_of_ble_eq_true rfl) ?_
            refine mw_iload i_89_170 (x := bI (oP σ (2 * j) ∨ oP σ (2 * j + 1))) rfl ?_
            refine mw_ifT i_89_171 (bI_f hb0) ?_
            refine mw_iload i_89_189 (x := bI (oP σ (2 * j) ∨ oP σ (2 * j + 1))) rfl ?_
            refine mw_ifT i_89_190 (bI_f hb0) ?_
            refine mw_iinc i_89_224 (x := nI j) (v := nI (j + 1)) (ls' := [some (pR (some QW)), some (pR (some QV)), some (pR (some QC)), some (pR (some QK)), some (pR (some QM)), some (pI (nI (bs (oP σ) 6))), some (pI (nI (en (dW σ c) 6))), some (pI (smW σ (twn σ (dn σ)) c (mO σ))), some (pI cm), some (pI (nI (j + 1))), some (pI (nI (18 * ((dn σ) % 3) + (6 * j)))), some (pI (I QK (18 * ((dn σ) % 3) + (6 * j)))), some (pI (I QK (18 * ((dn σ) % 3) + (6 * j) + 1))), some (pI (bI (oP σ (2 * j) ∨ oP σ (2 * j + 1)))), some (pI (bI (oP σ (2 * j) ∧ oP σ (2 * j + 1))))]) rfl (nI_add _ _) rfl ?_
            refine mw_goto i_89_225 ?_
            exact ih (j + 1) (fun m hm hm2 => by
              by_cases e : m = j
              · subst e; exact absurd hm2 hjm
              · exact hM m (by omega) hm2) _ _ _ _ _ (by omega) (by omega)
          refine mw_iload i_89_157 (x := nI (bs (oP σ) 6)) rfl ?_
          refine mw_const i_89_158 (v := nI 2) (by decide) ?_
          refine mw_iload i_89_159 (x := nI j) rfl ?_
          refine mw_imul i_89_160 (w := nI (2 * j)) (pk_mul _ _) ?_
          refine mw_ishr i_89_161 (w := nI (bs (oP σ) 6) >>> ((nI (2 * j)) &&& 31)) rfl ?_
          refine mw_const i_89_162 (v := nI 3) (by decide) ?_
          refine mw_iand i_89_163 (w := nI (b2 (oP σ (2 * j)) (oP σ (2 * j + 1)))) (bs_two (by omega) (by decide)) ?_
          refine mw_const i_89_164 (v := nI 3) (by decide) ?_
          refine mw_ic i_89_165 (p := ¬ (b2 (oP σ (2 * j)) (oP σ (2 * j + 1))) = 3) (not_congr (nI_eq (by omega) (by omega))) (fun c26 => ?_) (fun c26 => ?_)
          · skip
            refine mw_const i_89_168 (v := nI 0) (by decide) ?_
            exact mw_top (show nI 0 = bI (oP σ (2 * j) ∧ oP σ (2 * j + 1)) from (bI_f ((fun h => c26 (b2_3.mpr h)))).symm) J25
          · skip
            refine mw_const i_89_166 (v := nI 1) (by decide) ?_
            refine mw_goto i_89_167 ?_
            exact mw_top (show nI 1 = bI (oP σ (2 * j) ∧ oP σ (2 * j + 1)) from (bI_t ((b2_3.mp (Classical.not_not.mp c26)))).symm) J25
        refine mw_iload i_89_138 (x := nI j) rfl ?_
        refine mw_aload i_89_139 (L := QM) rfl ?_
        refine mw_aload i_89_140 (L := QM) rfl ?_
        refine mw_const i_89_141 (v := nI 0) (by decide) ?_
        refine mw_iald i_89_142 (jn := 0) (n := 18) (by omega) (by omega) hQ.2.2.2.2.2 (by decide) (v := nI (dn σ)) (LR_day hL hV) ?_
        refine mw_callS i_89_143 mf_79 (as := [pR (some QM), pI (nI (dn σ))]) (rest := [pI (nI j)]) (d' := d9) (b' := b) (ls0 := [some (pR (some QM)), some (pI (nI (dn σ)))]) rfl rfl rfl (Nat.le_of_ble_eq_true rfl) rfl rfl rfl ?_
        refine b_many hQ hL (Nat.le_refl _) (by omega) (by omega) ?_
        refine aft_v ?_
        refine mw_ic i_89_144 (p := (mn σ (dn σ)) ≤ j) (nI_leI (by omega) (by omega)) (fun c27 => ?_) (fun c27 => ?_)
        · skip
          refine mw_const i_89_155 (v := nI 0) (by decide) ?_
          exact mw_top (show nI 0 = bI (oP σ (2 * j) ∨ oP σ (2 * j + 1)) from (bI_f (hb0)).symm) J24
        · skip
          exact absurd c27 (by omega)
set_option maxRecDepth 20000 in
theorem b_sum1_lp {d b : Nat} {K : KM} {I : IM} {R : RM} {Q : QT} {n n0 : Nat} {σ : ST} {c : Nat → Nat} (hd : 2 ≤ d) (hQ : KQ K) (hL : LR n σ I) (hV : IV n0 σ) (hmn : ¬ mn σ (dn σ) = 0) (hc : ∀ k, c k ≤ 7)  (q : Q (.inl (some (pI (Vv σ (twn σ (dn σ)) c)))) K I R) : ∀ (n j : Nat) (hI : ∀ k, k < cnt (oP σ) j → Cm σ c k) (u10 u11 u12 u13 u14 : Option PV), 6 - j < n → j ≤ 6 → Mw d b N_L_sumOf 6 [some (pR (some QW)), some (pR (some QV)), some (pR (some QC)), some (pR (some QK)), some (pR (some QM)), some (pI (nI (bs (oP σ) 6))), some (pI (nI (en (dW σ c) 6))), some (pI (smW σ (twn σ (dn σ)) c (cnt (oP σ) j))), some (pI (nI (bs (cmP σ c j) 7))), some (pI (nI j)), u10, u11, u12, u13, u14] [] K I R Q := by
  obtain ⟨d9, rfl⟩ : ∃ d9, d = d9 + 1 := ⟨d - 1, by omega⟩
  intro n
  induction n with
  | zero => intro j hI u10 u11 u12 u13 u14 hn; exact absurd hn (Nat.not_lt_zero _)
  | succ n ih =>
    intro j hI u10 u11 u12 u13 u14 hn hi
    have hdd := hV.2.2.1.2
    have h10 := hL.2.2.2.2.2.2.2.2.2.1
    obtain ⟨g1, g2, g3, g4, g5⟩ := LR_card hL (x := dn σ) (Nat.le_refl _) (by omega)
    have htw : I QM (4 + dn σ % 3) = nI (twn σ (dn σ)) ∧ twn σ (dn σ) < 4 := by
      obtain ⟨t, ht, et⟩ := (hV.2.2.2.2.2.1 (dn σ) (by omega)).2.2.2.1 hmn
      have e : twn σ (dn σ) = t := by unfold twn; rw [et]; exact nI_clamp (by omega)
      rw [g3 hmn, et, e]; exact ⟨rfl, ht⟩
    have hD := dW_le (σ := σ) hc
    obtain ⟨e, he⟩ : ∃ e, e = dW σ c j := ⟨_, rfl⟩
    have he7 : e ≤ 7 := by rw [he]; exact hD j
    refine mw_iload i_89_6 (x := nI j) rfl ?_
    refine mw_const i_89_7 (v := nI 6) (by decide) ?_
    refine mw_ic i_89_8 (p := 6 ≤ j) (nI_leI (by omega) (by omega)) (fun c1 => ?_) (fun c1 => ?_)
    · skip
      obtain rfl : j = 6 := by omega
      rw [cnt6 hL] at hI ⊢
      refine mw_const i_89_75 (v := nI 0) (by decide) ?_
      refine mw_istore i_89_76 (ls' := [some (pR (some QW)), some (pR (some QV)), some (pR (some QC)), some (pR (some QK)), some (pR (some QM)), some (pI (nI (bs (oP σ) 6))), some (pI (nI (en (dW σ c) 6))), some (pI (smW σ (twn σ (dn σ)) c (mO σ))), some (pI (nI (bs (cmP σ c 6) 7))), some (pI (nI 0)), u10, u11, u12, u13, u14]) rfl (Nat.le_of_ble_eq_true rfl) ?_
      exact b_sum2_lp hd hQ hL hV hmn hc hI q 4 0 (fun m hm => absurd hm (Nat.not_lt_zero _)) _ _ _ _ _ (by omega) (by omega)
    · skip
      refine mw_iload i_89_9 (x := nI (en (dW σ c) 6)) rfl ?_
      refine mw_const i_89_10 (v := nI 3) (by decide) ?_
      refine mw_iload i_89_11 (x := nI j) rfl ?_
      refine mw_imul i_89_12 (w := nI (3 * j)) (pk_mul _ _) ?_
      refine mw_ishr i_89_13 (w := ((nI (en (dW σ c) 6)) >>> ((nI (3 * j)) &&& 31))) rfl ?_
      refine mw_const i_89_14 (v := nI 7) (by decide) ?_
      refine mw_iand i_89_15 (w := nI e) (he ▸ en_dig hD (by omega)) ?_
      refine mw_istore i_89_16 (ls' := [some (pR (some QW)), some (pR (some QV)), some (pR (some QC)), some (pR (some QK)), some (pR (some QM)), some (pI (nI (bs (oP σ) 6))), some (pI (nI (en (dW σ c) 6))), some (pI (smW σ (twn σ (dn σ)) c (cnt (oP σ) j))), some (pI (nI (bs (cmP σ c j) 7))), some (pI (nI j)), some (pI (nI e)), u11, u12, u13, u14]) rfl (Nat.le_of_ble_eq_true rfl) ?_
      refine mw_iload i_89_17 (x := nI (bs (oP σ) 6)) rfl ?_
      refine mw_iload i_89_18 (x := nI j) rfl ?_
      refine mw_ishr i_89_19 (w := ((nI (bs (oP σ) 6)) >>> ((nI j) &&& 31))) rfl ?_
      refine mw_const i_89_20 (v := nI 1) (by decide) ?_
      refine mw_iand i_89_21 (w := bI (oP σ j)) (bs_bit (by omega) (by decide)) ?_
      refine mw_const i_89_22 (v := nI 1) (by decide) ?_
      refine mw_ic i_89_23 (p := ¬ (bI (oP σ j)) = (nI 1)) Iff.rfl (fun c2 => ?_) (fun c2 => ?_)
      · skip
        refine mw_iinc i_89_73 (x := nI j) (v := nI (j + 1)) (ls' := [some (pR (some QW)), some (pR (some QV)), some (pR (some QC)), some (pR (some QK)), some (pR (some QM)), some (pI (nI (bs (oP σ) 6))), some (pI (nI (en (dW σ c) 6))), some (pI (smW σ (twn σ (dn σ)) c (cnt (oP σ) j))), some (pI (nI (bs (cmP σ c j) 7))), some (pI (nI (j + 1))), some (pI (nI e)), u11, u12, u13, u14]) rfl (nI_add _ _) rfl ?_
        refine mw_goto i_89_74 ?_
        rw [← sm_same h10 (Or.inl (fun h => c2 (bI_t h))), ← cm_same (Or.inl (fun h => c2 (bI_t h)))]
        exact ih (j + 1) (cm_same2 hI (Or.inl (fun h => c2 (bI_t h)))) _ _ _ _ _ (by omega) (by omega)
      · skip
        have ho : oP σ j := bI_1.mp (Classical.not_not.mp c2)
        refine mw_iload i_89_24 (x := nI e) rfl ?_
        refine mw_const i_89_25 (v := nI 7) (by decide) ?_
        refine mw_ic i_89_26 (p := 7 ≤ e) (nI_leI (by omega) (by omega)) (fun c3 => ?_) (fun c3 => ?_)
        · skip
          refine mw_iinc i_89_73 (x := nI j) (v := nI (j + 1)) (ls' := [some (pR (some QW)), some (pR (some QV)), some (pR (some QC)), some (pR (some QK)), some (pR (some QM)), some (pI (nI (bs (oP σ) 6))), some (pI (nI (en (dW σ c) 6))), some (pI (smW σ (twn σ (dn σ)) c (cnt (oP σ) j))), some (pI (nI (bs (cmP σ c j) 7))), some (pI (nI (j + 1))), some (pI (nI e)), u11, u12, u13, u14]) rfl (nI_add _ _) rfl ?_
          refine mw_goto i_89_74 ?_
          rw [← sm_same h10 (Or.inr (by rw [← he]; omega)), ← cm_same (Or.inr (by rw [← he]; omega))]
          exact ih (j + 1) (cm_same2 hI (Or.inr (by rw [← he]; omega))) _ _ _ _ _ (by omega) (by omega)
        · skip
          refine mw_aload i_89_27 (L := QW) rfl ?_
          refine mw_iload i_89_28 (x := nI e) rfl ?_
          refine mw_aload i_89_29 (L := QM) rfl ?_
          refine mw_const i_89_30 (v := nI 0) (by decide) ?_
          refine mw_iald i_89_31 (jn := 0) (n := 18) (by omega) (by omega) hQ.2.2.2.2.2 (by decide) (v := nI (dn σ)) (LR_day hL hV) ?_
          refine mw_callS i_89_32 mf_80 (as := [pR (some QW), pI (nI e), pI (nI (dn σ))]) (rest := []) (d' := d9) (b' := b) (ls0 := [some (pR (some QW)), some (pI (nI e)), some (pI (nI (dn σ)))]) rfl rfl rfl (Nat.le_of_ble_eq_true rfl) rfl rfl rfl ?_
          refine b_isHurt hQ hL (by omega) ?_
          refine aft_v ?_
          refine mw_neB i_89_33 rfl (fun c4 => ?_) (fun c4 => ?_)
          · skip
            refine mw_const i_89_49 (v := (-1)) (by decide) ?_
            refine mw_iretI i_89_50 (x := (-1)) rt_89 ?_
            rw [show ((-1) : Int32) = Vv σ (twn σ (dn σ)) c from sO_bad hL (by omega) ho he (by omega) (Or.inl (fun h => h.1 c4))]
            exact q
          · skip
            refine mw_aload i_89_34 (L := QK) rfl ?_
            refine mw_aload i_89_35 (L := QM) rfl ?_
            refine mw_aload i_89_36 (L := QM) rfl ?_
            refine mw_const i_89_37 (v := nI 0) (by decide) ?_
            refine mw_iald i_89_38 (jn := 0) (n := 18) (by omega) (by omega) hQ.2.2.2.2.2 (by decide) (v := nI (dn σ)) (LR_day hL hV) ?_
            refine mw_iload i_89_39 (x := nI e) rfl ?_
            refine mw_callS i_89_40 mf_83 (as := [pR (some QK), pR (some QM), pI (nI (dn σ)), pI (nI e)]) (rest := []) (d' := d9) (b' := b) (ls0 := [some (pR (some QK)), some (pR (some QM)), some (pI (nI (dn σ))), some (pI (nI e)), none, none, none]) rfl rfl rfl (Nat.le_of_ble_eq_true rfl) rfl rfl rfl ?_
            refine b_isOn (by omega) hQ hL (Nat.le_refl _) (by omega) (by omega) (by omega) ?_
            refine aft_v ?_
            refine mw_neB i_89_41 rfl (fun c5 => ?_) (fun c5 => ?_)
            · skip
              refine mw_const i_89_49 (v := (-1)) (by decide) ?_
              refine mw_iretI i_89_50 (x := (-1)) rt_89 ?_
              rw [show ((-1) : Int32) = Vv σ (twn σ (dn σ)) c from sO_bad hL (by omega) ho he (by omega) (Or.inl (fun h => h.2 c5))]
              exact q
            · skip
              refine mw_iload i_89_42 (x := nI (bs (cmP σ c j) 7)) rfl ?_
              refine mw_iload i_89_43 (x := nI e) rfl ?_
              refine mw_ishr i_89_44 (w := ((nI (bs (cmP σ c j) 7)) >>> ((nI e) &&& 31))) rfl ?_
              refine mw_const i_89_45 (v := nI 1) (by decide) ?_
              refine mw_iand i_89_46 (w := bI (cmP σ c j e)) (bs_bit (by omega) (by decide)) ?_
              refine mw_const i_89_47 (v := nI 1) (by decide) ?_
              refine mw_ic i_89_48 (p := ¬ (bI (cmP σ c j e)) = (nI 1)) Iff.rfl (fun c6 => ?_) (fun c6 => ?_)
              · skip
                have hnc : ¬ cmP σ c j e := fun h => c6 (bI_t h)
                have hca : cand σ e := ⟨c4, c5⟩
                refine mw_iload i_89_51 (x := nI (bs (cmP σ c j) 7)) rfl ?_
                refine mw_const i_89_52 (v := nI 1) (by decide) ?_
                refine mw_iload i_89_53 (x := nI e) rfl ?_
                refine mw_ishl i_89_54 (w := nI (2 ^ e)) (shl1 (by omega)) ?_
                refine mw_ior i_89_55 (w := nI (bs (cmP σ c (j + 1)) 7)) (cm_ins ho he (by omega) hnc) ?_
                refine mw_istore i_89_56 (ls' := [some (pR (some QW)), some (pR (some QV)), some (pR (some QC)), some (pR (some QK)), some (pR (some QM)), some (pI (nI (bs (oP σ) 6))), some (pI (nI (en (dW σ c) 6))), some (pI (smW σ (twn σ (dn σ)) c (cnt (oP σ) j))), some (pI (nI (bs (cmP σ c (j + 1)) 7))), some (pI (nI j)), some (pI (nI e)), u11, u12, u13, u14]) rfl (Nat.le_of_ble_eq_true rfl) ?_
                refine mw_iload i_89_57 (x := smW σ (twn σ (dn σ)) c (cnt (oP σ) j)) rfl ?_
                refine mw_aload i_89_58 (L := QW) rfl ?_
                refine mw_aload i_89_59 (L := QV) rfl ?_
                refine mw_aload i_89_60 (L := QM) rfl ?_
                refine mw_const i_89_61 (v := nI 4) (by decide) ?_
                refine mw_aload i_89_62 (L := QM) rfl ?_
                refine mw_const i_89_63 (v := nI 0) (by decide) ?_
                refine mw_iald i_89_64 (jn := 0) (n := 18) (by omega) (by omega) hQ.2.2.2.2.2 (by decide) (v := nI (dn σ)) (LR_day hL hV) ?_
                refine mw_const i_89_65 (v := nI 3) (by decide) ?_
                refine mw_irem i_89_66 (by decide) (w := nI ((dn σ) % 3)) (pk_rem (by omega) (by omega) (by omega)) ?_
                refine mw_iadd i_89_67 (w := nI (4 + ((dn σ) % 3))) (nI_add _ _) ?_
                refine mw_iald i_89_68 (jn := 4 + ((dn σ) % 3)) (n := 18) (by omega) (by omega) hQ.2.2.2.2.2 (by decide) (v := nI (twn σ (dn σ))) htw.1 ?_
                refine mw_iload i_89_69 (x := nI e) rfl ?_
                refine mw_callS i_89_70 mf_81 (as := [pR (some QW), pR (some QV), pI (nI (twn σ (dn σ))), pI (nI e)]) (rest := [pI (smW σ (twn σ (dn σ)) c (cnt (oP σ) j))]) (d' := d9) (b' := b) (ls0 := [some (pR (some QW)), some (pR (some QV)), some (pI (nI (twn σ (dn σ)))), some (pI (nI e)), none, none]) rfl rfl rfl (Nat.le_of_ble_eq_true rfl) rfl rfl rfl ?_
                refine b_worth hQ hL (by omega) (by omega) ?_
                refine aft_v ?_
                refine mw_iadd i_89_71 (w := ((smW σ (twn σ (dn σ)) c (cnt (oP σ) j)) + (wrt σ (twn σ (dn σ)) e))) rfl ?_
                refine mw_istore i_89_72 (ls' := [some (pR (some QW)), some (pR (some QV)), some (pR (some QC)), some (pR (some QK)), some (pR (some QM)), some (pI (nI (bs (oP σ) 6))), some (pI (nI (en (dW σ c) 6))), some (pI ((smW σ (twn σ (dn σ)) c (cnt (oP σ) j)) + (wrt σ (twn σ (dn σ)) e))), some (pI (nI (bs (cmP σ c (j + 1)) 7))), some (pI (nI j)), some (pI (nI e)), u11, u12, u13, u14]) rfl (Nat.le_of_ble_eq_true rfl) ?_
                refine mw_iinc i_89_73 (x := nI j) (v := nI (j + 1)) (ls' := [some (pR (some QW)), some (pR (some QV)), some (pR (some QC)), some (pR (some QK)), some (pR (some QM)), some (pI (nI (bs (oP σ) 6))), some (pI (nI (en (dW σ c) 6))), some (pI ((smW σ (twn σ (dn σ)) c (cnt (oP σ) j)) + (wrt σ (twn σ (dn σ)) e))), some (pI (nI (bs (cmP σ c (j + 1)) 7))), some (pI (nI (j + 1))), some (pI (nI e)), u11, u12, u13, u14]) rfl (nI_add _ _) rfl ?_
                refine mw_goto i_89_74 ?_
                rw [← sm_up h10 ho he (by omega)]
                exact ih (j + 1) (cm_up2 hI ho he hca hnc) _ _ _ _ _ (by omega) (by omega)
              · skip
                refine mw_const i_89_49 (v := (-1)) (by decide) ?_
                refine mw_iretI i_89_50 (x := (-1)) rt_89 ?_
                rw [show ((-1) : Int32) = Vv σ (twn σ (dn σ)) c from sO_bad hL (by omega) ho he (by omega) (Or.inr (bI_1.mp (Classical.not_not.mp c6)))]
                exact q
set_option maxRecDepth 20000 in
set_option maxHeartbeats 400000 in
theorem b_sumOf {d b : Nat} {K : KM} {I : IM} {R : RM} {Q : QT} {n n0 : Nat} {σ : ST} {c : Nat → Nat} (hd : 2 ≤ d) (hQ : KQ K) (hL : LR n σ I) (hV : IV n0 σ) (hmn : ¬ mn σ (dn σ) = 0) (hc : ∀ k, c k ≤ 7)  (q : Q (.inl (some (pI (Vv σ (twn σ (dn σ)) c)))) K I R) : Mw d b N_L_sumOf 0 [some (pR (some QW)), some (pR (some QV)), some (pR (some QC)), some (pR (some QK)), some (pR (some QM)), some (pI (nI (bs (oP σ) 6))), some (pI (nI (en (dW σ c) 6))), none, none, none, none, none, none, none, none] [] K I R Q := by
  obtain ⟨d9, rfl⟩ : ∃ d9, d = d9 + 1 := ⟨d - 1, by omega⟩
  refine mw_const i_89_0 (v := nI 0) (by decide) ?_
  refine mw_istore i_89_1 (ls' := [some (pR (some QW)), some (pR (some QV)), some (pR (some QC)), some (pR (some QK)), some (pR (some QM)), some (pI (nI (bs (oP σ) 6))), some (pI (nI (en (dW σ c) 6))), some (pI (nI 0)), none, none, none, none, none, none, none]) rfl (Nat.le_of_ble_eq_true rfl) ?_
  refine mw_const i_89_2 (v := nI 0) (by decide) ?_
  refine mw_istore i_89_3 (ls' := [some (pR (some QW)), some (pR (some QV)), some (pR (some QC)), some (pR (some QK)), some (pR (some QM)), some (pI (nI (bs (oP σ) 6))), some (pI (nI (en (dW σ c) 6))), some (pI (nI 0)), some (pI (nI 0)), none, none, none, none, none, none]) rfl (Nat.le_of_ble_eq_true rfl) ?_
  refine mw_const i_89_4 (v := nI 0) (by decide) ?_
  refine mw_istore i_89_5 (ls' := [some (pR (some QW)), some (pR (some QV)), some (pR (some QC)), some (pR (some QK)), some (pR (some QM)), some (pI (nI (bs (oP σ) 6))), some (pI (nI (en (dW σ c) 6))), some (pI (nI 0)), some (pI (nI 0)), some (pI (nI 0)), none, none, none, none, none]) rfl (Nat.le_of_ble_eq_true rfl) ?_
  have e0 : bs (cmP σ c 0) 7 = 0 := by
    rw [bs_ext (p := cmP σ c 0) (a := 0) (b := 7) (by decide) (fun w _ _ ⟨k, hk, _⟩ => absurd hk (Nat.not_lt_zero _))]; rfl
  have := b_sum1_lp (d := d9 + 1) (b := b) (by omega) hQ hL hV hmn hc q 7 0 (fun k hk => absurd hk (Nat.not_lt_zero _)) none none none none none (by omega) (by omega)
  rw [e0] at this
  exact this
