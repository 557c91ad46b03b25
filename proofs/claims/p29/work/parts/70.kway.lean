/-! the ways to mend: digits, what is valid, the first greatest -/
def Wb (V : Nat → Int32) : Nat → Int32 × Nat
  | 0 => (-1, 0)
  | n + 1 => if (Wb V n).1 < V n then (V n, n) else Wb V n
theorem i32_le_lt {a b c : Int32} (h : a ≤ b) (h2 : b < c) : a ≤ c := by
  rw [Int32.le_iff_toInt_le] at *
  rw [Int32.lt_iff_toInt_lt] at h2
  omega
theorem Wb_ge {V : Nat → Int32} : ∀ n, (-1 : Int32) ≤ (Wb V n).1
  | 0 => Int32.le_refl _
  | n + 1 => by
    unfold Wb
    split
    · exact i32_le_lt (Wb_ge n) (by assumption)
    · exact Wb_ge n
theorem Wb_skip {V : Nat → Int32} {a b : Nat} (hab : a ≤ b) (h : ∀ w, a ≤ w → w < b → V w = (-1)) : Wb V b = Wb V a := by
  induction b with
  | zero => rw [show a = 0 by omega]
  | succ b ih =>
    by_cases e : a = b + 1
    · rw [e]
    · rw [← ih (by omega) (fun w h1 h2 => h w h1 (by omega))]
      have hv := h b (by omega) (by omega)
      show (if (Wb V b).1 < V b then (V b, b) else Wb V b) = Wb V b
      rw [if_neg]
      rw [hv, Int32.not_lt]
      exact Wb_ge b
theorem Wb_s {V : Nat → Int32} {n : Nat} : Wb V (n + 1) = if (Wb V n).1 < V n then (V n, n) else Wb V n := rfl
theorem Wb_in {V : Nat → Int32} : ∀ n, (Wb V n).1 ≠ (-1) → (Wb V n).2 < n ∧ V (Wb V n).2 = (Wb V n).1
  | 0, h => absurd rfl h
  | n + 1, h => by
    rw [Wb_s] at h ⊢
    split
    · exact ⟨Nat.lt_succ_self n, rfl⟩
    · rename_i hh
      rw [if_neg hh] at h
      obtain ⟨a, b⟩ := Wb_in n h
      exact ⟨by omega, b⟩
theorem Wb_max {V : Nat → Int32} : ∀ n w, w < n → V w ≤ (Wb V n).1
  | 0, w, h => absurd h (Nat.not_lt_zero _)
  | n + 1, w, h => by
    rw [Wb_s]
    by_cases e : w = n
    · split
      · rw [e]; exact Int32.le_refl _
      · rename_i hh; rw [e]; exact Int32.not_lt.mp hh
    · have := Wb_max (V := V) n w (by omega)
      split
      · exact i32_le_lt this (by assumption)
      · exact this
def upn (c : Nat → Nat) (p e : Nat) : Nat → Nat := fun j => if j = p then e else c j
theorem upn_at {c : Nat → Nat} {p e : Nat} : upn c p e p = e := if_pos rfl
theorem upn_ne {c : Nat → Nat} {p e j : Nat} (h : j ≠ p) : upn c p e j = c j := if_neg h
/-- the k-th digit of a way; the first place counts most -/
def dig (P m w k : Nat) : Nat := w / (P + 1) ^ (m - 1 - k) % (P + 1)
def pre (P : Nat) (c : Nat → Nat) : Nat → Nat
  | 0 => 0
  | p + 1 => pre P c p * (P + 1) + c p
theorem dig_le {P m w k : Nat} : dig P m w k ≤ P := Nat.lt_succ_iff.mp (Nat.mod_lt _ (Nat.succ_pos _))
theorem pre_congr {P : Nat} {c c' : Nat → Nat} : ∀ {p : Nat}, (∀ j, j < p → c j = c' j) → pre P c p = pre P c' p
  | 0, _ => rfl
  | p + 1, h => by
    unfold pre
    rw [pre_congr (p := p) (fun j hj => h j (by omega)), h p (by omega)]
theorem pre_up {P : Nat} {c : Nat → Nat} {p e : Nat} : pre P (upn c p e) (p + 1) = pre P c p * (P + 1) + e := by
  show pre P (upn c p e) p * (P + 1) + upn c p e p = _
  rw [upn_at, pre_congr (c' := c) (fun j hj => upn_ne (by omega))]
theorem dig_pre {P m w : Nat} {c : Nat → Nat} : ∀ {p : Nat}, p ≤ m → (∀ j, j < p → c j ≤ P) → w / (P + 1) ^ (m - p) = pre P c p → ∀ k, k < p → dig P m w k = c k
  | 0, _, _, _, k, h => absurd h (Nat.not_lt_zero _)
  | p + 1, hp, hc, h, k, hk => by
    have hcp := hc p (by omega)
    have e1 : m - p = m - (p + 1) + 1 := by omega
    have h0 : w / (P + 1) ^ (m - p) = pre P c p := by
      rw [e1, Nat.pow_succ, ← Nat.div_div_eq_div_mul, h]
      show (pre P c p * (P + 1) + c p) / (P + 1) = _
      rw [Nat.mul_comm, Nat.mul_add_div (Nat.succ_pos _), Nat.div_eq_of_lt (Nat.lt_succ_of_le hcp), Nat.add_zero]
    by_cases e : k = p
    · unfold dig
      rw [e, show m - 1 - p = m - (p + 1) by omega, h]
      show (pre P c p * (P + 1) + c p) % (P + 1) = _
      rw [Nat.mul_comm, Nat.mul_add_mod, Nat.mod_eq_of_lt (Nat.lt_succ_of_le hcp)]
    · exact dig_pre (by omega) (fun j hj => hc j (by omega)) h0 k (by omega)
theorem pre_dig {P m w : Nat} (hw : w < (P + 1) ^ m) : ∀ p, p ≤ m → pre P (dig P m w) p = w / (P + 1) ^ (m - p)
  | 0, _ => by
    rw [Nat.sub_zero, Nat.div_eq_of_lt hw]; rfl
  | p + 1, hp => by
    show pre P (dig P m w) p * (P + 1) + dig P m w p = _
    rw [pre_dig hw p (by omega), show m - p = m - (p + 1) + 1 by omega, Nat.pow_succ, ← Nat.div_div_eq_div_mul]
    unfold dig
    rw [show m - 1 - p = m - (p + 1) by omega, Nat.mul_comm]
    exact Nat.div_add_mod _ _
theorem pre_lt {P : Nat} {c : Nat → Nat} : ∀ {p : Nat}, (∀ j, j < p → c j ≤ P) → pre P c p < (P + 1) ^ p
  | 0, _ => Nat.one_pos
  | p + 1, h => by
    have h1 := pre_lt (P := P) (c := c) (p := p) (fun j hj => h j (by omega))
    have h2 := h p (by omega)
    show pre P c p * (P + 1) + c p < (P + 1) ^ (p + 1)
    rw [Nat.pow_succ]
    have h3 : (pre P c p + 1) * (P + 1) ≤ (P + 1) ^ p * (P + 1) := Nat.mul_le_mul_right _ h1
    rw [Nat.succ_mul] at h3
    omega
/-- those of the ways that begin so -/
theorem in_rng {P m w p e : Nat} {c : Nat → Nat} (hp : p < m) (h1 : (pre P c p * (P + 1) + e) * (P + 1) ^ (m - (p + 1)) ≤ w) (h2 : w < (pre P c p * (P + 1) + (e + 1)) * (P + 1) ^ (m - (p + 1))) : w / (P + 1) ^ (m - (p + 1)) = pre P (upn c p e) (p + 1) := by
  rw [pre_up]
  exact Nat.div_eq_of_lt_le h1 h2
/-- a seat's number, P for nobody -/
def sv (P c : Nat) : Int32 := if c = P then (-1) else nI c
noncomputable def mO (σ : ST) : Nat := cnt (opn σ) (2 * mn σ (dn σ))
noncomputable def Os (σ : ST) (k : Nat) : Nat := pos (opn σ) (2 * mn σ (dn σ)) k
noncomputable def nC (σ : ST) : Nat := cnt (cand σ) (pn σ)
noncomputable def Cd (σ : ST) (k : Nat) : Nat := pos (cand σ) (pn σ) k
/-- who is at a place, when the open places below p are filled by c -/
noncomputable def who (σ : ST) (c : Nat → Nat) (p s : Nat) : Nat := @ite _ (opn σ s) (Classical.propDecidable _) (if cnt (opn σ) s < p then c (cnt (opn σ) s) else pn σ) (sw σ s)
def brM (σ : ST) (m f s : Nat) : Prop := if σ 19 (36 * dn σ + 6 * m + 2) = nI 0 then brd σ s f (nI (dn σ)) else brd σ f s (nI (dn σ))
def bad (σ : ST) (c : Nat → Nat) (p m : Nat) : Prop := ¬ who σ c p (2 * m) = pn σ ∧ ¬ who σ c p (2 * m + 1) = pn σ ∧ brM σ m (who σ c p (2 * m)) (who σ c p (2 * m + 1))
/-- the open place before this one is of the same match -/
def bnd (σ : ST) (k : Nat) : Prop := Os σ k % 2 = 1 ∧ opn σ (Os σ k - 1)
def Lk (σ : ST) (c : Nat → Nat) (k : Nat) : Prop := (¬ c k = pn σ → cand σ (c k) ∧ ∀ j, j < k → ¬ c j = c k) ∧ (bnd σ k → (c k = pn σ ↔ c (k - 1) = pn σ)) ∧ ¬ bad σ c (k + 1) (Os σ k / 2)
def PVd (σ : ST) (c : Nat → Nat) (p : Nat) : Prop := ∀ k, k < p → Lk σ c k
def wo (σ : ST) (tw w : Nat) : Int32 := if w = pn σ then nI 0 else wrt σ tw w
def smW (σ : ST) (tw : Nat) (c : Nat → Nat) (p : Nat) : Int32 := smI (fun k => wo σ tw (c k)) p
noncomputable def Vw (σ : ST) (tw : Nat) (w : Nat) : Int32 := @ite _ (PVd σ (dig (pn σ) (mO σ) w) (mO σ)) (Classical.propDecidable _) (smW σ tw (dig (pn σ) (mO σ) w) (mO σ)) (-1)
theorem who_congr {σ : ST} {c c' : Nat → Nat} {p s : Nat} (h : ∀ j, j < p → c j = c' j) : who σ c p s = who σ c' p s := by
  unfold who
  split
  · split
    · exact h _ (by assumption)
    · rfl
  · rfl
theorem bad_congr {σ : ST} {c c' : Nat → Nat} {p m : Nat} (h : ∀ j, j < p → c j = c' j) : bad σ c p m ↔ bad σ c' p m := by
  unfold bad
  rw [who_congr h, who_congr h]
theorem bnd_pos {σ : ST} {k : Nat} (h : bnd σ k) (hk : k < mO σ) : 0 < k ∧ Os σ (k - 1) = Os σ k - 1 := by
  have h1 := pos_lt hk
  have h2 : cnt (opn σ) (Os σ k - 1) + 1 = k := by
    have e : Os σ k - 1 + 1 = Os σ k := by have := h.1; omega
    have := cnt_t h.2
    rw [e] at this
    exact this.symm.trans h1.2.2
  refine ⟨by omega, ?_⟩
  rw [show k - 1 = cnt (opn σ) (Os σ k - 1) by omega]
  exact pos_cnt (by have := h1.1; unfold Os at *; omega) h.2
theorem Lk_congr {σ : ST} {c c' : Nat → Nat} {k : Nat} (hk : k < mO σ) (h : ∀ j, j < k + 1 → c j = c' j) : Lk σ c k ↔ Lk σ c' k := by
  have e1 : (∀ j, j < k → ¬ c j = c k) ↔ ∀ j, j < k → ¬ c' j = c' k := ⟨fun a j hj => by rw [← h j (by omega), ← h k (by omega)]; exact a j hj, fun a j hj => by rw [h j (by omega), h k (by omega)]; exact a j hj⟩
  have e2 : (bnd σ k → (c k = pn σ ↔ c (k - 1) = pn σ)) ↔ (bnd σ k → (c' k = pn σ ↔ c' (k - 1) = pn σ)) := by
    have := h k (by omega)
    have := h (k - 1) (by omega)
    constructor
    · intro a b; have := a b; simp_all
    · intro a b; have := a b; simp_all
  unfold Lk
  rw [e2, e1, bad_congr h, h k (by omega)]
theorem PVd_congr {σ : ST} {c c' : Nat → Nat} {p : Nat} (hp : p ≤ mO σ) (h : ∀ j, j < p → c j = c' j) : PVd σ c p ↔ PVd σ c' p := ⟨fun a k hk => (Lk_congr (by omega) (fun j hj => h j (by omega))).mp (a k hk), fun a k hk => (Lk_congr (by omega) (fun j hj => h j (by omega))).mpr (a k hk)⟩
theorem PVd_le {σ : ST} {c : Nat → Nat} {p q : Nat} (h : PVd σ c p) (hq : q ≤ p) : PVd σ c q := fun k hk => h k (by omega)
/-- where the ways with this digit begin -/
noncomputable def bg (σ : ST) (c : Nat → Nat) (p e : Nat) : Nat := (pre (pn σ) c p * (pn σ + 1) + e) * (pn σ + 1) ^ (mO σ - (p + 1))
theorem Vw_no {σ : ST} {tw : Nat} {c : Nat → Nat} {p e w : Nat} (hp : p < mO σ) (hc : ∀ j, j < p → c j ≤ pn σ) (he : e ≤ pn σ) (hn : ¬ Lk σ (upn c p e) p) (h1 : bg σ c p e ≤ w) (h2 : w < bg σ c p (e + 1)) : Vw σ tw w = (-1) := by
  have h3 := in_rng hp h1 h2
  have h4 := dig_pre (c := upn c p e) (p := p + 1) hp (fun j hj => by
    by_cases q : j = p
    · rw [q, upn_at]; exact he
    · rw [upn_ne q]; exact hc j (by omega)) h3
  unfold Vw
  rw [if_neg]
  intro q
  exact hn ((Lk_congr hp (fun j hj => h4 j hj)).mp (q p hp))
theorem bg_le {σ : ST} {c : Nat → Nat} {p e e2 : Nat} (h : e ≤ e2) : bg σ c p e ≤ bg σ c p e2 := Nat.mul_le_mul_right _ (by omega)
theorem Wb_no {σ : ST} {tw : Nat} {c : Nat → Nat} {p e : Nat} (hp : p < mO σ) (hc : ∀ j, j < p → c j ≤ pn σ) (he : e ≤ pn σ) (hn : ¬ Lk σ (upn c p e) p) : Wb (Vw σ tw) (bg σ c p (e + 1)) = Wb (Vw σ tw) (bg σ c p e) := Wb_skip (bg_le (by omega)) (fun _ h1 h2 => Vw_no hp hc he hn h1 h2)
theorem Wb_nos {σ : ST} {tw : Nat} {c : Nat → Nat} {p e : Nat} (hp : p < mO σ) (hc : ∀ j, j < p → c j ≤ pn σ) : ∀ {e2 : Nat}, e ≤ e2 → e2 ≤ pn σ + 1 → (∀ k, e ≤ k → k < e2 → ¬ Lk σ (upn c p k) p) → Wb (Vw σ tw) (bg σ c p e2) = Wb (Vw σ tw) (bg σ c p e)
  | 0, h, _, _ => by rw [show e = 0 by omega]
  | e2 + 1, h, h2, hn => by
    by_cases q : e = e2 + 1
    · rw [q]
    · rw [Wb_no hp hc (by omega) (hn e2 (by omega) (by omega))]
      exact Wb_nos hp hc (by omega) (by omega) (fun k h3 h4 => hn k h3 (by omega))
theorem bg_in {σ : ST} {c : Nat → Nat} {p e : Nat} : pre (pn σ) (upn c p e) (p + 1) * (pn σ + 1) ^ (mO σ - (p + 1)) = bg σ c p e := by rw [pre_up]; rfl
theorem bg_out {σ : ST} {c : Nat → Nat} {p e : Nat} : (pre (pn σ) (upn c p e) (p + 1) + 1) * (pn σ + 1) ^ (mO σ - (p + 1)) = bg σ c p (e + 1) := by rw [pre_up]; rfl
theorem bg_0 {σ : ST} {c : Nat → Nat} {p : Nat} (hp : p < mO σ) : bg σ c p 0 = pre (pn σ) c p * (pn σ + 1) ^ (mO σ - p) := by
  unfold bg
  rw [show mO σ - p = mO σ - (p + 1) + 1 by omega, Nat.pow_succ, Nat.add_zero, Nat.mul_assoc, Nat.mul_comm (pn σ + 1)]
theorem bg_P {σ : ST} {c : Nat → Nat} {p : Nat} (hp : p < mO σ) : bg σ c p (pn σ + 1) = (pre (pn σ) c p + 1) * (pn σ + 1) ^ (mO σ - p) := by
  unfold bg
  rw [show mO σ - p = mO σ - (p + 1) + 1 by omega, Nat.pow_succ, ← Nat.succ_mul, Nat.succ_eq_add_one, Nat.mul_assoc, Nat.mul_comm (pn σ + 1)]
/-- a whole way's value -/
theorem Vw_at {σ : ST} {tw : Nat} {c : Nat → Nat} (hc : ∀ j, j < mO σ → c j ≤ pn σ) (h : PVd σ c (mO σ)) : Vw σ tw (pre (pn σ) c (mO σ)) = smW σ tw c (mO σ) ∧ ∀ k, k < mO σ → dig (pn σ) (mO σ) (pre (pn σ) c (mO σ)) k = c k := by
  have h4 := dig_pre (P := pn σ) (w := pre (pn σ) c (mO σ)) (Nat.le_refl (mO σ)) hc (by rw [Nat.sub_self, Nat.pow_zero, Nat.div_one])
  refine ⟨?_, h4⟩
  unfold Vw
  rw [if_pos ((PVd_congr (Nat.le_refl _) h4).mpr h)]
  exact smI_congr (fun k hk => by rw [h4 k hk])
/-- candidates in their order -/
noncomputable def ei (σ : ST) : Nat → Nat
  | 0 => 0
  | i + 1 => Cd σ i + 1
theorem ei_gap {σ : ST} {i w : Nat} (hi : i ≤ nC σ) (h1 : ei σ i ≤ w) (h2 : i < nC σ → w < Cd σ i) (hw : w < pn σ) : ¬ cand σ w := fun h => by
  have a := cnt_lt hw h
  have b := pos_cnt hw h
  have hj : cnt (cand σ) w < nC σ := a
  have hcd : Cd σ (cnt (cand σ) w) = w := b
  rcases Nat.lt_or_ge (cnt (cand σ) w) i with q | q
  · cases i with
    | zero => omega
    | succ i =>
      have h3 : Cd σ i + 1 ≤ w := h1
      by_cases e : cnt (cand σ) w = i
      · rw [e] at hcd; omega
      · have := pos_mono (p := cand σ) (n := pn σ) (j := cnt (cand σ) w) (k := i) (by omega) (by unfold nC at hi; omega)
        unfold Cd at *
        omega
  · by_cases e : cnt (cand σ) w = i
    · have := h2 (by omega)
      rw [e] at hcd; omega
    · have h4 := h2 (by omega)
      have := pos_mono (p := cand σ) (n := pn σ) (j := i) (k := cnt (cand σ) w) (by omega) (by unfold nC at hj; omega)
      unfold Cd at *
      omega
theorem ei_le {σ : ST} {i : Nat} (hi : i < nC σ) : ei σ i ≤ Cd σ i := by
  cases i with
  | zero => exact Nat.zero_le _
  | succ i =>
    show Cd σ i + 1 ≤ Cd σ (i + 1)
    exact pos_mono (p := cand σ) (n := pn σ) (by omega) hi
theorem ei_P {σ : ST} {i : Nat} (hi : i ≤ nC σ) : ei σ i ≤ pn σ := by
  cases i with
  | zero => exact Nat.zero_le _
  | succ i => exact (pos_lt (p := cand σ) (n := pn σ) (k := i) hi).1
theorem Cd_ok {σ : ST} {i : Nat} (hi : i < nC σ) : Cd σ i < pn σ ∧ cand σ (Cd σ i) := ⟨(pos_lt hi).1, (pos_lt hi).2.1⟩
theorem Cd_inj {σ : ST} {i j : Nat} (hi : i < nC σ) (hj : j < nC σ) (e : Cd σ i = Cd σ j) : i = j := pos_inj hi hj e
theorem Lk_no_cand {σ : ST} {c : Nat → Nat} {p e : Nat} (he : e < pn σ) (h : ¬ cand σ e) : ¬ Lk σ (upn c p e) p := fun q => by
  have := q.1
  rw [upn_at] at this
  exact h (this (by omega)).1
theorem Lk_no_dist {σ : ST} {c : Nat → Nat} {p e j : Nat} (he : e < pn σ) (hj : j < p) (h : c j = e) : ¬ Lk σ (upn c p e) p := fun q => by
  have := q.1
  rw [upn_at] at this
  have := (this (by omega)).2 j hj
  rw [upn_ne (by omega)] at this
  exact this h
theorem who_at {σ : ST} {c : Nat → Nat} {p e : Nat} (hp : p < mO σ) : who σ (upn c p e) (p + 1) (Os σ p) = e := by
  have h := pos_lt hp
  have h3 : cnt (opn σ) (Os σ p) = p := h.2.2
  have h2 : opn σ (Os σ p) := h.2.1
  unfold who
  rw [if_pos h2, h3, if_pos (Nat.lt_succ_self p), upn_at]
theorem who_ne {σ : ST} {c : Nat → Nat} {p e s : Nat} (hp : p < mO σ) (hs : s < 2 * mn σ (dn σ)) (h : s ≠ Os σ p) : who σ (upn c p e) (p + 1) s = who σ c p s := by
  unfold who
  split
  · rename_i ho
    have h4 : ¬ cnt (opn σ) s = p := fun q => h (by rw [← q]; exact (pos_cnt hs ho).symm)
    by_cases q : cnt (opn σ) s < p
    · rw [if_pos q, if_pos (by omega), upn_ne h4]
    · rw [if_neg q, if_neg (by omega)]
  · rfl
theorem who_P {σ : ST} {c : Nat → Nat} {p s : Nat} (hp : p < mO σ) (hs : s < 2 * mn σ (dn σ)) : who σ (upn c p (pn σ)) (p + 1) s = who σ c p s := by
  by_cases e : s = Os σ p
  · rw [e, who_at hp]
    have h := pos_lt hp
    have h3 : cnt (opn σ) (Os σ p) = p := h.2.2
    have h2 : opn σ (Os σ p) := h.2.1
    unfold who
    rw [if_pos h2, h3, if_neg (Nat.lt_irrefl p)]
  · exact who_ne hp hs e
theorem Os_lt {σ : ST} {p : Nat} (hp : p < mO σ) : Os σ p < 2 * mn σ (dn σ) ∧ opn σ (Os σ p) ∧ cnt (opn σ) (Os σ p) = p := pos_lt hp
theorem bad_P {σ : ST} {c : Nat → Nat} {p : Nat} (hp : p < mO σ) : ¬ bad σ (upn c p (pn σ)) (p + 1) (Os σ p / 2) := fun h => by
  have e := who_at (σ := σ) (c := c) (e := pn σ) hp
  rcases Nat.mod_two_eq_zero_or_one (Os σ p) with q | q
  · have : Os σ p = 2 * (Os σ p / 2) := by omega
    rw [this] at e
    exact h.1 e
  · have : Os σ p = 2 * (Os σ p / 2) + 1 := by omega
    rw [this] at e
    exact h.2.1 e
theorem who_lt {n : Nat} {σ : ST} (hV : IV n σ) {c : Nat → Nat} {p s : Nat} (hc : ∀ j, j < p → c j ≤ pn σ) (hs : s < 2 * mn σ (dn σ)) : who σ c p s ≤ pn σ := by
  unfold who
  split
  · split
    · exact hc _ (by assumption)
    · exact Nat.le_refl _
  · have h := sw_ok hV (i := s / 2) (by omega)
    rcases Nat.mod_two_eq_zero_or_one s with q | q
    · have e : 2 * (s / 2) = s := by omega
      have h1 := h.1
      rw [e] at h1; omega
    · have e : 2 * (s / 2) + 1 = s := by omega
      have h1 := h.2.1
      rw [e] at h1; omega
