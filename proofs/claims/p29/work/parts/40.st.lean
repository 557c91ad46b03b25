/-! labels, what stands in the heap, and the reference's numbers as one function -/
abbrev OUT : Lb := (1, 0, 0)
abbrev MO : Lb := (2, 0, 0)
abbrev MA (k : Nat) : Lb := (3, k, 0)
abbrev RING : Lb := (4, 0, 0)
abbrev ROS : Lb := (5, 0, 0)
abbrev TIT : Lb := (6, 0, 0)
abbrev CRD : Lb := (7, 0, 0)
abbrev GAT : Lb := (8, 0, 0)
abbrev MEN : Lb := (9, 0, 0)
abbrev MN (k : Nat) : Lb := (10, k, 0)
abbrev RW0 : Lb := (11, 0, 0)
abbrev WR (i : Nat) : Lb := (12, i, 0)
abbrev LV (i : Nat) : Lb := (13, i, 0)
abbrev CD (i : Nat) : Lb := (14, i, 0)
abbrev WA (i : Nat) : Lb := (15, i, 0)
abbrev TT (i : Nat) : Lb := (16, i, 0)
abbrev TH (i : Nat) : Lb := (17, i, 0)
abbrev TD (i : Nat) : Lb := (18, i, 0)
abbrev CA (c : Nat) : Lb := (19, c, 0)
abbrev MM (c : Nat) : Lb := (20, c, 0)
abbrev MT (c j : Nat) : Lb := (21, c, j)
def mal (k : Nat) : Nat := [0, 10, 10, 10, 40, 10, 10, 10, 10, 10, 10, 100, 10, 100, 0, 8000, 8000, 4, 0, 36000, 1000, 1000, 1000, 4, 4, 4, 4, 0, 0].getD k 0
def mak (k : Nat) : Nat := if k = 10 then 8 else if k = 22 then 8 else 7
/-- the reference's cells -/
def MK (K : KM) (R : RM) : Prop := K MO = some (6, 0) ∧ ∀ k, mal k ≠ 0 → R MO k = some (MA k) ∧ K (MA k) = some (mak k, mal k)
theorem MK_o {K : KM} {R : RM} (h : MK K R) : K MO = some (6, 0) := h.1
theorem MK_r {K : KM} {R : RM} (h : MK K R) (k : Nat) (hk : mal k ≠ 0) : R MO k = some (MA k) := (h.2 k hk).1
theorem MK_k {K : KM} {R : RM} (h : MK K R) (k : Nat) (hk : mal k ≠ 0) : K (MA k) = some (mak k, mal k) := (h.2 k hk).2
abbrev ST : Type := Nat → Nat → Int32
def mv (I : IM) : ST := fun k j => if k = 0 ∨ k = 14 ∨ k = 18 then I MO k else if k < 24 then I (MA k) j else 0
def ups (σ : ST) (k j : Nat) (v : Int32) : ST := fun q => if q = k then upd (σ k) j v else σ q
def sets (σ : ST) (k : Nat) (v : Int32) : ST := fun q => if q = k then fun _ => v else σ q
/-- only the reference's cells change; only the class's -/
def FrM (I I' : IM) : Prop := ∀ L : Lb, L.1 ≠ 2 → L.1 ≠ 3 → I' L = I L
def FrC (I I' : IM) : Prop := ∀ L : Lb, L.1 < 4 → I' L = I L
theorem FrM_rfl {I : IM} : FrM I I := fun _ _ _ => rfl
theorem FrC_rfl {I : IM} : FrC I I := fun _ _ => rfl
theorem FrM_tr {I I' I'' : IM} (h : FrM I I') (h' : FrM I' I'') : FrM I I'' := fun L a b => (h' L a b).trans (h L a b)
theorem FrC_tr {I I' I'' : IM} (h : FrC I I') (h' : FrC I' I'') : FrC I I'' := fun L a => (h' L a).trans (h L a)
theorem FrM_up {I I' : IM} (h : FrM I I') {L : Lb} (hL : L.1 = 2 ∨ L.1 = 3) {k : Nat} {x : Int32} : FrM I (up2 I' L k x) := fun q a b => by
  rw [show up2 I' L k x q = I' q from if_neg (fun e => by subst e; rcases hL with e | e <;> contradiction)]
  exact h q a b
theorem FrC_up {I I' : IM} (h : FrC I I') {L : Lb} (hL : 4 ≤ L.1) {k : Nat} {x : Int32} : FrC I (up2 I' L k x) := fun q a => by
  rw [show up2 I' L k x q = I' q from if_neg (fun e => by subst e; omega)]
  exact h q a
theorem mv_C {I I' : IM} (h : FrC I I') : mv I' = mv I := by
  funext k j
  unfold mv
  rw [h MO (by decide), h (MA k) (by show 3 < 4; decide)]
theorem mv_a {I : IM} {k j : Nat} {v : Int32} (h0 : k ≠ 0) (h14 : k ≠ 14) (h18 : k ≠ 18) (h : k < 24) : mv (up2 I (MA k) j v) = ups (mv I) k j v := by
  funext q r
  unfold mv ups
  by_cases hq : q = k
  · subst hq
    rw [if_neg (by omega), if_pos h, if_pos rfl, up2_at]
    unfold upd
    by_cases hr : r = j
    · rw [if_pos hr, if_pos hr]
    · rw [if_neg hr, if_neg hr]
      show _ = (if q = 0 ∨ q = 14 ∨ q = 18 then I MO q else if q < 24 then I (MA q) r else 0)
      rw [if_neg (by omega), if_pos h]
  · rw [if_neg hq]
    show _ = (if q = 0 ∨ q = 14 ∨ q = 18 then I MO q else if q < 24 then I (MA q) r else 0)
    by_cases hs : q = 0 ∨ q = 14 ∨ q = 18
    · rw [if_pos hs, if_pos hs, show up2 I (MA k) j v MO = I MO from if_neg (by simp)]
    · rw [if_neg hs, if_neg hs, show up2 I (MA k) j v (MA q) = I (MA q) from if_neg (by simp [hq])]
theorem mv_s {I : IM} {k : Nat} {v : Int32} (h : k = 0 ∨ k = 14 ∨ k = 18) : mv (up2 I MO k v) = sets (mv I) k v := by
  funext q r
  unfold mv sets
  by_cases hq : q = k
  · subst hq
    rw [if_pos h, if_pos rfl, up2_at]
    unfold upd
    rw [if_pos rfl]
  · rw [if_neg hq, up2_at, show up2 I MO k v (MA q) = I (MA q) from if_neg (by simp)]
    unfold upd
    rw [if_neg hq]
theorem mv_o {I : IM} {k : Nat} {v : Int32} (h : 24 ≤ k) : mv (up2 I MO k v) = mv I := by
  funext q r
  unfold mv
  rw [up2_at, show up2 I MO k v (MA q) = I (MA q) from if_neg (by simp)]
  unfold upd
  by_cases hq : q = 0 ∨ q = 14 ∨ q = 18
  · rw [if_pos hq, if_pos hq, if_neg (by omega)]
  · rw [if_neg hq, if_neg hq]
theorem mv_x {I : IM} {k j : Nat} {v : Int32} (h : 24 ≤ k) : mv (up2 I (MA k) j v) = mv I := by
  funext q r
  unfold mv
  by_cases hq : q < 24
  · rw [show up2 I (MA k) j v (MA q) = I (MA q) from if_neg (by simp; omega), show up2 I (MA k) j v MO = I MO from if_neg (by simp)]
  · rw [show up2 I (MA k) j v MO = I MO from if_neg (by simp), if_neg hq, if_neg hq]
theorem mv_r {I : IM} {k : Nat} (h0 : k ≠ 0) (h14 : k ≠ 14) (h18 : k ≠ 18) (h : k < 24) (j : Nat) : I (MA k) j = mv I k j := by
  unfold mv
  rw [if_neg (by omega), if_pos h]
theorem mv_d {I : IM} {k : Nat} (h : k = 0 ∨ k = 14 ∨ k = 18) : I MO k = mv I k 0 := by
  unfold mv
  rw [if_pos h]
/-- is a number within two others -/
def inr (v lo hi : Int32) : Prop := lo ≤ v ∧ v ≤ hi
theorem inr_N {x : Int32} {n : Nat} (hn : n < 2147483648) (h : inr x (nI 0) (nI n)) : ∃ j : Nat, j ≤ n ∧ x = nI j := nI_of2 (M := nI n) (nI_toInt hn) (Int32.not_lt.mpr h.1) h.2
theorem N_inr {j n : Nat} (hn : n < 2147483648) (h : j ≤ n) : inr (nI j) (nI 0) (nI n) := ⟨nI_le (Nat.zero_le j) (by omega), nI_le h hn⟩

