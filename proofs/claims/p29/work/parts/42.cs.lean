/-! the class: what stands in the heap -/
/-- a card with its six matches, in the order that p tells -/
def COp (K : KM) (R : RM) (c : Nat) (p : Nat → Nat) : Prop := K (CA c) = some (0, 0) ∧ R (CA c) 0 = some (MM c) ∧ K (MM c) = some (10, 6) ∧ (∀ j, j < 6 → K (MT c j) = some (1, 0)) ∧ (∀ j, j < 6 → p j < 6 ∧ R (MM c) j = some (MT c (p j))) ∧ ∀ i j, i < 6 → j < 6 → p i = p j → i = j
def mnl (k : Nat) : Nat := [12, 12, 4, 4, 4, 10, 10, 10].getD k 0
def mnk (k : Nat) : Nat := if k = 1 then 8 else if k = 7 then 8 else 7
/-- the cells that stay -/
def CS0 (K : KM) (R : RM) : Prop := (K RING = some (5, 0) ∧ R RING 0 = some ROS ∧ R RING 1 = some TIT ∧ R RING 2 = some CRD ∧ R RING 3 = some (CA 1000) ∧ R RING 4 = some GAT ∧ R RING 5 = some MEN) ∧
  (K ROS = some (12, 10) ∧ K TIT = some (11, 4) ∧ K CRD = some (9, 1000) ∧ K GAT = some (7, 4) ∧ K MEN = some (2, 0)) ∧
  (∀ w, w < 10 → R ROS w = some (WR w) ∧ K (WR w) = some (4, 0) ∧ R (WR w) 0 = some (LV w) ∧ R (WR w) 1 = some (CD w) ∧ R (WR w) 2 = some (WA w) ∧ K (LV w) = some (7, 4) ∧ K (CD w) = some (7, 10) ∧ K (WA w) = some (7, 10)) ∧
  (∀ t, t < 4 → R TIT t = some (TT t) ∧ K (TT t) = some (3, 0) ∧ R (TT t) 0 = some (TH t) ∧ R (TT t) 1 = some (TD t) ∧ K (TH t) = some (7, 512) ∧ K (TD t) = some (7, 512)) ∧
  (∀ k, k < 8 → R MEN k = some (MN k) ∧ K (MN k) = some (mnk k, mnl k))
def CS (K : KM) (R : RM) : Prop := CS0 K R ∧ (∃ p, COp K R 1000 p) ∧ ∀ c, c < 1000 → (R CRD c = none ∧ K (CA c) = none ∧ K (MM c) = none ∧ ∀ j, K (MT c j) = none) ∨ (R CRD c = some (CA c) ∧ ∃ p, COp K R c p)

theorem up2_self {I : IM} {L : Lb} {k : Nat} : up2 I L k (I L k) = I := by
  funext q j
  unfold up2 setI
  by_cases h : q = L
  · rw [if_pos h]
    unfold upd
    subst h
    by_cases hj : j = k
    · rw [if_pos hj, hj]
    · rw [if_neg hj]
  · rw [if_neg h]
/-- the worth out of skill, love and strain -/
def wth (sk lo st : Int32) : Int32 := if nI 1 < sk + (if 0 ≤ lo then lo else 0 - lo) - st / nI 10 then sk + (if 0 ≤ lo then lo else 0 - lo) - st / nI 10 else nI 1
def cl99 (e : Int32) : Int32 := if (-99) < (if e < nI 99 then e else nI 99) then (if e < nI 99 then e else nI 99) else (-99)
noncomputable def cnt (p : Nat → Prop) : Nat → Nat
  | 0 => 0
  | n + 1 => cnt p n + @ite _ (p n) (Classical.propDecidable _) 1 0
theorem cnt_le (p : Nat → Prop) : ∀ n, cnt p n ≤ n
  | 0 => Nat.le_refl _
  | n + 1 => by
    have := cnt_le p n
    unfold cnt
    split <;> omega
theorem cnt_t {p : Nat → Prop} {n : Nat} (h : p n) : cnt p (n + 1) = cnt p n + 1 := by
  show cnt p n + _ = _
  rw [if_pos h]
theorem cnt_f {p : Nat → Prop} {n : Nat} (h : ¬ p n) : cnt p (n + 1) = cnt p n := by
  show cnt p n + _ = _
  rw [if_neg h, Nat.add_zero]
/-- the role behind a turn -/
def trn (ro : Int32) (up dn : Nat) : Int32 := if ro = nI 1 ∧ 2 ≤ up then nI 0 else if ro = nI 0 ∧ 2 ≤ dn then nI 1 else ro
def smI (f : Nat → Int32) : Nat → Int32
  | 0 => nI 0
  | n + 1 => smI f n + f n
def Ex (p : Nat → Prop) (n : Nat) : Prop := ∃ j, j < n ∧ p j
theorem Ex_0 {p : Nat → Prop} : ¬ Ex p 0 := fun ⟨_, h, _⟩ => absurd h (Nat.not_lt_zero _)
theorem Ex_s {p : Nat → Prop} {n : Nat} (h : ¬ Ex p n) (h2 : ¬ p n) : ¬ Ex p (n + 1) := fun ⟨j, hj, hp⟩ => by
  by_cases e : j = n
  · exact h2 (e ▸ hp)
  · exact h ⟨j, by omega, hp⟩

