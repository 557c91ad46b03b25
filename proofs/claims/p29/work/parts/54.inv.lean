/-! what the numbers keep-/
def CO (K : KM) (R : RM) (c : Nat) : Prop := COp K R c (pm R c)
def CSX (K : KM) (R : RM) : Prop := CS0 K R ∧ CO K R 1000 ∧ ∀ c, c < 1000 → (R CRD c = none ∧ K (CA c) = none ∧ K (MM c) = none ∧ ∀ j, K (MT c j) = none) ∨ (R CRD c = some (CA c) ∧ CO K R c)
def pn (σ : ST) : Nat := (σ 14 0).toNatClampNeg
def tn (σ : ST) : Nat := (σ 18 0).toNatClampNeg
def dn (σ : ST) : Nat := (σ 0 0).toNatClampNeg
def IVw (n : Nat) (σ : ST) (w : Nat) : Prop := (∃ s, s ≤ 99 ∧ σ 1 w = nI s) ∧ (∃ s, s ≤ 99 ∧ σ 2 w = nI s) ∧ (σ 3 w = nI 0 ∨ σ 3 w = nI 1) ∧ (∃ s, s ≤ 720 * n ∧ σ 5 w = nI s) ∧ (∃ s, s ≤ n ∧ σ 7 w = nI s) ∧ (∀ t, t < 4 → ∃ v, v ≤ 99 ∧ (σ 4 (10 * t + w) = nI v ∨ σ 4 (10 * t + w) = -nI v)) ∧ (∀ o, o < 10 → ∃ v, v ≤ 1000 ∧ σ 11 (10 * w + o) = nI v) ∧ (pn σ ≤ w → σ 10 w = nI 0)
def IVm (σ : ST) (d j : Nat) : Prop := isN (σ 19 (36 * d + 6 * j)) (pn σ) ∧ isN (σ 19 (36 * d + 6 * j + 1)) (pn σ) ∧ ¬ σ 19 (36 * d + 6 * j) = σ 19 (36 * d + 6 * j + 1) ∧ (σ 19 (36 * d + 6 * j + 2) = nI 0 ∨ σ 19 (36 * d + 6 * j + 2) = nI 1) ∧ (∃ m, m ≤ 60 ∧ σ 19 (36 * d + 6 * j + 3) = nI m) ∧ (σ 19 (36 * d + 6 * j + 4) = (-1) ∨ isN (σ 19 (36 * d + 6 * j + 4)) (tn σ)) ∧ (σ 19 (36 * d + 6 * j + 5) = nI 0 ∨ σ 19 (36 * d + 6 * j + 5) = nI 1)
def IVc (σ : ST) (d : Nat) : Prop := σ 20 d = nI (mn σ d) ∧ mn σ d ≤ 6 ∧ (σ 22 d = nI 0 ∨ (σ 22 d = nI 1 ∧ d ≤ dn σ)) ∧ (mn σ d ≠ 0 → isN (σ 21 d) 4) ∧ (∀ j, j < mn σ d → IVm σ d j) ∧ ∀ i j, i < mn σ d → j < mn σ d → i ≠ j → σ 19 (36 * d + 6 * i + 4) = σ 19 (36 * d + 6 * j + 4) → σ 19 (36 * d + 6 * i + 4) = (-1)
/-- who wins, who loses, by the reference's row -/
def wnr (σ : ST) (d j : Nat) : Int32 := if σ 19 (36 * d + 6 * j + 2) = nI 0 then σ 19 (36 * d + 6 * j) else σ 19 (36 * d + 6 * j + 1)
def lsr (σ : ST) (d j : Nat) : Int32 := if σ 19 (36 * d + 6 * j + 2) = nI 0 then σ 19 (36 * d + 6 * j + 1) else σ 19 (36 * d + 6 * j)
def wcn (σ : ST) (d w o : Nat) : Nat → Int32 := smI (fun j => if σ 19 (36 * d + 6 * j + 5) = nI 0 ∧ wnr σ d j = nI w ∧ lsr σ d j = nI o then nI 1 else nI 0)
def IVb (σ : ST) : Prop := ∀ w o, w < 10 → o < 10 → σ 13 (10 * w + o) = smI (fun d => if σ 22 d = nI 1 then wcn σ d w o (mn σ d) else nI 0) 1000
def IV (n : Nat) (σ : ST) : Prop := (σ 14 0 = nI (pn σ) ∧ pn σ ≤ 10) ∧ (σ 18 0 = nI (tn σ) ∧ tn σ ≤ 4) ∧ (σ 0 0 = nI (dn σ) ∧ dn σ ≤ 999) ∧ (∀ w, w < 10 → IVw n σ w) ∧ (∀ t, t < 4 → σ 17 t = nI (lnO σ t) ∧ lnO σ t ≤ n) ∧ (∀ d, d < 1000 → IVc σ d) ∧ IVb σ
/-- the class's side of the world -/
def CW (n : Nat) (σ : ST) (K : KM) (I : IM) (R : RM) : Prop := CSX K R ∧ RC σ I R ∧ IV n σ
theorem CW_p {n : Nat} {σ : ST} {K : KM} {I : IM} {R : RM} (h : CW n σ K I R) : I RING 6 = nI (pn σ) := h.2.1.1.1.trans h.2.2.1.1
theorem CW_t {n : Nat} {σ : ST} {K : KM} {I : IM} {R : RM} (h : CW n σ K I R) : I RING 7 = nI (tn σ) := h.2.1.1.2.1.trans h.2.2.2.1.1
theorem CW_d {n : Nat} {σ : ST} {K : KM} {I : IM} {R : RM} (h : CW n σ K I R) : I RING 8 = nI (dn σ) := h.2.1.1.2.2.trans h.2.2.2.2.1.1
theorem CW_w {n : Nat} {σ : ST} {K : KM} {I : IM} {R : RM} (h : CW n σ K I R) {w : Nat} (hw : w < pn σ) : w < 10 := Nat.lt_of_lt_of_le hw h.2.2.1.2
theorem CW_tt {n : Nat} {σ : ST} {K : KM} {I : IM} {R : RM} (h : CW n σ K I R) {w : Nat} (hw : w < tn σ) : w < 4 := Nat.lt_of_lt_of_le hw h.2.2.2.1.2
/-- the card's label of a day -/
def cix (R : RM) (d : Nat) : Nat := if R CRD d = none then 1000 else d
theorem CW_c {n : Nat} {σ : ST} {K : KM} {I : IM} {R : RM} (h : CW n σ K I R) {d : Nat} (hd : d < 1000) : CO K R (cix R d) ∧ I (CA (cix R d)) 2 = nI (mn σ d) ∧ mn σ d ≤ 6 ∧ I (CA (cix R d)) 3 = σ 22 d ∧ (mn σ d ≠ 0 → cix R d = d ∧ I (CA d) 1 = σ 21 d) ∧ ∀ j, j < mn σ d → RCm σ I d j (MT (cix R d) (pm R (cix R d) j)) := by
  have hm := h.2.2.2.2.2.2.2.1 d hd
  rcases h.2.1.2.2.2.2.2 d hd with ⟨h1, h2, h3⟩ | ⟨h1, h2, h3, h4, h5⟩
  · have e : cix R d = 1000 := if_pos h1
    have e2 : mn σ d = 0 := by unfold mn; rw [h2]; rfl
    rw [e]
    exact ⟨h.1.2.1, by rw [e2]; exact h.2.1.2.2.2.2.1.1, by omega, by rw [h3]; exact h.2.1.2.2.2.2.1.2, fun q => absurd e2 q, fun j hj => by omega⟩
  · have e : cix R d = d := if_neg (by rw [h1]; exact fun q => by cases q)
    rw [e]
    rcases h.1.2.2 d hd with ⟨g1, -⟩ | ⟨g1, g2⟩
    · rw [h1] at g1; cases g1
    · exact ⟨g2, h2.trans hm.1, hm.2.1, h3, fun q => ⟨rfl, h4 q⟩, h5⟩

