/-! THE PURE MACHINE. A label names a cell (an object or a row); K: its kind and length; I: its numbers; R: its references. -/
abbrev Lb : Type := Nat × Nat × Nat
abbrev PV : Type := Int32 ⊕ (Int32 ⊕ (Option Lb ⊕ Unit))
abbrev pI (x : Int32) : PV := .inl x
abbrev pL (x : Int32) : PV := .inr (.inl x)
abbrev pR (r : Option Lb) : PV := .inr (.inr (.inl r))
abbrev pO : PV := .inr (.inr (.inr ()))
abbrev KM : Type := Lb → Option (Nat × Nat)
abbrev IM : Type := Lb → Nat → Int32
abbrev RM : Type := Lb → Nat → Option Lb
abbrev Res : Type := Option PV ⊕ Nat
abbrev QT : Type := Res → KM → IM → RM → Prop
abbrev XT : Type := Nat → Nat → Nat → Nat → List (Option PV) → List PV → KM → IM → RM → QT → Prop
def setK (K : KM) (L : Lb) (v : Nat × Nat) : KM := fun q => if q = L then some v else K q
def setI (I : IM) (L : Lb) (f : Nat → Int32) : IM := fun q => if q = L then f else I q
def setR (R : RM) (L : Lb) (f : Nat → Option Lb) : RM := fun q => if q = L then f else R q
abbrev up2 (I : IM) (L : Lb) (k : Nat) (x : Int32) : IM := setI I L (upd (I L) k x)
abbrev up2R (R : RM) (L : Lb) (k : Nat) (x : Option Lb) : RM := setR R L (va_up (R L) k x)
def cmpc (c : Nat) (x y : Int32) : Prop := match c with
  | 0 => x = y
  | 1 => ¬ x = y
  | 2 => x < y
  | 3 => y ≤ x
  | 4 => y < x
  | _ => x ≤ y
def isC1 (v : PV) : Prop := match v with
  | .inr (.inl _) => False
  | _ => True
/-- how many fields a class has; is a field a number; the class whose objects a row of references holds -/
def nfl (ci : Nat) : Nat := [4, 6, 14, 4, 14, 9, 0].getD ci 0
def elc (k : Nat) : Nat := match k with
  | 9 => 0
  | 10 => 1
  | 11 => 3
  | _ => 4
def entls (y : Nat) (as : List PV) : List (Option PV) := as.map some ++ List.replicate (pg_ml y - as.length) none
def hfind (y i e : Nat) : Option Nat := match (pg_hx y).find? (fun h => decide (h.1 ≤ pg_pc y i) && decide (pg_pc y i < h.2.1) && decide (h.2.2.2.1 = e)) with
  | some h => some h.2.2.1
  | none => none
def aft (X : XT) (d b y i : Nat) (ls : List (Option PV)) (rest : List PV) (Q : QT) : QT := fun r K I R => match r with
  | .inl none => X d b y (i + 1) ls rest K I R Q
  | .inl (some v) => X d b y (i + 1) ls (v :: rest) K I R Q
  | .inr e => match hfind y i e with
    | some h => X d b y h ls [pO] K I R Q
    | none => pg_hx y = [] ∧ Q (.inr e) K I R
def stA (X : XT) (op a c : Nat) (z : Int) (d b y i : Nat) (ls : List (Option PV)) (st : List PV) (K : KM) (I : IM) (R : RM) (Q : QT) : Prop := match op with
  | 0 => X d b y (i + 1) ls (pI (Int32.ofInt z) :: st) K I R Q
  | 1 => ∃ x, ls[a]? = some (some (pI x)) ∧ X d b y (i + 1) ls (pI x :: st) K I R Q
  | 2 => ∃ x r, st = pI x :: r ∧ a < ls.length ∧ X d b y (i + 1) (ls.set a (some (pI x))) r K I R Q
  | 3 => ∃ L, ls[a]? = some (some (pR (some L))) ∧ X d b y (i + 1) ls (pR (some L) :: st) K I R Q
  | 4 => ∃ v r, st = v :: r ∧ (v = pO ∨ ∃ L, v = pR (some L)) ∧ a < ls.length ∧ X d b y (i + 1) (ls.set a (some v)) r K I R Q
  | 5 => ∃ x, ls[a]? = some (some (pI x)) ∧ X d b y (i + 1) (ls.set a (some (pI (x + Int32.ofInt z)))) st K I R Q
  | 6 => ∃ u v r, st = pI v :: pI u :: r ∧ X d b y (i + 1) ls (pI (u + v) :: r) K I R Q
  | 7 => ∃ u v r, st = pI v :: pI u :: r ∧ X d b y (i + 1) ls (pI (u - v) :: r) K I R Q
  | 8 => ∃ u v r, st = pI v :: pI u :: r ∧ X d b y (i + 1) ls (pI (u * v) :: r) K I R Q
  | 9 => ∃ u v r, st = pI v :: pI u :: r ∧ ¬ v = 0 ∧ X d b y (i + 1) ls (pI (u / v) :: r) K I R Q
  | 10 => ∃ u v r, st = pI v :: pI u :: r ∧ ¬ v = 0 ∧ X d b y (i + 1) ls (pI (u - u / v * v) :: r) K I R Q
  | 11 => ∃ u r, st = pI u :: r ∧ X d b y (i + 1) ls (pI (-u) :: r) K I R Q
  | 12 => ∃ u v r, st = pI v :: pI u :: r ∧ X d b y (i + 1) ls (pI (u &&& v) :: r) K I R Q
  | 13 => ∃ v r, st = v :: r ∧ isC1 v ∧ X d b y (i + 1) ls (v :: v :: r) K I R Q
  | 14 => ∃ v w r, st = v :: w :: r ∧ isC1 v ∧ isC1 w ∧ X d b y (i + 1) ls (v :: w :: v :: w :: r) K I R Q
  | 15 => ∃ v r, st = v :: r ∧ isC1 v ∧ X d b y (i + 1) ls r K I R Q
  | 16 => X d b y a ls st K I R Q
  | 17 => ∃ x r, st = pI x :: r ∧ (cmpc c x 0 → X d b y a ls r K I R Q) ∧ (¬ cmpc c x 0 → X d b y (i + 1) ls r K I R Q)
  | 18 => ∃ u v r, st = pI v :: pI u :: r ∧ (cmpc c u v → X d b y a ls r K I R Q) ∧ (¬ cmpc c u v → X d b y (i + 1) ls r K I R Q)
  | 19 => ∃ q r, st = pR q :: r ∧ (¬ q = none → X d b y a ls r K I R Q) ∧ (q = none → X d b y (i + 1) ls r K I R Q)
  | 20 => ∃ x r, st = pI x :: r ∧ (∀ (k : Nat) (t : Nat), (pg_sw.getD a (0, 0, 0, [])).2.2.2[k]? = some t → x.toInt = (pg_sw.getD a (0, 0, 0, [])).1 + k → X d b y t ls r K I R Q) ∧ ((x.toInt < (pg_sw.getD a (0, 0, 0, [])).1 ∨ (pg_sw.getD a (0, 0, 0, [])).2.1 < x.toInt) → X d b y (pg_sw.getD a (0, 0, 0, [])).2.2.1 ls r K I R Q)
  | 21 => ∃ x r, st = pI x :: r ∧ X d b y (i + 1) ls (pL x :: r) K I R Q
  | 22 => ∃ u v r, st = pL v :: pL u :: r ∧ ∀ x : Int32, (x = 0 ↔ u = v) → X d b y (i + 1) ls (pI x :: r) K I R Q
  | 23 => (z = 0 ∨ z = 1) ∧ X d b y (i + 1) ls (pL (Int32.ofInt z) :: st) K I R Q
  | 54 => ∃ u v r, st = pI v :: pI u :: r ∧ X d b y (i + 1) ls (pI (u ||| v) :: r) K I R Q
  | 55 => ∃ u v r, st = pI v :: pI u :: r ∧ X d b y (i + 1) ls (pI (u ^^^ v) :: r) K I R Q
  | 56 => ∃ u v r, st = pI v :: pI u :: r ∧ X d b y (i + 1) ls (pI (u <<< (v &&& 31)) :: r) K I R Q
  | 57 => ∃ u v r, st = pI v :: pI u :: r ∧ X d b y (i + 1) ls (pI (u >>> (v &&& 31)) :: r) K I R Q
  | _ => False
def stB (X : XT) (op a c : Nat) (z : Int) (d b y i : Nat) (ls : List (Option PV)) (st : List PV) (K : KM) (I : IM) (R : RM) (Q : QT) : Prop := match op with
  | 24 => ∃ j L r n, st = pI j :: pR (some L) :: r ∧ K L = some (13, n) ∧ vp_in j n ∧ X d b y (i + 1) ls (pL (I L j.toNatClampNeg) :: r) K I R Q
  | 25 => ∃ x j L r n, st = pL x :: pI j :: pR (some L) :: r ∧ K L = some (13, n) ∧ vp_in j n ∧ X d b y (i + 1) ls r K (up2 I L j.toNatClampNeg x) R Q
  | 26 => ∃ L r k n, st = pR (some L) :: r ∧ K L = some (k, n) ∧ (k = 7 ∨ k = 14) ∧ X d b y (i + 1) ls (pI (Int32.ofNat n) :: r) K I R Q
  | 27 => ∃ j L r k n, st = pI j :: pR (some L) :: r ∧ K L = some (k, n) ∧ (k = 7 ∨ k = 14) ∧ vp_in j n ∧ X d b y (i + 1) ls (pI (I L j.toNatClampNeg) :: r) K I R Q
  | 28 => ∃ x j L r n, st = pI x :: pI j :: pR (some L) :: r ∧ K L = some (7, n) ∧ vp_in j n ∧ X d b y (i + 1) ls r K (up2 I L j.toNatClampNeg x) R Q
  | 29 => ∃ j L r n, st = pI j :: pR (some L) :: r ∧ K L = some (8, n) ∧ vp_in j n ∧ X d b y (i + 1) ls (pI (I L j.toNatClampNeg) :: r) K I R Q
  | 30 => ∃ x j L r n, st = pI x :: pI j :: pR (some L) :: r ∧ K L = some (8, n) ∧ vp_in j n ∧ (x = 0 ∨ x = 1) ∧ X d b y (i + 1) ls r K (up2 I L j.toNatClampNeg x) R Q
  | 31 => ∃ j L r k n, st = pI j :: pR (some L) :: r ∧ K L = some (k, n) ∧ (9 ≤ k ∧ k ≤ 12) ∧ vp_in j n ∧ X d b y (i + 1) ls (pR (R L j.toNatClampNeg) :: r) K I R Q
  | 32 => ∃ L' j L r k n n', st = pR (some L') :: pI j :: pR (some L) :: r ∧ K L = some (k, n) ∧ (9 ≤ k ∧ k ≤ 12) ∧ K L' = some (elc k, n') ∧ vp_in j n ∧ X d b y (i + 1) ls r K I (up2R R L j.toNatClampNeg (some L')) Q
  | 33 => ∃ L r n, st = pR (some L) :: r ∧ K L = some (a, n) ∧ X d b y (i + 1) ls (pI (I L c) :: r) K I R Q
  | 34 => ∃ L r n, st = pR (some L) :: r ∧ K L = some (a, n) ∧ X d b y (i + 1) ls (pR (R L c) :: r) K I R Q
  | 35 => ∃ x L r n, st = pI x :: pR (some L) :: r ∧ K L = some (a, n) ∧ X d b y (i + 1) ls r K (up2 I L c x) R Q
  | 36 => ∃ q L r n, st = pR (some q) :: pR (some L) :: r ∧ K L = some (a, n) ∧ X d b y (i + 1) ls r K I (up2R R L c (some q)) Q
  | 48 => ∃ L r n, st = pR (some L) :: r ∧ K L = some (a, n) ∧ X d b y (i + 1) ls (pI (I L c) :: r) K I R Q
  | 50 => ∃ x L r n, st = pI x :: pR (some L) :: r ∧ K L = some (a, n) ∧ (x = 0 ∨ x = 1) ∧ X d b y (i + 1) ls r K (up2 I L c x) R Q
  | _ => False
def stC (X : XT) (op a c : Nat) (_z : Int) (d b y i : Nat) (ls : List (Option PV)) (st : List PV) (K : KM) (I : IM) (R : RM) (Q : QT) : Prop := match op with
  | 37 => ∃ L b', K L = none ∧ b = b' + (1 + nfl a) ∧ X d b' y (i + 1) ls (pR (some L) :: st) (setK K L (a, 0)) (setI I L (fun _ => 0)) (setR R L (fun _ => none)) Q
  | 38 => ∃ L n r b', st = pI (Int32.ofNat n) :: r ∧ K L = none ∧ n < 1000000 ∧ b = b' + (1 + n) ∧ X d b' y (i + 1) ls (pR (some L) :: r) (setK K L (a, n)) (setI I L (fun _ => 0)) (setR R L (fun _ => none)) Q
  | 39 => ∃ L n r b', st = pI (Int32.ofNat n) :: r ∧ K L = none ∧ n < 1000000 ∧ b = b' + (1 + n) ∧ X d b' y (i + 1) ls (pR (some L) :: r) (setK K L (a, n)) (setI I L (fun _ => 0)) (setR R L (fun _ => none)) Q
  | 40 => ∃ as rest d' b' P, st = as.reverse ++ rest ∧ as.length = pg_na a ∧ (∀ v ∈ as, isC1 v) ∧ (rest.length ≤ 4 ∨ rest.length ≤ 8 ∧ ∀ v ∈ rest, isC1 v) ∧ d = d' + 1 ∧ b = b' + pg_cst a ∧ X d' (pg_cst a) a 0 (entls a as) [] K I R P ∧ ∀ r K' I' R', P r K' I' R' → aft X d b' y i ls rest Q r K' I' R'
  | 41 => ∃ L as rest d' b' n P, st = as.reverse ++ pR (some L) :: rest ∧ as.length + 1 = pg_na a ∧ (∀ v ∈ as, isC1 v) ∧ rest.length ≤ 4 ∧ K L = some (pg_cl a, n) ∧ d = d' + 1 ∧ b = b' + pg_cst a ∧ X d' (pg_cst a) a 0 (entls a (pR (some L) :: as)) [] K I R P ∧ ∀ r K' I' R', P r K' I' R' → aft X d b' y i ls rest Q r K' I' R'
  | 42 => ∃ L as rest d' b' n P, st = as.reverse ++ pR (some L) :: rest ∧ as.length + 1 = pg_na a ∧ (∀ v ∈ as, isC1 v) ∧ rest.length ≤ 4 ∧ K L = some (pg_cl a, n) ∧ d = d' + 1 ∧ b = b' + pg_cst a ∧ X d' (pg_cst a) a 0 (entls a (pR (some L) :: as)) [] K I R P ∧ ∀ r K' I' R', P r K' I' R' → (∃ v, r = .inl v) ∧ aft X d b' y i ls rest Q r K' I' R'
  | 43 => ∃ L r, st = pR (some L) :: r ∧ r.length ≤ 4 ∧ 1 ≤ d ∧ X d b y (i + 1) ls r K I R Q
  | 44 => st = [] ∧ pg_hx y = [] ∧ 6 ≤ d ∧ 7 ≤ b ∧ Q (.inr a) K I R
  | 45 => ∃ x, st = [pI x] ∧ (pg_rt y = some .boolean → x = 0 ∨ x = 1) ∧ Q (.inl (some (pI x))) K I R
  | 46 => ∃ L, st = [pR (some L)] ∧ Q (.inl (some (pR (some L)))) K I R
  | 47 => st = [] ∧ Q (.inl none) K I R
  | 51 => ∃ u v r, st = pI v :: pI u :: r ∧ r.length ≤ 4 ∧ 1 ≤ d ∧ X d b y (i + 1) ls (pI (if u < v then v else u) :: r) K I R Q
  | 52 => ∃ u v r, st = pI v :: pI u :: r ∧ r.length ≤ 4 ∧ 1 ≤ d ∧ X d b y (i + 1) ls (pI (if v < u then v else u) :: r) K I R Q
  | 53 => ∃ u r, st = pI u :: r ∧ r.length ≤ 4 ∧ 1 ≤ d ∧ X d b y (i + 1) ls (pI (if 0 ≤ u then u else 0 - u) :: r) K I R Q
  | _ => False
def Mst (X : XT) : XT := fun d b y i ls st K I R Q => ∃ op a c z, pg_at y i = some (op, a, c, z) ∧ (stA X op a c z d b y i ls st K I R Q ∨ stB X op a c z d b y i ls st K I R Q ∨ stC X op a c z d b y i ls st K I R Q)
/-- the least predicate that is closed under the steps -/
def Mw : XT := fun d b y i ls st K I R Q => ∀ X : XT, (∀ d b y i ls st K I R Q, Mst X d b y i ls st K I R Q → X d b y i ls st K I R Q) → X d b y i ls st K I R Q
theorem aft_mono {X Y : XT} (hm : ∀ d b y i ls st K I R Q, X d b y i ls st K I R Q → Y d b y i ls st K I R Q) {d b y i : Nat} {ls : List (Option PV)} {rest : List PV} {Q : QT} {r : Res} {K : KM} {I : IM} {R : RM} (h : aft X d b y i ls rest Q r K I R) : aft Y d b y i ls rest Q r K I R := by
  unfold aft at h ⊢
  match r, h with
  | .inl none, h => exact hm _ _ _ _ _ _ _ _ _ _ h
  | .inl (some v), h => exact hm _ _ _ _ _ _ _ _ _ _ h
  | .inr e, h =>
    dsimp only at h ⊢
    split
    · rename_i q hq
      rw [hq] at h
      exact hm _ _ _ _ _ _ _ _ _ _ h
    · rename_i hq
      rw [hq] at h
      exact h
set_option maxHeartbeats 4000000 in
theorem stA_mono {X Y : XT} (hm : ∀ d b y i ls st K I R Q, X d b y i ls st K I R Q → Y d b y i ls st K I R Q) {op a c : Nat} {z : Int} {d b y i : Nat} {ls : List (Option PV)} {st : List PV} {K : KM} {I : IM} {R : RM} {Q : QT} (h : stA X op a c z d b y i ls st K I R Q) : stA Y op a c z d b y i ls st K I R Q := by
  unfold stA at h ⊢
  split at h
  · exact hm _ _ _ _ _ _ _ _ _ _ h
  · obtain ⟨x, e1, h⟩ := h
    exact ⟨x, e1, hm _ _ _ _ _ _ _ _ _ _ h⟩
  · obtain ⟨x, r, e1, e2, h⟩ := h
    exact ⟨x, r, e1, e2, hm _ _ _ _ _ _ _ _ _ _ h⟩
  · obtain ⟨L, e1, h⟩ := h
    exact ⟨L, e1, hm _ _ _ _ _ _ _ _ _ _ h⟩
  · obtain ⟨v, r, e1, e2, e3, h⟩ := h
    exact ⟨v, r, e1, e2, e3, hm _ _ _ _ _ _ _ _ _ _ h⟩
  · obtain ⟨x, e1, h⟩ := h
    exact ⟨x, e1, hm _ _ _ _ _ _ _ _ _ _ h⟩
  · obtain ⟨u, v, r, e1, h⟩ := h
    exact ⟨u, v, r, e1, hm _ _ _ _ _ _ _ _ _ _ h⟩
  · obtain ⟨u, v, r, e1, h⟩ := h
    exact ⟨u, v, r, e1, hm _ _ _ _ _ _ _ _ _ _ h⟩
  · obtain ⟨u, v, r, e1, h⟩ := h
    exact ⟨u, v, r, e1, hm _ _ _ _ _ _ _ _ _ _ h⟩
  · obtain ⟨u, v, r, e1, e2, h⟩ := h
    exact ⟨u, v, r, e1, e2, hm _ _ _ _ _ _ _ _ _ _ h⟩
  · obtain ⟨u, v, r, e1, e2, h⟩ := h
    exact ⟨u, v, r, e1, e2, hm _ _ _ _ _ _ _ _ _ _ h⟩
  · obtain ⟨u, r, e1, h⟩ := h
    exact ⟨u, r, e1, hm _ _ _ _ _ _ _ _ _ _ h⟩
  · obtain ⟨u, v, r, e1, h⟩ := h
    exact ⟨u, v, r, e1, hm _ _ _ _ _ _ _ _ _ _ h⟩
  · obtain ⟨v, r, e1, e2, h⟩ := h
    exact ⟨v, r, e1, e2, hm _ _ _ _ _ _ _ _ _ _ h⟩
  · obtain ⟨v, w, r, e1, e2, e3, h⟩ := h
    exact ⟨v, w, r, e1, e2, e3, hm _ _ _ _ _ _ _ _ _ _ h⟩
  · obtain ⟨v, r, e1, e2, h⟩ := h
    exact ⟨v, r, e1, e2, hm _ _ _ _ _ _ _ _ _ _ h⟩
  · exact hm _ _ _ _ _ _ _ _ _ _ h
  · obtain ⟨x, r, e1, h1, h2⟩ := h
    exact ⟨x, r, e1, fun e => hm _ _ _ _ _ _ _ _ _ _ (h1 e), fun e => hm _ _ _ _ _ _ _ _ _ _ (h2 e)⟩
  · obtain ⟨u, v, r, e1, h1, h2⟩ := h
    exact ⟨u, v, r, e1, fun e => hm _ _ _ _ _ _ _ _ _ _ (h1 e), fun e => hm _ _ _ _ _ _ _ _ _ _ (h2 e)⟩
  · obtain ⟨q, r, e1, h1, h2⟩ := h
    exact ⟨q, r, e1, fun e => hm _ _ _ _ _ _ _ _ _ _ (h1 e), fun e => hm _ _ _ _ _ _ _ _ _ _ (h2 e)⟩
  · obtain ⟨x, r, e1, h1, h2⟩ := h
    exact ⟨x, r, e1, fun k t e e9 => hm _ _ _ _ _ _ _ _ _ _ (h1 k t e e9), fun e => hm _ _ _ _ _ _ _ _ _ _ (h2 e)⟩
  · obtain ⟨x, r, e1, h⟩ := h
    exact ⟨x, r, e1, hm _ _ _ _ _ _ _ _ _ _ h⟩
  · obtain ⟨u, v, r, e1, h1⟩ := h
    exact ⟨u, v, r, e1, fun x e => hm _ _ _ _ _ _ _ _ _ _ (h1 x e)⟩
  · obtain ⟨e1, h⟩ := h
    exact ⟨e1, hm _ _ _ _ _ _ _ _ _ _ h⟩
  · obtain ⟨u, v, r, e1, h⟩ := h
    exact ⟨u, v, r, e1, hm _ _ _ _ _ _ _ _ _ _ h⟩
  · obtain ⟨u, v, r, e1, h⟩ := h
    exact ⟨u, v, r, e1, hm _ _ _ _ _ _ _ _ _ _ h⟩
  · obtain ⟨u, v, r, e1, h⟩ := h
    exact ⟨u, v, r, e1, hm _ _ _ _ _ _ _ _ _ _ h⟩
  · obtain ⟨u, v, r, e1, h⟩ := h
    exact ⟨u, v, r, e1, hm _ _ _ _ _ _ _ _ _ _ h⟩
  · exact h.elim
set_option maxHeartbeats 4000000 in
theorem stB_mono {X Y : XT} (hm : ∀ d b y i ls st K I R Q, X d b y i ls st K I R Q → Y d b y i ls st K I R Q) {op a c : Nat} {z : Int} {d b y i : Nat} {ls : List (Option PV)} {st : List PV} {K : KM} {I : IM} {R : RM} {Q : QT} (h : stB X op a c z d b y i ls st K I R Q) : stB Y op a c z d b y i ls st K I R Q := by
  unfold stB at h ⊢
  split at h
  · obtain ⟨j, L, r, n, e1, e2, e3, h⟩ := h
    exact ⟨j, L, r, n, e1, e2, e3, hm _ _ _ _ _ _ _ _ _ _ h⟩
  · obtain ⟨x, j, L, r, n, e1, e2, e3, h⟩ := h
    exact ⟨x, j, L, r, n, e1, e2, e3, hm _ _ _ _ _ _ _ _ _ _ h⟩
  · obtain ⟨L, r, k, n, e1, e2, e3, h⟩ := h
    exact ⟨L, r, k, n, e1, e2, e3, hm _ _ _ _ _ _ _ _ _ _ h⟩
  · obtain ⟨j, L, r, k, n, e1, e2, e3, e4, h⟩ := h
    exact ⟨j, L, r, k, n, e1, e2, e3, e4, hm _ _ _ _ _ _ _ _ _ _ h⟩
  · obtain ⟨x, j, L, r, n, e1, e2, e3, h⟩ := h
    exact ⟨x, j, L, r, n, e1, e2, e3, hm _ _ _ _ _ _ _ _ _ _ h⟩
  · obtain ⟨j, L, r, n, e1, e2, e3, h⟩ := h
    exact ⟨j, L, r, n, e1, e2, e3, hm _ _ _ _ _ _ _ _ _ _ h⟩
  · obtain ⟨x, j, L, r, n, e1, e2, e3, e4, h⟩ := h
    exact ⟨x, j, L, r, n, e1, e2, e3, e4, hm _ _ _ _ _ _ _ _ _ _ h⟩
  · obtain ⟨j, L, r, k, n, e1, e2, e3, e4, h⟩ := h
    exact ⟨j, L, r, k, n, e1, e2, e3, e4, hm _ _ _ _ _ _ _ _ _ _ h⟩
  · obtain ⟨L', j, L, r, k, n, n', e1, e2, e3, e4, e5, h⟩ := h
    exact ⟨L', j, L, r, k, n, n', e1, e2, e3, e4, e5, hm _ _ _ _ _ _ _ _ _ _ h⟩
  · obtain ⟨L, r, n, e1, e2, h⟩ := h
    exact ⟨L, r, n, e1, e2, hm _ _ _ _ _ _ _ _ _ _ h⟩
  · obtain ⟨L, r, n, e1, e2, h⟩ := h
    exact ⟨L, r, n, e1, e2, hm _ _ _ _ _ _ _ _ _ _ h⟩
  · obtain ⟨x, L, r, n, e1, e2, h⟩ := h
    exact ⟨x, L, r, n, e1, e2, hm _ _ _ _ _ _ _ _ _ _ h⟩
  · obtain ⟨q, L, r, n, e1, e2, h⟩ := h
    exact ⟨q, L, r, n, e1, e2, hm _ _ _ _ _ _ _ _ _ _ h⟩
  · obtain ⟨L, r, n, e1, e2, h⟩ := h
    exact ⟨L, r, n, e1, e2, hm _ _ _ _ _ _ _ _ _ _ h⟩
  · obtain ⟨x, L, r, n, e1, e2, e3, h⟩ := h
    exact ⟨x, L, r, n, e1, e2, e3, hm _ _ _ _ _ _ _ _ _ _ h⟩
  · exact h.elim
set_option maxHeartbeats 4000000 in
theorem stC_mono {X Y : XT} (hm : ∀ d b y i ls st K I R Q, X d b y i ls st K I R Q → Y d b y i ls st K I R Q) {op a c : Nat} {z : Int} {d b y i : Nat} {ls : List (Option PV)} {st : List PV} {K : KM} {I : IM} {R : RM} {Q : QT} (h : stC X op a c z d b y i ls st K I R Q) : stC Y op a c z d b y i ls st K I R Q := by
  unfold stC at h ⊢
  split at h
  · obtain ⟨L, b', e1, e2, h⟩ := h
    exact ⟨L, b', e1, e2, hm _ _ _ _ _ _ _ _ _ _ h⟩
  · obtain ⟨L, n, r, b', e1, e2, e3, e4, h⟩ := h
    exact ⟨L, n, r, b', e1, e2, e3, e4, hm _ _ _ _ _ _ _ _ _ _ h⟩
  · obtain ⟨L, n, r, b', e1, e2, e3, e4, h⟩ := h
    exact ⟨L, n, r, b', e1, e2, e3, e4, hm _ _ _ _ _ _ _ _ _ _ h⟩
  · obtain ⟨as, rest, d', b', P, e1, e2, e2c, e3, e4, e5, h1, h2⟩ := h
    exact ⟨as, rest, d', b', P, e1, e2, e2c, e3, e4, e5, hm _ _ _ _ _ _ _ _ _ _ h1, fun r K' I' R' hp => aft_mono hm (h2 r K' I' R' hp)⟩
  · obtain ⟨L, as, rest, d', b', n, P, e1, e2, e2c, e3, e4, e5, e6, h1, h2⟩ := h
    exact ⟨L, as, rest, d', b', n, P, e1, e2, e2c, e3, e4, e5, e6, hm _ _ _ _ _ _ _ _ _ _ h1, fun r K' I' R' hp => aft_mono hm (h2 r K' I' R' hp)⟩
  · obtain ⟨L, as, rest, d', b', n, P, e1, e2, e2c, e3, e4, e5, e6, h1, h2⟩ := h
    exact ⟨L, as, rest, d', b', n, P, e1, e2, e2c, e3, e4, e5, e6, hm _ _ _ _ _ _ _ _ _ _ h1, fun r K' I' R' hp => ⟨(h2 r K' I' R' hp).1, aft_mono hm (h2 r K' I' R' hp).2⟩⟩
  · obtain ⟨L, r, e1, e2, e3, h⟩ := h
    exact ⟨L, r, e1, e2, e3, hm _ _ _ _ _ _ _ _ _ _ h⟩
  · exact h
  · exact h
  · exact h
  · exact h
  · obtain ⟨u, v, r, e1, e2, e3, h⟩ := h
    exact ⟨u, v, r, e1, e2, e3, hm _ _ _ _ _ _ _ _ _ _ h⟩
  · obtain ⟨u, v, r, e1, e2, e3, h⟩ := h
    exact ⟨u, v, r, e1, e2, e3, hm _ _ _ _ _ _ _ _ _ _ h⟩
  · obtain ⟨u, r, e1, e2, e3, h⟩ := h
    exact ⟨u, r, e1, e2, e3, hm _ _ _ _ _ _ _ _ _ _ h⟩
  · exact h.elim
theorem wp_in {d b y i : Nat} {ls : List (Option PV)} {st : List PV} {K : KM} {I : IM} {R : RM} {Q : QT} (h : Mst Mw d b y i ls st K I R Q) : Mw d b y i ls st K I R Q := by
  intro X hX
  refine hX _ _ _ _ _ _ _ _ _ _ ?_
  obtain ⟨op, a, c, z, e, h⟩ := h
  have hm : ∀ d b y i ls st K I R Q, Mw d b y i ls st K I R Q → X d b y i ls st K I R Q := fun _ _ _ _ _ _ _ _ _ _ w => w X hX
  refine ⟨op, a, c, z, e, ?_⟩
  rcases h with h | h | h
  · exact Or.inl (stA_mono hm h)
  · exact Or.inr (Or.inl (stB_mono hm h))
  · exact Or.inr (Or.inr (stC_mono hm h))
