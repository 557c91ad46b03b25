/-! the pure machine's values and heap against the machine's -/
def vr (am : Lb → Nat) (K : KM) (v : PV) (v' : Value) : Prop := match v with
  | .inl x => v' = .int x
  | .inr (.inl x) => v' = .long x.toInt64
  | .inr (.inr (.inl none)) => v' = .null
  | .inr (.inr (.inl (some L))) => v' = .ref (am L) ∧ K L ≠ none
  | .inr (.inr (.inr _)) => ∃ q, v' = .ref q
def sr (am : Lb → Nat) (K : KM) : List PV → List Value → Prop
  | [], [] => True
  | v :: r, v' :: r' => vr am K v v' ∧ sr am K r r'
  | _, _ => False
def lr (am : Lb → Nat) (K : KM) (ls : List (Option PV)) (lsA : Array Slot) (nL : Nat) : Prop :=
  ls.length = nL ∧ ∃ lv : List (Nat × Value), lv_has lsA nL lv ∧ ∀ i v, ls[i]? = some (some v) → ∃ v', (i, v') ∈ lv ∧ vr am K v v' ∧ v'.category = 1
def ext (am : Lb → Nat) (K : KM) (am' : Lb → Nat) (K' : KM) : Prop := ∀ L, K L ≠ none → am' L = am L ∧ K' L = K L
theorem ext_rfl {am : Lb → Nat} {K : KM} : ext am K am K := fun _ _ => ⟨rfl, rfl⟩
theorem ext_tr {am am' am'' : Lb → Nat} {K K' K'' : KM} (h : ext am K am' K') (h' : ext am' K' am'' K'') : ext am K am'' K'' := fun L hL => by
  obtain ⟨a, b⟩ := h L hL
  obtain ⟨c, d⟩ := h' L (by rw [b]; exact hL)
  exact ⟨c.trans a, d.trans b⟩
theorem vr_ext {am am' : Lb → Nat} {K K' : KM} (h : ext am K am' K') {v : PV} {v' : Value} (hv : vr am K v v') : vr am' K' v v' := by
  match v, hv with
  | .inl x, hv => exact hv
  | .inr (.inl x), hv => exact hv
  | .inr (.inr (.inl none)), hv => exact hv
  | .inr (.inr (.inl (some L))), hv =>
    obtain ⟨e, hL⟩ := hv
    obtain ⟨a, b⟩ := h L hL
    exact ⟨by rw [a]; exact e, by rw [b]; exact hL⟩
  | .inr (.inr (.inr _)), hv => exact hv
theorem sr_ext {am am' : Lb → Nat} {K K' : KM} (h : ext am K am' K') : ∀ {st : List PV} {st' : List Value}, sr am K st st' → sr am' K' st st'
  | [], [], _ => trivial
  | v :: r, v' :: r', hs => ⟨vr_ext h hs.1, sr_ext h hs.2⟩
  | [], _ :: _, hs => hs.elim
  | _ :: _, [], hs => hs.elim
theorem lr_ext {am am' : Lb → Nat} {K K' : KM} (h : ext am K am' K') {ls : List (Option PV)} {lsA : Array Slot} {n : Nat} (hl : lr am K ls lsA n) : lr am' K' ls lsA n := by
  obtain ⟨h1, lv, h2, h3⟩ := hl
  refine ⟨h1, lv, h2, fun i v hv => ?_⟩
  obtain ⟨v', a, b, c⟩ := h3 i v hv
  exact ⟨v', a, vr_ext h b, c⟩
theorem sr_len {am : Lb → Nat} {K : KM} : ∀ {st : List PV} {st' : List Value}, sr am K st st' → st'.length = st.length
  | [], [], _ => rfl
  | v :: r, v' :: r', hs => by rw [List.length_cons, List.length_cons, sr_len hs.2]
  | [], _ :: _, hs => hs.elim
  | _ :: _, [], hs => hs.elim
theorem sr_app {am : Lb → Nat} {K : KM} : ∀ {a : List PV} {a' : List Value} {b : List PV} {b' : List Value}, sr am K a a' → sr am K b b' → sr am K (a ++ b) (a' ++ b')
  | [], [], _, _, _, hb => hb
  | v :: r, v' :: r', _, _, ha, hb => ⟨ha.1, sr_app ha.2 hb⟩
  | [], _ :: _, _, _, hs, _ => hs.elim
  | _ :: _, [], _, _, hs, _ => hs.elim
theorem sr_split {am : Lb → Nat} {K : KM} : ∀ {a b : List PV} {c : List Value}, sr am K (a ++ b) c → ∃ a' b', c = a' ++ b' ∧ sr am K a a' ∧ sr am K b b'
  | [], b, c, h => ⟨[], c, rfl, trivial, h⟩
  | v :: r, b, v' :: c, h => by
    obtain ⟨a', b', e, h1, h2⟩ := sr_split (a := r) h.2
    exact ⟨v' :: a', b', by rw [e]; rfl, ⟨h.1, h1⟩, h2⟩
  | v :: r, b, [], h => h.elim
theorem sr_rev {am : Lb → Nat} {K : KM} : ∀ {a : List PV} {a' : List Value}, sr am K a a' → sr am K a.reverse a'.reverse
  | [], [], _ => trivial
  | v :: r, v' :: r', h => by
    rw [List.reverse_cons, List.reverse_cons]
    exact sr_app (sr_rev h.2) ⟨h.1, trivial⟩
  | [], _ :: _, hs => hs.elim
  | _ :: _, [], hs => hs.elim
theorem sr_un {am : Lb → Nat} {K : KM} {as rest : List PV} {c : List Value} (h : sr am K (as.reverse ++ rest) c) : ∃ a' b', c = a'.reverse ++ b' ∧ sr am K as a' ∧ sr am K rest b' := by
  obtain ⟨a', b', e, h1, h2⟩ := sr_split h
  refine ⟨a'.reverse, b', by rw [List.reverse_reverse]; exact e, ?_, h2⟩
  have := sr_rev h1
  rwa [List.reverse_reverse] at this
theorem sr_at {am : Lb → Nat} {K : KM} : ∀ {st : List PV} {st' : List Value} {i : Nat} {v : PV}, sr am K st st' → st[i]? = some v → ∃ v', st'[i]? = some v' ∧ vr am K v v'
  | [], _, i, v, _, hv => by simp at hv
  | w :: r, [], _, _, hs, _ => hs.elim
  | w :: r, w' :: r', 0, v, hs, hv => by
    simp at hv
    exact ⟨w', by simp, hv ▸ hs.1⟩
  | w :: r, w' :: r', i + 1, v, hs, hv => by
    simp at hv
    obtain ⟨v', a, b⟩ := sr_at (i := i) hs.2 hv
    exact ⟨v', by simpa using a, b⟩
theorem vr_c1 {am : Lb → Nat} {K : KM} {v : PV} {v' : Value} (h : vr am K v v') (hc : isC1 v) : v'.category = 1 := by
  match v, h, hc with
  | .inl x, h, _ => rw [show v' = .int x from h]; rfl
  | .inr (.inl x), _, hc => exact hc.elim
  | .inr (.inr (.inl none)), h, _ => rw [show v' = .null from h]; rfl
  | .inr (.inr (.inl (some L))), h, _ => rw [h.1]; rfl
  | .inr (.inr (.inr _)), h, _ =>
    obtain ⟨q, e⟩ := h
    rw [e]; rfl
theorem vr_c2 {am : Lb → Nat} {K : KM} {v : PV} {v' : Value} (h : vr am K v v') : v'.category ≤ 2 := by
  match v, h with
  | .inl x, h => rw [show v' = .int x from h]; exact Nat.le_of_ble_eq_true rfl
  | .inr (.inl x), h => rw [show v' = .long x.toInt64 from h]; exact Nat.le_of_ble_eq_true rfl
  | .inr (.inr (.inl none)), h => rw [show v' = .null from h]; exact Nat.le_of_ble_eq_true rfl
  | .inr (.inr (.inl (some L))), h => rw [h.1]; exact Nat.le_of_ble_eq_true rfl
  | .inr (.inr (.inr _)), h =>
    obtain ⟨q, e⟩ := h
    rw [e]; exact Nat.le_of_ble_eq_true rfl
theorem sr_cat {am : Lb → Nat} {K : KM} : ∀ {st : List PV} {st' : List Value}, sr am K st st' → (st'.map fun v => v.category).sum ≤ 2 * st.length
  | [], [], _ => Nat.le_refl _
  | v :: r, v' :: r', hs => by
    have h1 := vr_c2 hs.1
    have h2 := sr_cat hs.2
    simp only [List.map_cons, List.sum_cons, List.length_cons]
    omega
  | [], _ :: _, hs => hs.elim
  | _ :: _, [], hs => hs.elim
theorem lr_get {am : Lb → Nat} {K : KM} {ls : List (Option PV)} {lsA : Array Slot} {n i : Nat} {v : PV} (hl : lr am K ls lsA n) (hv : ls[i]? = some (some v)) : ∃ v', lsA[i]? = some (.val v') ∧ vr am K v v' := by
  obtain ⟨h1, lv, h2, h3⟩ := hl
  obtain ⟨v', a, b, c⟩ := h3 i v hv
  exact ⟨v', h2.2.2 (i, v') a, b⟩
/-- behind a store -/
theorem lr_set {am : Lb → Nat} {K : KM} {ls : List (Option PV)} {lv : List (Nat × Value)} {lsB : Array Slot} {n i : Nat} {v : PV} {v' : Value} (h1 : ls.length = n) (h3 : ∀ i v, ls[i]? = some (some v) → ∃ v', (i, v') ∈ lv ∧ vr am K v v' ∧ v'.category = 1) (hv : vr am K v v') (hc : v'.category = 1) (hb : lv_has lsB n ((i, v') :: lv.filter (fun q => !(q.1 == i) && !(q.1 + 1 == i && q.2.category == 2)))) : lr am K (ls.set i (some v)) lsB n := by
  refine ⟨by rw [List.length_set]; exact h1, _, hb, fun j w hw => ?_⟩
  rw [List.getElem?_set] at hw
  by_cases e : i = j
  · subst e
    rw [if_pos rfl] at hw
    by_cases hlt : i < ls.length
    · rw [if_pos hlt] at hw
      cases hw
      exact ⟨v', List.mem_cons_self, hv, hc⟩
    · rw [if_neg hlt] at hw
      cases hw
  · rw [if_neg e] at hw
    obtain ⟨w', a, b, c⟩ := h3 j w hw
    refine ⟨w', List.mem_cons_of_mem _ (List.mem_filter.mpr ⟨a, ?_⟩), b, c⟩
    simp [c, Ne.symm e]
/-- at the entry of a method -/
theorem lr_entry {am : Lb → Nat} {K : KM} {n : Nat} {as : List PV} {as' : List Value} (h : sr am K as as') (hc : ∀ v ∈ as, isC1 v) (hn : as.length ≤ n) : lr am K (as.map some ++ List.replicate (n - as.length) none) ((lg_sl as' ++ List.replicate (n - (lg_sl as').length) Slot.unset).toArray) n := by
  have hsl : ∀ {a : List PV} {a' : List Value}, sr am K a a' → (∀ v ∈ a, isC1 v) → (lg_sl a').length = a.length ∧ ∀ k, lv_args k a' = (a'.zipIdx k).map (fun q => (q.2, q.1)) := by
    intro a
    induction a with
    | nil =>
      intro a' hs _
      cases a' with
      | nil => exact ⟨rfl, fun k => rfl⟩
      | cons _ _ => exact hs.elim
    | cons v r ih =>
      intro a' hs hc
      cases a' with
      | nil => exact hs.elim
      | cons v' r' =>
        obtain ⟨i1, i2⟩ := ih hs.2 (fun w hw => hc w (List.mem_cons_of_mem _ hw))
        have c1 := vr_c1 hs.1 (hc v List.mem_cons_self)
        refine ⟨?_, fun k => ?_⟩
        · have : lg_sl (v' :: r') = Slot.val v' :: lg_sl r' := by simp [lg_sl, c1]
          rw [this, List.length_cons, i1, List.length_cons]
        · simp only [lv_args, c1, List.zipIdx_cons, List.map_cons]
          rw [if_neg (by decide), i2]
  obtain ⟨e1, e2⟩ := hsl h hc
  have hE := lv_entry as' (n := n) (by rw [e1]; exact hn)
  refine ⟨by simp; omega, lv_args 0 as', hE, fun i v hv => ?_⟩
  have hi : as[i]? = some v := by
    rw [List.getElem?_append] at hv
    by_cases hlt : i < (as.map some).length
    · rw [if_pos hlt, List.getElem?_map] at hv
      cases hq : as[i]? with
      | none => rw [hq] at hv; cases hv
      | some w => rw [hq] at hv; cases hv; rfl
    · rw [if_neg hlt, List.getElem?_replicate] at hv
      split at hv <;> cases hv
  obtain ⟨v', a, b⟩ := sr_at h hi
  refine ⟨v', ?_, b, vr_c1 b (hc v (List.mem_of_getElem? hi))⟩
  rw [e2]
  refine List.mem_map.mpr ⟨(v', i), ?_, rfl⟩
  rw [List.mem_zipIdx_iff_getElem?]
  exact a
def kty (k : Nat) : FieldType := match k with
  | 7 => .int
  | 8 => .boolean
  | _ => .long
def ent (am : Lb → Nat) (tys : List (ClassId × FieldType)) (k n : Nat) (i : Nat → Int32) (r : Nat → Option Lb) (e : va_E) : Prop :=
  (k < 6 ∧ ∃ fs : List Value, e = .inr (k, fs) ∧ fs.length = nfl k ∧ ∀ j, j < nfl k → fs[j]? = some (if isRT (tyc k j) = true then va_rf ((r j).map am) else .int (i j))) ∨
  ((k = 7 ∨ k = 8) ∧ ∃ (cA : ClassId) (t0 : Nat), e = .inl (cA, n, .inl i) ∧ tys[t0]? = some (cA, kty k)) ∨
  (k = 13 ∧ ∃ (cA : ClassId) (t0 : Nat), e = .inl (cA, n, .inr (.inl (fun j => (i j).toInt64))) ∧ tys[t0]? = some (cA, .long)) ∨
  ((9 ≤ k ∧ k ≤ 12) ∧ ∃ (cA : ClassId) (t0 : Nat), e = .inl (cA, n, .inr (.inr (.inr (.inr (fun j => (r j).map am))))) ∧ tys[t0]? = some (cA, .object (elN k)))
abbrev ab (base : Nat) : Nat → Prop := fun q => base ≤ q
def hq (base : Nat) (D : va_G) (am : Lb → Nat) (K : KM) (I : IM) (R : RM) (s : State) (H : Heap) (tys : List (ClassId × FieldType)) (Ls : List Nat) (f : Nat → va_E) : Prop :=
  va_K D vwCl tys s ∧ va_P D vwCl (([] : va_W) ++ va_pl Ls f) H ∧ va_D (ab base) (([] : va_W) ++ va_pl Ls f) ∧
    (∀ L k n, K L = some (k, n) → k ≠ 14 → am L ∈ Ls ∧ ent am tys k n (I L) (R L) (f (am L))) ∧
    (∀ L n, K L = some (14, n) → va_X (am L) n (I L) s H ∧ am L < base) ∧
    (∀ L L', K L ≠ none → K L' ≠ none → am L = am L' → L = L') ∧
    (∀ L j L', K L ≠ none → R L j = some L' → K L' ≠ none)
def hp (base : Nat) (D : va_G) (am : Lb → Nat) (K : KM) (I : IM) (R : RM) (s : State) (H : Heap) : Prop := ∃ tys Ls f, hq base D am K I R s H tys Ls f
theorem ent_app {am : Lb → Nat} {tys t2 : List (ClassId × FieldType)} {k n : Nat} {i : Nat → Int32} {r : Nat → Option Lb} {e : va_E} (h : ent am tys k n i r e) : ent am (tys ++ t2) k n i r e := by
  have ha : ∀ {t0 : Nat} {x : ClassId × FieldType}, tys[t0]? = some x → (tys ++ t2)[t0]? = some x := fun hx => by
    rw [List.getElem?_append_left (List.getElem?_eq_some_iff.mp hx).1]; exact hx
  rcases h with h | ⟨h0, cA, t0, h1, h2⟩ | ⟨h0, cA, t0, h1, h2⟩ | ⟨h0, cA, t0, h1, h2⟩
  · exact Or.inl h
  · exact Or.inr (Or.inl ⟨h0, cA, t0, h1, ha h2⟩)
  · exact Or.inr (Or.inr (Or.inl ⟨h0, cA, t0, h1, ha h2⟩))
  · exact Or.inr (Or.inr (Or.inr ⟨h0, cA, t0, h1, ha h2⟩))
theorem ent_am {am am' : Lb → Nat} {tys : List (ClassId × FieldType)} {k n : Nat} {i : Nat → Int32} {r : Nat → Option Lb} {e : va_E} (hr : ∀ j L', r j = some L' → am' L' = am L') (h : ent am tys k n i r e) : ent am' tys k n i r e := by
  have e1 : ∀ j, (r j).map am' = (r j).map am := fun j => by
    cases hj : r j with
    | none => rfl
    | some L' => simp [hr j L' hj]
  rcases h with ⟨h0, fs, h1, h2, h3⟩ | h | h | ⟨h0, cA, t0, h1, h2⟩
  · exact Or.inl ⟨h0, fs, h1, h2, fun j hj => by rw [h3 j hj, e1]⟩
  · exact Or.inr (Or.inl h)
  · exact Or.inr (Or.inr (Or.inl h))
  · exact Or.inr (Or.inr (Or.inr ⟨h0, cA, t0, by rw [h1]; simp only [e1], h2⟩))
theorem hp_moved {base : Nat} {D : va_G} {am : Lb → Nat} {K : KM} {I : IM} {R : RM} {s U : State} {H : Heap} (hvm : s.vm.Alike U.vm) (h : hp base D am K I R s H) : hp base D am K I R U H := by
  obtain ⟨tys, Ls, f, h1, h2, h3, h4, h5, h6, h7⟩ := h
  exact ⟨tys, Ls, f, va_K.moved hvm h1, h2, h3, h4, fun L n hL => ⟨va_X.moved hvm (h5 L n hL).1, (h5 L n hL).2⟩, h6, h7⟩
