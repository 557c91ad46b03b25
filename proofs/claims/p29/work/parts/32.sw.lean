/-! switches, a row a table -/
theorem sw_lo_0 : (pg_sw.getD 0 (0, 0, 0, [])).1 = 0 ∧ (pg_sw.getD 0 (0, 0, 0, [])).2.1 = 6 ∧ (pg_sw.getD 0 (0, 0, 0, [])).2.2.1 = 44 ∧ (pg_sw.getD 0 (0, 0, 0, [])).2.2.2 = [16, 19, 22, 32, 35, 38, 41] := by decide +kernel
theorem mw_sw_0 {d b y i c : Nat} {z : Int} {ls : List (Option PV)} {r : List PV} {K : KM} {I : IM} {R : RM} {Q : QT} {x : Int32} (hi : pg_at y i = some (20, 0, c, z)) (h0 : x = nI 0 → Mw d b y 16 ls r K I R Q) (h1 : x = nI 1 → Mw d b y 19 ls r K I R Q) (h2 : x = nI 2 → Mw d b y 22 ls r K I R Q) (h3 : x = nI 3 → Mw d b y 32 ls r K I R Q) (h4 : x = nI 4 → Mw d b y 35 ls r K I R Q) (h5 : x = nI 5 → Mw d b y 38 ls r K I R Q) (h6 : x = nI 6 → Mw d b y 41 ls r K I R Q) (ho : (∀ k, k < 7 → ¬ x = nI k) → Mw d b y 44 ls r K I R Q) : Mw d b y i ls (pI x :: r) K I R Q := by
  obtain ⟨e1, e2, e3, e4⟩ := sw_lo_0
  refine mw_sw hi (fun k t hk hx => ?_) (fun h => ?_)
  · rw [e4] at hk
    rw [e1] at hx
    have hkn : k < 7 := (List.getElem?_eq_some_iff.mp hk).1
    have ex : x = nI k := by
      apply Int32.toInt_inj.mp
      rw [nI_toInt (by omega)]
      omega
    match k, hkn, hk, ex with
    | 0, _, hk, ex => cases hk; exact h0 ex
    | 1, _, hk, ex => cases hk; exact h1 ex
    | 2, _, hk, ex => cases hk; exact h2 ex
    | 3, _, hk, ex => cases hk; exact h3 ex
    | 4, _, hk, ex => cases hk; exact h4 ex
    | 5, _, hk, ex => cases hk; exact h5 ex
    | 6, _, hk, ex => cases hk; exact h6 ex
    | n + 7, hkn, _, _ => exact absurd hkn (by omega)
  · rw [e3]
    refine ho (fun k hk e => ?_)
    subst e
    rw [e1, e2, nI_toInt (by omega)] at h
    omega
theorem sw_lo_1 : (pg_sw.getD 1 (0, 0, 0, [])).1 = 0 ∧ (pg_sw.getD 1 (0, 0, 0, [])).2.1 = 3 ∧ (pg_sw.getD 1 (0, 0, 0, [])).2.2.1 = 37 ∧ (pg_sw.getD 1 (0, 0, 0, [])).2.2.2 = [16, 24, 27, 30] := by decide +kernel
theorem mw_sw_1 {d b y i c : Nat} {z : Int} {ls : List (Option PV)} {r : List PV} {K : KM} {I : IM} {R : RM} {Q : QT} {x : Int32} (hi : pg_at y i = some (20, 1, c, z)) (h0 : x = nI 0 → Mw d b y 16 ls r K I R Q) (h1 : x = nI 1 → Mw d b y 24 ls r K I R Q) (h2 : x = nI 2 → Mw d b y 27 ls r K I R Q) (h3 : x = nI 3 → Mw d b y 30 ls r K I R Q) (ho : (∀ k, k < 4 → ¬ x = nI k) → Mw d b y 37 ls r K I R Q) : Mw d b y i ls (pI x :: r) K I R Q := by
  obtain ⟨e1, e2, e3, e4⟩ := sw_lo_1
  refine mw_sw hi (fun k t hk hx => ?_) (fun h => ?_)
  · rw [e4] at hk
    rw [e1] at hx
    have hkn : k < 4 := (List.getElem?_eq_some_iff.mp hk).1
    have ex : x = nI k := by
      apply Int32.toInt_inj.mp
      rw [nI_toInt (by omega)]
      omega
    match k, hkn, hk, ex with
    | 0, _, hk, ex => cases hk; exact h0 ex
    | 1, _, hk, ex => cases hk; exact h1 ex
    | 2, _, hk, ex => cases hk; exact h2 ex
    | 3, _, hk, ex => cases hk; exact h3 ex
    | n + 4, hkn, _, _ => exact absurd hkn (by omega)
  · rw [e3]
    refine ho (fun k hk e => ?_)
    subst e
    rw [e1, e2, nI_toInt (by omega)] at h
    omega
theorem sw_lo_2 : (pg_sw.getD 2 (0, 0, 0, [])).1 = 0 ∧ (pg_sw.getD 2 (0, 0, 0, [])).2.1 = 5 ∧ (pg_sw.getD 2 (0, 0, 0, [])).2.2.1 = 50 ∧ (pg_sw.getD 2 (0, 0, 0, [])).2.2.2 = [20, 23, 26, 37, 40, 43] := by decide +kernel
theorem mw_sw_2 {d b y i c : Nat} {z : Int} {ls : List (Option PV)} {r : List PV} {K : KM} {I : IM} {R : RM} {Q : QT} {x : Int32} (hi : pg_at y i = some (20, 2, c, z)) (h0 : x = nI 0 → Mw d b y 20 ls r K I R Q) (h1 : x = nI 1 → Mw d b y 23 ls r K I R Q) (h2 : x = nI 2 → Mw d b y 26 ls r K I R Q) (h3 : x = nI 3 → Mw d b y 37 ls r K I R Q) (h4 : x = nI 4 → Mw d b y 40 ls r K I R Q) (h5 : x = nI 5 → Mw d b y 43 ls r K I R Q) (ho : (∀ k, k < 6 → ¬ x = nI k) → Mw d b y 50 ls r K I R Q) : Mw d b y i ls (pI x :: r) K I R Q := by
  obtain ⟨e1, e2, e3, e4⟩ := sw_lo_2
  refine mw_sw hi (fun k t hk hx => ?_) (fun h => ?_)
  · rw [e4] at hk
    rw [e1] at hx
    have hkn : k < 6 := (List.getElem?_eq_some_iff.mp hk).1
    have ex : x = nI k := by
      apply Int32.toInt_inj.mp
      rw [nI_toInt (by omega)]
      omega
    match k, hkn, hk, ex with
    | 0, _, hk, ex => cases hk; exact h0 ex
    | 1, _, hk, ex => cases hk; exact h1 ex
    | 2, _, hk, ex => cases hk; exact h2 ex
    | 3, _, hk, ex => cases hk; exact h3 ex
    | 4, _, hk, ex => cases hk; exact h4 ex
    | 5, _, hk, ex => cases hk; exact h5 ex
    | n + 6, hkn, _, _ => exact absurd hkn (by omega)
  · rw [e3]
    refine ho (fun k hk e => ?_)
    subst e
    rw [e1, e2, nI_toInt (by omega)] at h
    omega
