/-! switches, a row a table -/
theorem sw_lo_0 : (pg_sw.getD 0 (0, 0, 0, [])).1 = 0 ∧ (pg_sw.getD 0 (0, 0, 0, [])).2.1 = 6 ∧ (pg_sw.getD 0 (0, 0, 0, [])).2.2.1 = 44 ∧ (pg_sw.getD 0 (0, 0, 0, [])).2.2.2 = [16, 19, 22, 32, 35, 38, 41] := by decide +kernel
theorem mw_sw_0 {d b y i c : Nat} {z : Int} {ls : List (Option PV)} {r : List PV} {K : KM} {I : IM} {R : RM} {Q : QT} {x : Int32} (hi : pg_at y i = some (20, 0, c, z)) (h0 : x = nI 0 → Mw d b y 16 ls r K I R Q) (h1 : x = nI 1 → Mw d b y 19 ls r K I R Q) (h2 : x = nI 2 → Mw d b y 22 ls r K I R Q) (h3 : x = nI 3 → Mw d b y 32 ls r K I R Q) (h4 : x = nI 4 → Mw d b y 35 ls r K I R Q) (h5 : x = nI 5 → Mw d b y 38 ls r K I R Q) (h6 : x = nI 6 → Mw d b y 41 ls r K I R Q) (ho : (∀ k, k < 7 → ¬ x = nI k) → Mw d b y 44 ls r K I R Q) : Mw d b y i ls (pI x :: r) K I R Q := by
  obtain ⟨e1, e2, e3, e4⟩ := sw_lo_0
  refine mw_sw hi (fun k t hk hx => ?_) (fun h => ?_)
  · rw [e4] at hk
    rw [e1] at hx
    have hkn : k < 7 := (List.getElem?_eq_some_iff.mp hk).1
    have ex : x = nI k := by
      apply Int32.toInt_inj.mp
      rw [nI_toInt (by omega)]
      omega
    match k, hkn, hk, ex with
    | 0, _, hk, ex => cases hk; exact h0 ex
    | 1, _, hk, ex => cases hk; exact h1 ex
    | 2, _, hk, ex => cases hk; exact h2 ex
    | 3, _, hk, ex => cases hk; exact h3 ex
    | 4, _, hk, ex => cases hk; exact h4 ex
    | 5, _, hk, ex => cases hk; exact h5 ex
    | 6, _, hk, ex => cases hk; exact h6 ex
    | n + 7, hkn, _, _ => exact absurd hkn (by omega)
  · rw [e3]
    refine ho (fun k hk e => ?_)
    subst e
    rw [e1, e2, nI_toInt (by omega)] at h
    omega
theorem sw_lo_1 : (pg_sw.getD 1 (0, 0, 0, [])).1 = 0 ∧ (pg_sw.getD 1 (0, 0, 0, [])).2.1 = 3 ∧ (pg_sw.getD 1 (0, 0, 0, [])).2.2.1 = 37 ∧ (pg_sw.getD 1 (0, 0, 0, [])).2.2.2 = [16, 24, 27, 30] := by decide +kernel
theorem mw_sw_1 {d b y i c : Nat} {z : Int} {ls : List (Option PV)} {r : List PV} {K : KM} {I : IM} {R : RM} {Q : QT} {x : Int32} (hi : pg_at y i = some (20, 1, c, z)) (h0 : x = nI 0 → Mw d b y 16 ls r K I R Q) (h1 : x = nI 1 → Mw d b y 24 ls r K I R Q) (h2 : x = nI 2 → Mw d b y 27 ls r K I R Q) (h3 : x = nI 3 → Mw d b y 30 ls r K I R Q) (ho : (∀ k, k < 4 → ¬ x = nI k) → Mw d b y 37 ls r K I R Q) : Mw d b y i ls (pI x :: r) K I R Q := by
  obtain ⟨e1, e2, e3, e4⟩ := sw_lo_1
  refine mw_sw hi (fun k t hk hx => ?_) (fun h => ?_)
  · rw [e4] at hk
    rw [e1] at hx
    have hkn : k < 4 := (List.getElem?_eq_some_iff.mp hk).1
    have ex : x = nI k := by
      apply Int32.toInt_inj.mp
      rw [nI_toInt (by omega)]
      omega
    match k, hkn, hk, ex with
    | 0, _, hk, ex => cases hk; exact h0 ex
    | 1, _, hk, ex => cases hk; exact h1 ex
    | 2, _, hk, ex => cases hk; exact h2 ex
    | 3, _, hk, ex => cases hk; exact h3 ex
    | n + 4, hkn, _, _ => exact absurd hkn (by omega)
  · rw [e3]
    refine ho (fun k hk e => ?_)
    subst e
    rw [e1, e2, nI_toInt (by omega)] at h
    omega
theorem sw_lo_2 : (pg_sw.getD 2 (0, 0, 0, [])).1 = 0 ∧ (pg_sw.getD 2 (0, 0, 0, [])).2.1 = 5 ∧ (pg_sw.getD 2 (0, 0, 0, [])).2.2.1 = 50 ∧ (pg_sw.getD 2 (0, 0, 0, [])).2.2.2 = [20, 23, 26, 37, 40, 43] := by decide +kernel
theorem mw_sw_2 {d b y i c : Nat} {z : Int} {ls : List (Option PV)} {r : List PV} {K : KM} {I : IM} {R : RM} {Q : QT} {x : Int32} (hi : pg_at y i = some (20, 2, c, z)) (h0 : x = nI 0 → Mw d b y 20 ls r K I R Q) (h1 : x = nI 1 → Mw d b y 23 ls r K I R Q) (h2 : x = nI 2 → Mw d b y 26 ls r K I R Q) (h3 : x = nI 3 → Mw d b y 37 ls r K I R Q) (h4 : x = nI 4 → Mw d b y 40 ls r K I R Q) (h5 : x = nI 5 → Mw d b y 43 ls r K I R Q) (ho : (∀ k, k < 6 → ¬ x = nI k) → Mw d b y 50 ls r K I R Q) : Mw d b y i ls (pI x :: r) K I R Q := by
  obtain ⟨e1, e2, e3, e4⟩ := sw_lo_2
  refine mw_sw hi (fun k t hk hx => ?_) (fun h => ?_)
  · rw [e4] at hk
    rw [e1] at hx
    have hkn : k < 6 := (List.getElem?_eq_some_iff.mp hk).1
    have ex : x = nI k := by
      apply Int32.toInt_inj.mp
      rw [nI_toInt (by omega)]
      omega
    match k, hkn, hk, ex with
    | 0, _, hk, ex => cases hk; exact h0 ex
    | 1, _, hk, ex => cases hk; exact h1 ex
    | 2, _, hk, ex => cases hk; exact h2 ex
    | 3, _, hk, ex => cases hk; exact h3 ex
    | 4, _, hk, ex => cases hk; exact h4 ex
    | 5, _, hk, ex => cases hk; exact h5 ex
    | n + 6, hkn, _, _ => exact absurd hkn (by omega)
  · rw [e3]
    refine ho (fun k hk e => ?_)
    subst e
    rw [e1, e2, nI_toInt (by omega)] at h
    omega
theorem sw_lo_3 : (pg_sw.getD 3 (0, 0, 0, [])).1 = 0 ∧ (pg_sw.getD 3 (0, 0, 0, [])).2.1 = 5 ∧ (pg_sw.getD 3 (0, 0, 0, [])).2.2.1 = 52 ∧ (pg_sw.getD 3 (0, 0, 0, [])).2.2.2 = [15, 20, 25, 38, 43, 47] := by decide +kernel
theorem mw_sw_3 {d b y i c : Nat} {z : Int} {ls : List (Option PV)} {r : List PV} {K : KM} {I : IM} {R : RM} {Q : QT} {x : Int32} (hi : pg_at y i = some (20, 3, c, z)) (h0 : x = nI 0 → Mw d b y 15 ls r K I R Q) (h1 : x = nI 1 → Mw d b y 20 ls r K I R Q) (h2 : x = nI 2 → Mw d b y 25 ls r K I R Q) (h3 : x = nI 3 → Mw d b y 38 ls r K I R Q) (h4 : x = nI 4 → Mw d b y 43 ls r K I R Q) (h5 : x = nI 5 → Mw d b y 47 ls r K I R Q) (ho : (∀ k, k < 6 → ¬ x = nI k) → Mw d b y 52 ls r K I R Q) : Mw d b y i ls (pI x :: r) K I R Q := by
  obtain ⟨e1, e2, e3, e4⟩ := sw_lo_3
  refine mw_sw hi (fun k t hk hx => ?_) (fun h => ?_)
  · rw [e4] at hk
    rw [e1] at hx
    have hkn : k < 6 := (List.getElem?_eq_some_iff.mp hk).1
    have ex : x = nI k := by
      apply Int32.toInt_inj.mp
      rw [nI_toInt (by omega)]
      omega
    match k, hkn, hk, ex with
    | 0, _, hk, ex => cases hk; exact h0 ex
    | 1, _, hk, ex => cases hk; exact h1 ex
    | 2, _, hk, ex => cases hk; exact h2 ex
    | 3, _, hk, ex => cases hk; exact h3 ex
    | 4, _, hk, ex => cases hk; exact h4 ex
    | 5, _, hk, ex => cases hk; exact h5 ex
    | n + 6, hkn, _, _ => exact absurd hkn (by omega)
  · rw [e3]
    refine ho (fun k hk e => ?_)
    subst e
    rw [e1, e2, nI_toInt (by omega)] at h
    omega
theorem sw_lo_4 : (pg_sw.getD 4 (0, 0, 0, [])).1 = 0 ∧ (pg_sw.getD 4 (0, 0, 0, [])).2.1 = 25 ∧ (pg_sw.getD 4 (0, 0, 0, [])).2.2.1 = 1116 ∧ (pg_sw.getD 4 (0, 0, 0, [])).2.2.2 = [25, 80, 105, 160, 205, 308, 353, 391, 436, 471, 496, 521, 576, 601, 608, 653, 698, 743, 788, 843, 906, 941, 986, 1031, 1066, 1091] := by decide +kernel
theorem mw_sw_4 {d b y i c : Nat} {z : Int} {ls : List (Option PV)} {r : List PV} {K : KM} {I : IM} {R : RM} {Q : QT} {x : Int32} (hi : pg_at y i = some (20, 4, c, z)) (h0 : x = nI 0 → Mw d b y 25 ls r K I R Q) (h1 : x = nI 1 → Mw d b y 80 ls r K I R Q) (h2 : x = nI 2 → Mw d b y 105 ls r K I R Q) (h3 : x = nI 3 → Mw d b y 160 ls r K I R Q) (h4 : x = nI 4 → Mw d b y 205 ls r K I R Q) (h5 : x = nI 5 → Mw d b y 308 ls r K I R Q) (h6 : x = nI 6 → Mw d b y 353 ls r K I R Q) (h7 : x = nI 7 → Mw d b y 391 ls r K I R Q) (h8 : x = nI 8 → Mw d b y 436 ls r K I R Q) (h9 : x = nI 9 → Mw d b y 471 ls r K I R Q) (h10 : x = nI 10 → Mw d b y 496 ls r K I R Q) (h11 : x = nI 11 → Mw d b y 521 ls r K I R Q) (h12 : x = nI 12 → Mw d b y 576 ls r K I R Q) (h13 : x = nI 13 → Mw d b y 601 ls r K I R Q) (h14 : x = nI 14 → Mw d b y 608 ls r K I R Q) (h15 : x = nI 15 → Mw d b y 653 ls r K I R Q) (h16 : x = nI 16 → Mw d b y 698 ls r K I R Q) (h17 : x = nI 17 → Mw d b y 743 ls r K I R Q) (h18 : x = nI 18 → Mw d b y 788 ls r K I R Q) (h19 : x = nI 19 → Mw d b y 843 ls r K I R Q) (h20 : x = nI 20 → Mw d b y 906 ls r K I R Q) (h21 : x = nI 21 → Mw d b y 941 ls r K I R Q) (h22 : x = nI 22 → Mw d b y 986 ls r K I R Q) (h23 : x = nI 23 → Mw d b y 1031 ls r K I R Q) (h24 : x = nI 24 → Mw d b y 1066 ls r K I R Q) (h25 : x = nI 25 → Mw d b y 1091 ls r K I R Q) (ho : (∀ k, k < 26 → ¬ x = nI k) → Mw d b y 1116 ls r K I R Q) : Mw d b y i ls (pI x :: r) K I R Q := by
  obtain ⟨e1, e2, e3, e4⟩ := sw_lo_4
  refine mw_sw hi (fun k t hk hx => ?_) (fun h => ?_)
  · rw [e4] at hk
    rw [e1] at hx
    have hkn : k < 26 := (List.getElem?_eq_some_iff.mp hk).1
    have ex : x = nI k := by
      apply Int32.toInt_inj.mp
      rw [nI_toInt (by omega)]
      omega
    match k, hkn, hk, ex with
    | 0, _, hk, ex => cases hk; exact h0 ex
    | 1, _, hk, ex => cases hk; exact h1 ex
    | 2, _, hk, ex => cases hk; exact h2 ex
    | 3, _, hk, ex => cases hk; exact h3 ex
    | 4, _, hk, ex => cases hk; exact h4 ex
    | 5, _, hk, ex => cases hk; exact h5 ex
    | 6, _, hk, ex => cases hk; exact h6 ex
    | 7, _, hk, ex => cases hk; exact h7 ex
    | 8, _, hk, ex => cases hk; exact h8 ex
    | 9, _, hk, ex => cases hk; exact h9 ex
    | 10, _, hk, ex => cases hk; exact h10 ex
    | 11, _, hk, ex => cases hk; exact h11 ex
    | 12, _, hk, ex => cases hk; exact h12 ex
    | 13, _, hk, ex => cases hk; exact h13 ex
    | 14, _, hk, ex => cases hk; exact h14 ex
    | 15, _, hk, ex => cases hk; exact h15 ex
    | 16, _, hk, ex => cases hk; exact h16 ex
    | 17, _, hk, ex => cases hk; exact h17 ex
    | 18, _, hk, ex => cases hk; exact h18 ex
    | 19, _, hk, ex => cases hk; exact h19 ex
    | 20, _, hk, ex => cases hk; exact h20 ex
    | 21, _, hk, ex => cases hk; exact h21 ex
    | 22, _, hk, ex => cases hk; exact h22 ex
    | 23, _, hk, ex => cases hk; exact h23 ex
    | 24, _, hk, ex => cases hk; exact h24 ex
    | 25, _, hk, ex => cases hk; exact h25 ex
    | n + 26, hkn, _, _ => exact absurd hkn (by omega)
  · rw [e3]
    refine ho (fun k hk e => ?_)
    subst e
    rw [e1, e2, nI_toInt (by omega)] at h
    omega
