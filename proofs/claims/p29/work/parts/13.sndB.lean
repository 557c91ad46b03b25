/-! the steps of the pure machine that read and write cells -/
abbrev wl (Ls : List Nat) (f : Nat → va_E) : va_W := ([] : va_W) ++ va_pl Ls f
theorem hp_write {base : Nat} {D : va_G} {am : Lb → Nat} {K : KM} {I I' : IM} {R R' : RM} {s : State} {H H1 : Heap} {tys : List (ClassId × FieldType)} {Ls : List Nat} {f : Nat → va_E} (h : hq base D am K I R s H tys Ls f) {L : Lb} {k n q0 : Nat} (hK : K L = some (k, n)) (hk : k ≠ 14) {e e' : va_E} (he : f (am L) = e) (hq0 : (wl Ls f)[q0]? = some (am L, e))
    (hP1 : va_P D vwCl ((wl Ls f).set q0 (am L, e')) H1) (hD1 : va_D (ab base) ((wl Ls f).set q0 (am L, e'))) (hent : ent am tys k n (I' L) (R' L) e') (hI : ∀ L2, L2 ≠ L → I' L2 = I L2 ∧ R' L2 = R L2) (hR : ∀ j L', R' L j = some L' → K L' ≠ none) (hbel : ∀ q, q < base → H1[q]? = H[q]?) : hp base D am K I' R' s H1 := by
  obtain ⟨h1, h2, h3, h4, h5, h6, h7⟩ := h
  subst he
  have hm := (h4 L k n hK hk).1
  have e1 := va_pl_set (e := e') h3 hm hq0
  rw [e1] at hP1 hD1
  refine ⟨tys, Ls, va_up f (am L) e', h1, hP1, hD1, fun L2 k2 n2 hK2 hk2 => ?_, fun L2 n2 hK2 => ?_, h6, fun L2 j L' hK2 hR2 => ?_⟩
  · obtain ⟨m2, t2⟩ := h4 L2 k2 n2 hK2 hk2
    refine ⟨m2, ?_⟩
    by_cases e2 : L2 = L
    · subst e2
      rw [hK] at hK2
      cases hK2
      rw [show va_up f (am L2) e' (am L2) = e' from if_pos rfl]
      exact hent
    · have e3 : am L2 ≠ am L := fun q => e2 (h6 L2 L (by rw [hK2]; exact fun q => by cases q) (by rw [hK]; exact fun q => by cases q) q)
      rw [show va_up f (am L) e' (am L2) = f (am L2) from if_neg e3, (hI L2 e2).1, (hI L2 e2).2]
      exact t2
  · have e2 : L2 ≠ L := fun q => by
      subst q
      rw [hK] at hK2
      cases hK2
      exact hk rfl
    obtain ⟨⟨scr, g1, g2⟩, g3⟩ := h5 L2 n2 hK2
    rw [(hI L2 e2).1]
    exact ⟨⟨scr, by rw [hbel _ g3]; exact g1, g2⟩, g3⟩
  · by_cases e2 : L2 = L
    · subst e2
      exact hR j L' hR2
    · rw [(hI L2 e2).2] at hR2
      exact h7 L2 j L' hK2 hR2
theorem bel_of {base : Nat} {s : State} {H H1 : Heap} {locs locs1 : List Loc} (hb : base ≤ s.heap.size) (h : va_S (ab base) s.heap H locs) (h1 : va_S (ab base) s.heap H1 locs1) : ∀ q, q < base → H1[q]? = H[q]? := fun q hq => by
  rw [h.2.1 q (Nat.lt_of_lt_of_le hq hb) (Nat.not_le.mpr hq), h1.2.1 q (Nat.lt_of_lt_of_le hq hb) (Nat.not_le.mpr hq)]
theorem hq_obj {base : Nat} {D : va_G} {am : Lb → Nat} {K : KM} {I : IM} {R : RM} {s : State} {H : Heap} {tys : List (ClassId × FieldType)} {Ls : List Nat} {f : Nat → va_E} (h : hq base D am K I R s H tys Ls f) {L : Lb} {k n : Nat} (hK : K L = some (k, n)) (hk : k < 6) : ∃ (q0 : Nat) (fs : List Value), (wl Ls f)[q0]? = some (am L, .inr (k, fs)) ∧ f (am L) = .inr (k, fs) ∧ fs.length = nfl k ∧ ∀ j, j < nfl k → fs[j]? = some (if isRT (tyc k j) = true then va_rf ((R L j).map am) else .int (I L j)) := by
  obtain ⟨h1, h2, h3, h4, h5, h6, h7⟩ := h
  obtain ⟨hm, he⟩ := h4 L k n hK (by omega)
  obtain ⟨q0, hq0⟩ := va_pl_get (X := ([] : va_W)) (f := f) hm
  rcases he with ⟨-, fs, e, a, b⟩ | ⟨h0, -⟩ | ⟨h0, -⟩ | ⟨h0, -⟩
  · exact ⟨q0, fs, by rw [← e]; exact hq0, e, a, b⟩
  · exact absurd hk (by omega)
  · exact absurd hk (by omega)
  · exact absurd hk (by omega)
theorem hq_ari {base : Nat} {D : va_G} {am : Lb → Nat} {K : KM} {I : IM} {R : RM} {s : State} {H : Heap} {tys : List (ClassId × FieldType)} {Ls : List Nat} {f : Nat → va_E} (h : hq base D am K I R s H tys Ls f) {L : Lb} {k n : Nat} (hK : K L = some (k, n)) (hk : k = 7 ∨ k = 8) : ∃ (q0 : Nat) (cA : ClassId) (t0 : Nat), (wl Ls f)[q0]? = some (am L, .inl (cA, n, .inl (I L))) ∧ f (am L) = .inl (cA, n, .inl (I L)) ∧ tys[t0]? = some (cA, kty k) := by
  obtain ⟨h1, h2, h3, h4, h5, h6, h7⟩ := h
  obtain ⟨hm, he⟩ := h4 L k n hK (by omega)
  obtain ⟨q0, hq0⟩ := va_pl_get (X := ([] : va_W)) (f := f) hm
  rcases he with ⟨h0, -⟩ | ⟨-, cA, t0, e, b⟩ | ⟨h0, -⟩ | ⟨h0, -⟩
  · exact absurd h0 (by omega)
  · exact ⟨q0, cA, t0, by rw [← e]; exact hq0, e, b⟩
  · exact absurd h0 (by omega)
  · exact absurd h0 (by omega)
theorem hq_arl {base : Nat} {D : va_G} {am : Lb → Nat} {K : KM} {I : IM} {R : RM} {s : State} {H : Heap} {tys : List (ClassId × FieldType)} {Ls : List Nat} {f : Nat → va_E} (h : hq base D am K I R s H tys Ls f) {L : Lb} {n : Nat} (hK : K L = some (13, n)) : ∃ (q0 : Nat) (cA : ClassId) (t0 : Nat), (wl Ls f)[q0]? = some (am L, .inl (cA, n, .inr (.inl (fun j => (I L j).toInt64)))) ∧ f (am L) = .inl (cA, n, .inr (.inl (fun j => (I L j).toInt64))) ∧ tys[t0]? = some (cA, .long) := by
  obtain ⟨h1, h2, h3, h4, h5, h6, h7⟩ := h
  obtain ⟨hm, he⟩ := h4 L 13 n hK (by omega)
  obtain ⟨q0, hq0⟩ := va_pl_get (X := ([] : va_W)) (f := f) hm
  rcases he with ⟨h0, -⟩ | ⟨h0, -⟩ | ⟨-, cA, t0, e, b⟩ | ⟨h0, -⟩
  · exact absurd h0 (by omega)
  · exact absurd h0 (by omega)
  · exact ⟨q0, cA, t0, by rw [← e]; exact hq0, e, b⟩
  · exact absurd h0 (by omega)
theorem hq_arq {base : Nat} {D : va_G} {am : Lb → Nat} {K : KM} {I : IM} {R : RM} {s : State} {H : Heap} {tys : List (ClassId × FieldType)} {Ls : List Nat} {f : Nat → va_E} (h : hq base D am K I R s H tys Ls f) {L : Lb} {k n : Nat} (hK : K L = some (k, n)) (hk : 9 ≤ k ∧ k ≤ 12) : ∃ (q0 : Nat) (cA : ClassId) (t0 : Nat), (wl Ls f)[q0]? = some (am L, .inl (cA, n, .inr (.inr (.inr (.inr (fun j => (R L j).map am)))))) ∧ f (am L) = .inl (cA, n, .inr (.inr (.inr (.inr (fun j => (R L j).map am))))) ∧ tys[t0]? = some (cA, .object (elN k)) := by
  obtain ⟨h1, h2, h3, h4, h5, h6, h7⟩ := h
  obtain ⟨hm, he⟩ := h4 L k n hK (by omega)
  obtain ⟨q0, hq0⟩ := va_pl_get (X := ([] : va_W)) (f := f) hm
  rcases he with ⟨h0, -⟩ | ⟨h0, -⟩ | ⟨h0, -⟩ | ⟨-, cA, t0, e, b⟩
  · exact absurd h0 (by omega)
  · exact absurd h0 (by omega)
  · exact absurd h0 (by omega)
  · exact ⟨q0, cA, t0, by rw [← e]; exact hq0, e, b⟩
theorem setI_at {I : IM} {L : Lb} {g : Nat → Int32} : setI I L g L = g := if_pos rfl
theorem setI_ne {I : IM} {L L2 : Lb} {g : Nat → Int32} (h : L2 ≠ L) : setI I L g L2 = I L2 := if_neg h
theorem setR_at {R : RM} {L : Lb} {g : Nat → Option Lb} : setR R L g L = g := if_pos rfl
theorem setR_ne {R : RM} {L L2 : Lb} {g : Nat → Option Lb} (h : L2 ≠ L) : setR R L g L2 = R L2 := if_neg h
theorem up2_at {I : IM} {L : Lb} {k : Nat} {x : Int32} : up2 I L k x L = upd (I L) k x := if_pos rfl
theorem up2R_at {R : RM} {L : Lb} {k : Nat} {x : Option Lb} : up2R R L k x L = va_up (R L) k x := if_pos rfl
theorem nar_b {x : Int32} (h : x = 0 ∨ x = 1) : vp_nar .boolean x = x := by
  rcases h with rfl | rfl <;> rfl

set_option maxHeartbeats 1000000 in
theorem sd_24 {l : Launch} {base : Nat} {D : va_G} {d b y i : Nat} {ls : List (Option PV)} {st : List PV} {K : KM} {I : IM} {R : RM} {Q : QT} {a c : Nat} {z : Int} (HC : chkB y i 24 a c z (pg_wd y i) = true) (h9 : stB (Snd l base D) 24 a c z d b y i ls st K I R Q) : Snd l base D d b y i ls st K I R Q := by
  intro p e rm s m args below meth cc H locs cells slots lsA stA am am0 K0 hcx hsf hma hdf hdl hcb hsb hh hS hl hs he
  obtain ⟨hx, hb, hr, hml, hown, hlk, hnm, htb⟩ := id hcx
  obtain ⟨tys, Ls, f, hhq⟩ := id hh
  obtain ⟨hKK, hP, hD, -, h14, hinj, hRR⟩ := id hhq
  obtain ⟨j, L, r, n, rfl, hK, hin, h⟩ := (show ∃ j L r n, st = pI j :: pR (some L) :: r ∧ K L = some (13, n) ∧ vp_in j n ∧ Snd l base D d b y (i + 1) ls (pL (I L j.toNatClampNeg) :: r) K I R Q from h9)
  obtain ⟨hd, hn⟩ := dc_at (show dc y i .laload 1 = true from HC)
  obtain ⟨r1, rfl, hs1⟩ := sr_i hs
  obtain ⟨r2, rfl, hk2, hs2⟩ := sr_r hs1
  obtain ⟨q0, cA, t0, hq0, hfe, ht0⟩ := hq_arl hhq hK
  refine va_lald hx hb hKK hP q0 t0 hq0 ht0 hin hd ?_
  rw [← hn]
  exact h p e rm s m args below meth cc H locs cells slots lsA _ am am0 K0 hcx hsf hma hdf hdl hcb hsb hh hS hl ⟨rfl, hs2⟩ he

set_option maxHeartbeats 1000000 in
theorem sd_27 {l : Launch} {base : Nat} {D : va_G} {d b y i : Nat} {ls : List (Option PV)} {st : List PV} {K : KM} {I : IM} {R : RM} {Q : QT} {a c : Nat} {z : Int} (HC : chkB y i 27 a c z (pg_wd y i) = true) (h9 : stB (Snd l base D) 27 a c z d b y i ls st K I R Q) : Snd l base D d b y i ls st K I R Q := by
  intro p e rm s m args below meth cc H locs cells slots lsA stA am am0 K0 hcx hsf hma hdf hdl hcb hsb hh hS hl hs he
  obtain ⟨hx, hb, hr, hml, hown, hlk, hnm, htb⟩ := id hcx
  obtain ⟨tys, Ls, f, hhq⟩ := id hh
  obtain ⟨hKK, hP, hD, -, h14, hinj, hRR⟩ := id hhq
  obtain ⟨j, L, r, k, n, rfl, hK, hk, hin, h⟩ := (show ∃ j L r k n, st = pI j :: pR (some L) :: r ∧ K L = some (k, n) ∧ (k = 7 ∨ k = 14) ∧ vp_in j n ∧ Snd l base D d b y (i + 1) ls (pI (I L j.toNatClampNeg) :: r) K I R Q from h9)
  obtain ⟨hd, hn⟩ := dc_at (show dc y i .iaload 1 = true from HC)
  obtain ⟨r1, rfl, hs1⟩ := sr_i hs
  obtain ⟨r2, rfl, hk2, hs2⟩ := sr_r hs1
  rcases hk with rfl | rfl
  · obtain ⟨q0, cA, t0, hq0, hfe, ht0⟩ := hq_ari hhq hK (Or.inl rfl)
    refine va_iald hx hb hKK hP q0 t0 hq0 ht0 hin hd ?_
    rw [← hn]
    exact h p e rm s m args below meth cc H locs cells slots lsA _ am am0 K0 hcx hsf hma hdf hdl hcb hsb hh hS hl ⟨rfl, hs2⟩ he
  · obtain ⟨⟨scr, hc, hof, hkn, hsz, hval⟩, -⟩ := h14 L n hK
    have hlt : j.toNatClampNeg < n := Nat.not_le.mp fun q => hin (Or.inr q)
    refine W.iald (v := .int (I L j.toNatClampNeg)) hx hb hc hof hkn (by rw [hsz]; exact hin) (hval _ hlt) rfl rfl hd ?_
    show W p l e rm s m args below meth cc H locs cells slots _ (F0 m (pg_pc y i + 1) lsA (.int (I L j.toNatClampNeg) :: r2))
    rw [← hn]
    exact h p e rm s m args below meth cc H locs cells slots lsA _ am am0 K0 hcx hsf hma hdf hdl hcb hsb hh hS hl ⟨rfl, hs2⟩ he

set_option maxHeartbeats 1000000 in
theorem sd_26 {l : Launch} {base : Nat} {D : va_G} {d b y i : Nat} {ls : List (Option PV)} {st : List PV} {K : KM} {I : IM} {R : RM} {Q : QT} {a c : Nat} {z : Int} (HC : chkB y i 26 a c z (pg_wd y i) = true) (h9 : stB (Snd l base D) 26 a c z d b y i ls st K I R Q) : Snd l base D d b y i ls st K I R Q := by
  intro p e rm s m args below meth cc H locs cells slots lsA stA am am0 K0 hcx hsf hma hdf hdl hcb hsb hh hS hl hs he
  obtain ⟨hx, hb, hr, hml, hown, hlk, hnm, htb⟩ := id hcx
  obtain ⟨tys, Ls, f, hhq⟩ := id hh
  obtain ⟨hKK, hP, hD, -, h14, hinj, hRR⟩ := id hhq
  obtain ⟨L, r, k, n, rfl, hK, hk, h⟩ := (show ∃ L r k n, st = pR (some L) :: r ∧ K L = some (k, n) ∧ (k = 7 ∨ k = 14) ∧ Snd l base D d b y (i + 1) ls (pI (Int32.ofNat n) :: r) K I R Q from h9)
  obtain ⟨hd, hn⟩ := dc_at (show dc y i .arraylength 1 = true from HC)
  obtain ⟨r1, rfl, hk2, hs1⟩ := sr_r hs
  rcases hk with rfl | rfl
  · obtain ⟨q0, cA, t0, hq0, hfe, ht0⟩ := hq_ari hhq hK (Or.inl rfl)
    refine W.alen (n := Int32.ofNat n) hx hb (hP q0 _ hq0) ((hKK.2 t0 _ ht0).1 n (fun j => .int (I L j))) (by show Int32.ofNat (arrV _ _ _).slots.size = _; rw [arrV_size]) rfl rfl hd ?_
    show W p l e rm s m args below meth cc H locs cells slots _ (F0 m (pg_pc y i + 1) lsA (.int (Int32.ofNat n) :: r1))
    rw [← hn]
    exact h p e rm s m args below meth cc H locs cells slots lsA _ am am0 K0 hcx hsf hma hdf hdl hcb hsb hh hS hl ⟨rfl, hs1⟩ he
  · obtain ⟨⟨scr, hc, hof, hkn, hsz, hval⟩, -⟩ := h14 L n hK
    refine W.alen (n := Int32.ofNat n) hx hb hc hof (by rw [hsz]) rfl rfl hd ?_
    show W p l e rm s m args below meth cc H locs cells slots _ (F0 m (pg_pc y i + 1) lsA (.int (Int32.ofNat n) :: r1))
    rw [← hn]
    exact h p e rm s m args below meth cc H locs cells slots lsA _ am am0 K0 hcx hsf hma hdf hdl hcb hsb hh hS hl ⟨rfl, hs1⟩ he

set_option maxHeartbeats 1000000 in
theorem sd_29 {l : Launch} {base : Nat} {D : va_G} {d b y i : Nat} {ls : List (Option PV)} {st : List PV} {K : KM} {I : IM} {R : RM} {Q : QT} {a c : Nat} {z : Int} (HC : chkB y i 29 a c z (pg_wd y i) = true) (h9 : stB (Snd l base D) 29 a c z d b y i ls st K I R Q) : Snd l base D d b y i ls st K I R Q := by
  intro p e rm s m args below meth cc H locs cells slots lsA stA am am0 K0 hcx hsf hma hdf hdl hcb hsb hh hS hl hs he
  obtain ⟨hx, hb, hr, hml, hown, hlk, hnm, htb⟩ := id hcx
  obtain ⟨tys, Ls, f, hhq⟩ := id hh
  obtain ⟨hKK, hP, hD, -, h14, hinj, hRR⟩ := id hhq
  obtain ⟨j, L, r, n, rfl, hK, hin, h⟩ := (show ∃ j L r n, st = pI j :: pR (some L) :: r ∧ K L = some (8, n) ∧ vp_in j n ∧ Snd l base D d b y (i + 1) ls (pI (I L j.toNatClampNeg) :: r) K I R Q from h9)
  obtain ⟨hd, hn⟩ := dc_at (show dc y i .baload 1 = true from HC)
  obtain ⟨r1, rfl, hs1⟩ := sr_i hs
  obtain ⟨r2, rfl, hk2, hs2⟩ := sr_r hs1
  obtain ⟨q0, cA, t0, hq0, hfe, ht0⟩ := hq_ari hhq hK (Or.inr rfl)
  refine va_zald hx hb hKK hP q0 t0 hq0 ht0 hin hd ?_
  rw [← hn]
  exact h p e rm s m args below meth cc H locs cells slots lsA _ am am0 K0 hcx hsf hma hdf hdl hcb hsb hh hS hl ⟨rfl, hs2⟩ he

set_option maxHeartbeats 1000000 in
theorem sd_31 {l : Launch} {base : Nat} {D : va_G} {d b y i : Nat} {ls : List (Option PV)} {st : List PV} {K : KM} {I : IM} {R : RM} {Q : QT} {a c : Nat} {z : Int} (HC : chkB y i 31 a c z (pg_wd y i) = true) (h9 : stB (Snd l base D) 31 a c z d b y i ls st K I R Q) : Snd l base D d b y i ls st K I R Q := by
  intro p e rm s m args below meth cc H locs cells slots lsA stA am am0 K0 hcx hsf hma hdf hdl hcb hsb hh hS hl hs he
  obtain ⟨hx, hb, hr, hml, hown, hlk, hnm, htb⟩ := id hcx
  obtain ⟨tys, Ls, f, hhq⟩ := id hh
  obtain ⟨hKK, hP, hD, -, h14, hinj, hRR⟩ := id hhq
  obtain ⟨j, L, r, k, n, rfl, hK, hk, hin, h⟩ := (show ∃ j L r k n, st = pI j :: pR (some L) :: r ∧ K L = some (k, n) ∧ (9 ≤ k ∧ k ≤ 12) ∧ vp_in j n ∧ Snd l base D d b y (i + 1) ls (pR (R L j.toNatClampNeg) :: r) K I R Q from h9)
  obtain ⟨hd, hn⟩ := dc_at (show dc y i .aaload 1 = true from HC)
  obtain ⟨r1, rfl, hs1⟩ := sr_i hs
  obtain ⟨r2, rfl, hk2, hs2⟩ := sr_r hs1
  obtain ⟨q0, cA, t0, hq0, hfe, ht0⟩ := hq_arq hhq hK hk
  refine va_aldq hx hb hKK hP q0 t0 hq0 ht0 hin hd ?_
  rw [← hn]
  exact h p e rm s m args below meth cc H locs cells slots lsA _ am am0 K0 hcx hsf hma hdf hdl hcb hsb hh hS hl ⟨qv_r (fun L2 hL2 => hRR L _ L2 hk2 hL2), hs2⟩ he

set_option maxHeartbeats 1000000 in
theorem sd_28 {l : Launch} {base : Nat} {D : va_G} {d b y i : Nat} {ls : List (Option PV)} {st : List PV} {K : KM} {I : IM} {R : RM} {Q : QT} {a c : Nat} {z : Int} (HC : chkB y i 28 a c z (pg_wd y i) = true) (h9 : stB (Snd l base D) 28 a c z d b y i ls st K I R Q) : Snd l base D d b y i ls st K I R Q := by
  intro p e rm s m args below meth cc H locs cells slots lsA stA am am0 K0 hcx hsf hma hdf hdl hcb hsb hh hS hl hs he
  obtain ⟨hx, hb, hr, hml, hown, hlk, hnm, htb⟩ := id hcx
  obtain ⟨tys, Ls, f, hhq⟩ := id hh
  obtain ⟨hKK, hP, hD, -, h14, hinj, hRR⟩ := id hhq
  obtain ⟨x, j, L, r, n, rfl, hK, hin, h⟩ := (show ∃ x j L r n, st = pI x :: pI j :: pR (some L) :: r ∧ K L = some (7, n) ∧ vp_in j n ∧ Snd l base D d b y (i + 1) ls r K (up2 I L j.toNatClampNeg x) R Q from h9)
  obtain ⟨hd, hn⟩ := dc_at (show dc y i .iastore 1 = true from HC)
  obtain ⟨r1, rfl, hs1⟩ := sr_i hs
  obtain ⟨r2, rfl, hs2⟩ := sr_i hs1
  obtain ⟨r3, rfl, hk2, hs3⟩ := sr_r hs2
  obtain ⟨q0, cA, t0, hq0, hfe, ht0⟩ := hq_ari hhq hK (Or.inl rfl)
  refine va_iast hx hb hKK hP hD hS q0 t0 hq0 ht0 hin hd (fun H1 locs1 hP1 hD1 hS1 => ?_)
  rw [← hn]
  exact h p e rm s m args below meth cc H1 locs1 cells slots lsA _ am am0 K0 hcx hsf hma hdf hdl hcb hsb (hp_write hhq hK (by decide) hfe hq0 hP1 hD1 (Or.inr (Or.inl ⟨Or.inl rfl, cA, t0, by rw [up2_at], ht0⟩)) (fun L2 h2 => ⟨setI_ne h2, rfl⟩) (fun j L2 hj => hRR L j L2 hk2 hj) (bel_of hsf.2.2.2.2.2.2 hS hS1)) hS1 hl hs3 he

set_option maxHeartbeats 1000000 in
theorem sd_30 {l : Launch} {base : Nat} {D : va_G} {d b y i : Nat} {ls : List (Option PV)} {st : List PV} {K : KM} {I : IM} {R : RM} {Q : QT} {a c : Nat} {z : Int} (HC : chkB y i 30 a c z (pg_wd y i) = true) (h9 : stB (Snd l base D) 30 a c z d b y i ls st K I R Q) : Snd l base D d b y i ls st K I R Q := by
  intro p e rm s m args below meth cc H locs cells slots lsA stA am am0 K0 hcx hsf hma hdf hdl hcb hsb hh hS hl hs he
  obtain ⟨hx, hb, hr, hml, hown, hlk, hnm, htb⟩ := id hcx
  obtain ⟨tys, Ls, f, hhq⟩ := id hh
  obtain ⟨hKK, hP, hD, -, h14, hinj, hRR⟩ := id hhq
  obtain ⟨x, j, L, r, n, rfl, hK, hin, h01, h⟩ := (show ∃ x j L r n, st = pI x :: pI j :: pR (some L) :: r ∧ K L = some (8, n) ∧ vp_in j n ∧ (x = 0 ∨ x = 1) ∧ Snd l base D d b y (i + 1) ls r K (up2 I L j.toNatClampNeg x) R Q from h9)
  obtain ⟨hd, hn⟩ := dc_at (show dc y i .bastore 1 = true from HC)
  obtain ⟨r1, rfl, hs1⟩ := sr_i hs
  obtain ⟨r2, rfl, hs2⟩ := sr_i hs1
  obtain ⟨r3, rfl, hk2, hs3⟩ := sr_r hs2
  obtain ⟨q0, cA, t0, hq0, hfe, ht0⟩ := hq_ari hhq hK (Or.inr rfl)
  refine va_zast hx hb hKK hP hD hS q0 t0 hq0 ht0 hin hd (fun H1 locs1 hP1 hD1 hS1 => ?_)
  rw [nar_b h01] at hP1 hD1
  rw [← hn]
  exact h p e rm s m args below meth cc H1 locs1 cells slots lsA _ am am0 K0 hcx hsf hma hdf hdl hcb hsb (hp_write hhq hK (by decide) hfe hq0 hP1 hD1 (Or.inr (Or.inl ⟨Or.inr rfl, cA, t0, by rw [up2_at], ht0⟩)) (fun L2 h2 => ⟨setI_ne h2, rfl⟩) (fun j L2 hj => hRR L j L2 hk2 hj) (bel_of hsf.2.2.2.2.2.2 hS hS1)) hS1 hl hs3 he

set_option maxHeartbeats 1000000 in
theorem sd_25 {l : Launch} {base : Nat} {D : va_G} {d b y i : Nat} {ls : List (Option PV)} {st : List PV} {K : KM} {I : IM} {R : RM} {Q : QT} {a c : Nat} {z : Int} (HC : chkB y i 25 a c z (pg_wd y i) = true) (h9 : stB (Snd l base D) 25 a c z d b y i ls st K I R Q) : Snd l base D d b y i ls st K I R Q := by
  intro p e rm s m args below meth cc H locs cells slots lsA stA am am0 K0 hcx hsf hma hdf hdl hcb hsb hh hS hl hs he
  obtain ⟨hx, hb, hr, hml, hown, hlk, hnm, htb⟩ := id hcx
  obtain ⟨tys, Ls, f, hhq⟩ := id hh
  obtain ⟨hKK, hP, hD, -, h14, hinj, hRR⟩ := id hhq
  obtain ⟨x, j, L, r, n, rfl, hK, hin, h⟩ := (show ∃ x j L r n, st = pL x :: pI j :: pR (some L) :: r ∧ K L = some (13, n) ∧ vp_in j n ∧ Snd l base D d b y (i + 1) ls r K (up2 I L j.toNatClampNeg x) R Q from h9)
  obtain ⟨hd, hn⟩ := dc_at (show dc y i .lastore 1 = true from HC)
  obtain ⟨r1, rfl, hs1⟩ := sr_l hs
  obtain ⟨r2, rfl, hs2⟩ := sr_i hs1
  obtain ⟨r3, rfl, hk2, hs3⟩ := sr_r hs2
  obtain ⟨q0, cA, t0, hq0, hfe, ht0⟩ := hq_arl hhq hK
  refine va_last hx hb hKK hP hD hS q0 t0 hq0 ht0 hin hd (fun H1 locs1 hP1 hD1 hS1 => ?_)
  rw [← hn]
  exact h p e rm s m args below meth cc H1 locs1 cells slots lsA _ am am0 K0 hcx hsf hma hdf hdl hcb hsb (hp_write hhq hK (by decide) hfe hq0 hP1 hD1 (Or.inr (Or.inr (Or.inl ⟨rfl, cA, t0, by rw [up2_at]; exact congrArg (fun g => (Sum.inl (cA, n, Sum.inr (Sum.inl g)) : va_E)) (funext fun q => by unfold vp_updL upd; split <;> rfl), ht0⟩))) (fun L2 h2 => ⟨setI_ne h2, rfl⟩) (fun j L2 hj => hRR L j L2 hk2 hj) (bel_of hsf.2.2.2.2.2.2 hS hS1)) hS1 hl hs3 he

set_option maxHeartbeats 1000000 in
theorem sd_32 {l : Launch} {base : Nat} {D : va_G} {d b y i : Nat} {ls : List (Option PV)} {st : List PV} {K : KM} {I : IM} {R : RM} {Q : QT} {a c : Nat} {z : Int} (HC : chkB y i 32 a c z (pg_wd y i) = true) (h9 : stB (Snd l base D) 32 a c z d b y i ls st K I R Q) : Snd l base D d b y i ls st K I R Q := by
  intro p e rm s m args below meth cc H locs cells slots lsA stA am am0 K0 hcx hsf hma hdf hdl hcb hsb hh hS hl hs he
  obtain ⟨hx, hb, hr, hml, hown, hlk, hnm, htb⟩ := id hcx
  obtain ⟨tys, Ls, f, hhq⟩ := id hh
  obtain ⟨hKK, hP, hD, -, h14, hinj, hRR⟩ := id hhq
  obtain ⟨L', j, L, r, k, n, n', rfl, hK, hk, hK', hin, h⟩ := (show ∃ L' j L r k n n', st = pR (some L') :: pI j :: pR (some L) :: r ∧ K L = some (k, n) ∧ (9 ≤ k ∧ k ≤ 12) ∧ K L' = some (elc k, n') ∧ vp_in j n ∧ Snd l base D d b y (i + 1) ls r K I (up2R R L j.toNatClampNeg (some L')) Q from h9)
  obtain ⟨hd, hn⟩ := dc_at (show dc y i .aastore 1 = true from HC)
  obtain ⟨r1, rfl, hkk, hs1⟩ := sr_r hs
  obtain ⟨r2, rfl, hs2⟩ := sr_i hs1
  obtain ⟨r3, rfl, hk2, hs3⟩ := sr_r hs2
  obtain ⟨q0, cA, t0, hq0, hfe, ht0⟩ := hq_arq hhq hK hk
  have hel : elc k < 6 := by unfold elc; split <;> decide
  obtain ⟨q1, fs, hq1, -, -, -⟩ := hq_obj hhq hK' hel
  refine va_astq (r := (clC (elc k), clT (elc k), nfl (elc k))) hx hb hKK hP hD hS q0 t0 q1 (elc k) hq0 ht0 hq1 (vw_at (elc k) hel) hin hd (fun H1 locs1 hP1 hD1 hS1 => ?_)
  rw [← hn]
  refine h p e rm s m args below meth cc H1 locs1 cells slots lsA _ am am0 K0 hcx hsf hma hdf hdl hcb hsb (hp_write hhq hK (by omega) hfe hq0 hP1 hD1 (Or.inr (Or.inr (Or.inr ⟨hk, cA, t0, ?_, ht0⟩))) (fun L2 h2 => ⟨rfl, setR_ne h2⟩) (fun j2 L2 hj => ?_) (bel_of hsf.2.2.2.2.2.2 hS hS1)) hS1 hl hs3 he
  · rw [up2R_at]
    exact congrArg (fun g => (Sum.inl (cA, n, Sum.inr (Sum.inr (Sum.inr (Sum.inr g)))) : va_E)) (funext fun q => by unfold va_up; split <;> rfl)
  · rw [up2R_at] at hj
    unfold va_up at hj
    split at hj
    · cases hj
      exact hkk
    · exact hRR L j2 L2 hk2 hj

set_option maxHeartbeats 1000000 in
theorem sd_33 {l : Launch} {base : Nat} {D : va_G} {d b y i : Nat} {ls : List (Option PV)} {st : List PV} {K : KM} {I : IM} {R : RM} {Q : QT} {a c : Nat} {z : Int} (HC : chkB y i 33 a c z (pg_wd y i) = true) (h9 : stB (Snd l base D) 33 a c z d b y i ls st K I R Q) : Snd l base D d b y i ls st K I R Q := by
  intro p e rm s m args below meth cc H locs cells slots lsA stA am am0 K0 hcx hsf hma hdf hdl hcb hsb hh hS hl hs he
  obtain ⟨hx, hb, hr, hml, hown, hlk, hnm, htb⟩ := id hcx
  obtain ⟨tys, Ls, f, hhq⟩ := id hh
  obtain ⟨hKK, hP, hD, -, h14, hinj, hRR⟩ := id hhq
  obtain ⟨L, r, n, rfl, hK, h⟩ := (show ∃ L r n, st = pR (some L) :: r ∧ K L = some (a, n) ∧ Snd l base D d b y (i + 1) ls (pI (I L c) :: r) K I R Q from h9)
  have HC : (dc y i (.getfield z.toNat) 3 && decide (a < 6) && decide (c < nfl a) && (decide (tyc a c = .int) || decide (tyc a c = .boolean)) && isw ((pg_wd y i).getD 0 0) (.fieldLink (pg_own y) z.toNat (clT a c).1 (clT a c).2.1 (clT a c).2.2.1)) = true := HC
  simp only [Bool.and_eq_true, Bool.or_eq_true, decide_eq_true_eq] at HC
  obtain ⟨⟨⟨⟨h0, ha⟩, hc⟩, hty⟩, hw⟩ := HC
  obtain ⟨hd, hn⟩ := dc_at h0
  obtain ⟨r1, rfl, hk2, hs1⟩ := sr_r hs
  obtain ⟨q0, fs, hq0, hfe, hfl, hfs⟩ := hq_obj hhq hK ha
  have hv := hfs c hc
  rw [if_neg (by rcases hty with q | q <;> rw [q] <;> exact Bool.false_ne_true)] at hv
  refine va_get hx hb (uws_at ha hsf) (fun _ q => q) hown hKK hP q0 hq0 (vw_at a ha) c hc (sfp_word hsf hw) (fun x q => q) hv hd ?_
  rw [← hn]
  exact h p e rm s m args below meth cc H locs cells slots lsA _ am am0 K0 hcx hsf hma hdf hdl hcb hsb hh hS hl ⟨rfl, hs1⟩ he

set_option maxHeartbeats 1000000 in
theorem sd_34 {l : Launch} {base : Nat} {D : va_G} {d b y i : Nat} {ls : List (Option PV)} {st : List PV} {K : KM} {I : IM} {R : RM} {Q : QT} {a c : Nat} {z : Int} (HC : chkB y i 34 a c z (pg_wd y i) = true) (h9 : stB (Snd l base D) 34 a c z d b y i ls st K I R Q) : Snd l base D d b y i ls st K I R Q := by
  intro p e rm s m args below meth cc H locs cells slots lsA stA am am0 K0 hcx hsf hma hdf hdl hcb hsb hh hS hl hs he
  obtain ⟨hx, hb, hr, hml, hown, hlk, hnm, htb⟩ := id hcx
  obtain ⟨tys, Ls, f, hhq⟩ := id hh
  obtain ⟨hKK, hP, hD, -, h14, hinj, hRR⟩ := id hhq
  obtain ⟨L, r, n, rfl, hK, h⟩ := (show ∃ L r n, st = pR (some L) :: r ∧ K L = some (a, n) ∧ Snd l base D d b y (i + 1) ls (pR (R L c) :: r) K I R Q from h9)
  have HC : (dc y i (.getfield z.toNat) 3 && decide (a < 6) && decide (c < nfl a) && isRT (tyc a c) && isw ((pg_wd y i).getD 0 0) (.fieldLink (pg_own y) z.toNat (clT a c).1 (clT a c).2.1 (clT a c).2.2.1)) = true := HC
  simp only [Bool.and_eq_true, Bool.or_eq_true, decide_eq_true_eq] at HC
  obtain ⟨⟨⟨⟨h0, ha⟩, hc⟩, hty⟩, hw⟩ := HC
  obtain ⟨hd, hn⟩ := dc_at h0
  obtain ⟨r1, rfl, hk2, hs1⟩ := sr_r hs
  obtain ⟨q0, fs, hq0, hfe, hfl, hfs⟩ := hq_obj hhq hK ha
  have hv := hfs c hc
  rw [if_pos hty] at hv
  refine va_get hx hb (uws_at ha hsf) (fun _ q => q) hown hKK hP q0 hq0 (vw_at a ha) c hc (sfp_word hsf hw) (fun x q => q) hv hd ?_
  rw [← hn]
  exact h p e rm s m args below meth cc H locs cells slots lsA _ am am0 K0 hcx hsf hma hdf hdl hcb hsb hh hS hl ⟨qv_r (fun L2 hL2 => hRR L _ L2 hk2 hL2), hs1⟩ he

set_option maxHeartbeats 1000000 in
theorem sd_48 {l : Launch} {base : Nat} {D : va_G} {d b y i : Nat} {ls : List (Option PV)} {st : List PV} {K : KM} {I : IM} {R : RM} {Q : QT} {a c : Nat} {z : Int} (HC : chkB y i 48 a c z (pg_wd y i) = true) (h9 : stB (Snd l base D) 48 a c z d b y i ls st K I R Q) : Snd l base D d b y i ls st K I R Q := by
  intro p e rm s m args below meth cc H locs cells slots lsA stA am am0 K0 hcx hsf hma hdf hdl hcb hsb hh hS hl hs he
  obtain ⟨hx, hb, hr, hml, hown, hlk, hnm, htb⟩ := id hcx
  obtain ⟨tys, Ls, f, hhq⟩ := id hh
  obtain ⟨hKK, hP, hD, -, h14, hinj, hRR⟩ := id hhq
  obtain ⟨L, r, n, rfl, hK, h⟩ := (show ∃ L r n, st = pR (some L) :: r ∧ K L = some (a, n) ∧ Snd l base D d b y (i + 1) ls (pI (I L c) :: r) K I R Q from h9)
  have HC : (dc y i (.getfield z.toNat) 3 && decide (a < 6) && decide (c < nfl a) && (decide (tyc a c = .int) || decide (tyc a c = .boolean)) && isw ((pg_wd y i).getD 0 0) (.fieldLinkNest (pg_own y) z.toNat (clT a c).1 (clT a c).2.1 (clT a c).2.2.1 "KayfabeRing")) = true := HC
  simp only [Bool.and_eq_true, Bool.or_eq_true, decide_eq_true_eq] at HC
  obtain ⟨⟨⟨⟨h0, ha⟩, hc⟩, hty⟩, hw⟩ := HC
  obtain ⟨hd, hn⟩ := dc_at h0
  obtain ⟨r1, rfl, hk2, hs1⟩ := sr_r hs
  obtain ⟨q0, fs, hq0, hfe, hfl, hfs⟩ := hq_obj hhq hK ha
  have hv := hfs c hc
  rw [if_neg (by rcases hty with q | q <;> rw [q] <;> exact Bool.false_ne_true)] at hv
  refine va_getN hx hb (uws_at ha hsf) (fun _ q => q) hown hKK hP q0 hq0 (vw_at a ha) c hc (sfp_word hsf hw) (fun x q => q) hv hd ?_
  rw [← hn]
  exact h p e rm s m args below meth cc H locs cells slots lsA _ am am0 K0 hcx hsf hma hdf hdl hcb hsb hh hS hl ⟨rfl, hs1⟩ he

set_option maxHeartbeats 1000000 in
theorem sd_35 {l : Launch} {base : Nat} {D : va_G} {d b y i : Nat} {ls : List (Option PV)} {st : List PV} {K : KM} {I : IM} {R : RM} {Q : QT} {a c : Nat} {z : Int} (HC : chkB y i 35 a c z (pg_wd y i) = true) (h9 : stB (Snd l base D) 35 a c z d b y i ls st K I R Q) : Snd l base D d b y i ls st K I R Q := by
  intro p e rm s m args below meth cc H locs cells slots lsA stA am am0 K0 hcx hsf hma hdf hdl hcb hsb hh hS hl hs he
  obtain ⟨hx, hb, hr, hml, hown, hlk, hnm, htb⟩ := id hcx
  obtain ⟨tys, Ls, f, hhq⟩ := id hh
  obtain ⟨hKK, hP, hD, -, h14, hinj, hRR⟩ := id hhq
  obtain ⟨x, L, r, n, rfl, hK, h⟩ := (show ∃ x L r n, st = pI x :: pR (some L) :: r ∧ K L = some (a, n) ∧ Snd l base D d b y (i + 1) ls r K (up2 I L c x) R Q from h9)
  have HC : (dc y i (.putfield z.toNat) 3 && decide (a < 6) && decide (c < nfl a) && decide (tyc a c = .int) && decide ((clT a c).2.2.2 = false) && isw ((pg_wd y i).getD 0 0) (.fieldLink (pg_own y) z.toNat (clT a c).1 (clT a c).2.1 (clT a c).2.2.1)) = true := HC
  simp only [Bool.and_eq_true, Bool.or_eq_true, decide_eq_true_eq] at HC
  obtain ⟨⟨⟨⟨⟨h0, ha⟩, hc⟩, hty⟩, hfin⟩, hw⟩ := HC
  obtain ⟨hd, hn⟩ := dc_at h0
  obtain ⟨r1, rfl, hs1⟩ := sr_i hs
  obtain ⟨r2, rfl, hk2, hs2⟩ := sr_r hs1
  obtain ⟨q0, fs, hq0, hfe, hfl, hfs⟩ := hq_obj hhq hK ha
  refine va_put hx hb (uws_at ha hsf) (fun _ q => q) (tyc a) (tyc_at a ha) (nmc_at a ha) hown hKK hP hD hS q0 hq0 (vw_at a ha) c hc (sfp_word hsf hw) (fun x q => q) hfin (tyc_at a ha c hc) (by rw [hty]; rfl) (by rw [hty]; rfl) (by rw [hfl]; exact hc) hd (fun H1 locs1 hP1 hD1 hS1 => ?_)
  rw [← hn]
  refine h p e rm s m args below meth cc H1 locs1 cells slots lsA _ am am0 K0 hcx hsf hma hdf hdl hcb hsb (hp_write hhq hK (by omega) hfe hq0 hP1 hD1 (Or.inl ⟨ha, _, rfl, by rw [List.length_set]; exact hfl, fun j hj => ?_⟩) (fun L2 h2 => ⟨setI_ne h2, rfl⟩) (fun j L2 hj => hRR L j L2 hk2 hj) (bel_of hsf.2.2.2.2.2.2 hS hS1)) hS1 hl hs2 he
  rw [List.getElem?_set]
  by_cases e1 : c = j
  · subst e1
    rw [if_pos rfl, if_pos (by rw [hfl]; exact hc), hty, if_neg (by exact Bool.false_ne_true), up2_at]
    unfold upd
    rw [if_pos rfl]
  · rw [if_neg e1, hfs j hj, up2_at]
    unfold upd
    rw [if_neg (Ne.symm e1)]

set_option maxHeartbeats 1000000 in
theorem sd_50 {l : Launch} {base : Nat} {D : va_G} {d b y i : Nat} {ls : List (Option PV)} {st : List PV} {K : KM} {I : IM} {R : RM} {Q : QT} {a c : Nat} {z : Int} (HC : chkB y i 50 a c z (pg_wd y i) = true) (h9 : stB (Snd l base D) 50 a c z d b y i ls st K I R Q) : Snd l base D d b y i ls st K I R Q := by
  intro p e rm s m args below meth cc H locs cells slots lsA stA am am0 K0 hcx hsf hma hdf hdl hcb hsb hh hS hl hs he
  obtain ⟨hx, hb, hr, hml, hown, hlk, hnm, htb⟩ := id hcx
  obtain ⟨tys, Ls, f, hhq⟩ := id hh
  obtain ⟨hKK, hP, hD, -, h14, hinj, hRR⟩ := id hhq
  obtain ⟨x, L, r, n, rfl, hK, h01, h⟩ := (show ∃ x L r n, st = pI x :: pR (some L) :: r ∧ K L = some (a, n) ∧ (x = 0 ∨ x = 1) ∧ Snd l base D d b y (i + 1) ls r K (up2 I L c x) R Q from h9)
  have HC : (dc y i (.putfield z.toNat) 3 && decide (a < 6) && decide (c < nfl a) && decide (tyc a c = .boolean) && decide ((clT a c).2.2.2 = false) && isw ((pg_wd y i).getD 0 0) (.fieldLink (pg_own y) z.toNat (clT a c).1 (clT a c).2.1 (clT a c).2.2.1)) = true := HC
  simp only [Bool.and_eq_true, Bool.or_eq_true, decide_eq_true_eq] at HC
  obtain ⟨⟨⟨⟨⟨h0, ha⟩, hc⟩, hty⟩, hfin⟩, hw⟩ := HC
  obtain ⟨hd, hn⟩ := dc_at h0
  obtain ⟨r1, rfl, hs1⟩ := sr_i hs
  obtain ⟨r2, rfl, hk2, hs2⟩ := sr_r hs1
  obtain ⟨q0, fs, hq0, hfe, hfl, hfs⟩ := hq_obj hhq hK ha
  refine va_put hx hb (uws_at ha hsf) (fun _ q => q) (tyc a) (tyc_at a ha) (nmc_at a ha) hown hKK hP hD hS q0 hq0 (vw_at a ha) c hc (sfp_word hsf hw) (fun x q => q) hfin (tyc_at a ha c hc) (by rw [hty]; rcases h01 with rfl | rfl <;> rfl) (by rw [hty]; rcases h01 with rfl | rfl <;> rfl) (by rw [hfl]; exact hc) hd (fun H1 locs1 hP1 hD1 hS1 => ?_)
  rw [← hn]
  refine h p e rm s m args below meth cc H1 locs1 cells slots lsA _ am am0 K0 hcx hsf hma hdf hdl hcb hsb (hp_write hhq hK (by omega) hfe hq0 hP1 hD1 (Or.inl ⟨ha, _, rfl, by rw [List.length_set]; exact hfl, fun j hj => ?_⟩) (fun L2 h2 => ⟨setI_ne h2, rfl⟩) (fun j L2 hj => hRR L j L2 hk2 hj) (bel_of hsf.2.2.2.2.2.2 hS hS1)) hS1 hl hs2 he
  rw [List.getElem?_set]
  by_cases e1 : c = j
  · subst e1
    rw [if_pos rfl, if_pos (by rw [hfl]; exact hc), hty, if_neg (by exact Bool.false_ne_true), up2_at]
    unfold upd
    rw [if_pos rfl]
  · rw [if_neg e1, hfs j hj, up2_at]
    unfold upd
    rw [if_neg (Ne.symm e1)]

set_option maxHeartbeats 1000000 in
theorem sd_36 {l : Launch} {base : Nat} {D : va_G} {d b y i : Nat} {ls : List (Option PV)} {st : List PV} {K : KM} {I : IM} {R : RM} {Q : QT} {a c : Nat} {z : Int} (HC : chkB y i 36 a c z (pg_wd y i) = true) (h9 : stB (Snd l base D) 36 a c z d b y i ls st K I R Q) : Snd l base D d b y i ls st K I R Q := by
  intro p e rm s m args below meth cc H locs cells slots lsA stA am am0 K0 hcx hsf hma hdf hdl hcb hsb hh hS hl hs he
  obtain ⟨hx, hb, hr, hml, hown, hlk, hnm, htb⟩ := id hcx
  obtain ⟨tys, Ls, f, hhq⟩ := id hh
  obtain ⟨hKK, hP, hD, -, h14, hinj, hRR⟩ := id hhq
  obtain ⟨q, L, r, n, rfl, hK, h⟩ := (show ∃ q L r n, st = pR (some q) :: pR (some L) :: r ∧ K L = some (a, n) ∧ Snd l base D d b y (i + 1) ls r K I (up2R R L c (some q)) Q from h9)
  have HC : (dc y i (.putfield z.toNat) 3 && decide (a < 6) && decide (c < nfl a) && isRT (tyc a c) && (decide ((clT a c).2.2.2 = false) || (decide ((pg_nm y).name = "<init>") && decide ((clT a c).1 = pg_own y) && decide ((clT a c).2.2.2 = true))) && isw ((pg_wd y i).getD 0 0) (.fieldLink (pg_own y) z.toNat (clT a c).1 (clT a c).2.1 (clT a c).2.2.1)) = true := HC
  simp only [Bool.and_eq_true, Bool.or_eq_true, decide_eq_true_eq] at HC
  obtain ⟨⟨⟨⟨⟨h0, ha⟩, hc⟩, hty⟩, hfin⟩, hw⟩ := HC
  obtain ⟨hd, hn⟩ := dc_at h0
  obtain ⟨r1, rfl, hkk, hs1⟩ := sr_r hs
  obtain ⟨r2, rfl, hk2, hs2⟩ := sr_r hs1
  obtain ⟨q0, fs, hq0, hfe, hfl, hfs⟩ := hq_obj hhq hK ha
  have hna : narrow (tyc a c) (.ref (am q)) = .ref (am q) := by
    revert hty
    generalize tyc a c = t
    intro hty
    cases t <;> first | rfl | cases hty
  have hft : fits (tyc a c) (.ref (am q)) = true := by
    revert hty
    generalize tyc a c = t
    intro hty
    cases t <;> first | rfl | cases hty
  rcases hfin with hfin | ⟨⟨hin, hde⟩, hfin⟩
  · refine va_put hx hb (uws_at ha hsf) (fun _ q => q) (tyc a) (tyc_at a ha) (nmc_at a ha) hown hKK hP hD hS q0 hq0 (vw_at a ha) c hc (sfp_word hsf hw) (fun x q => q) hfin (tyc_at a ha c hc) hna hft (by rw [hfl]; exact hc) hd (fun H1 locs1 hP1 hD1 hS1 => ?_)
    rw [← hn]
    refine h p e rm s m args below meth cc H1 locs1 cells slots lsA _ am am0 K0 hcx hsf hma hdf hdl hcb hsb (hp_write hhq hK (by omega) hfe hq0 hP1 hD1 (Or.inl ⟨ha, _, rfl, by rw [List.length_set]; exact hfl, fun j hj => ?_⟩) (fun L2 h2 => ⟨rfl, setR_ne h2⟩) (fun j L2 hj => ?_) (bel_of hsf.2.2.2.2.2.2 hS hS1)) hS1 hl hs2 he
    · rw [List.getElem?_set]
      by_cases e1 : c = j
      · subst e1
        rw [if_pos rfl, if_pos (by rw [hfl]; exact hc), if_pos hty, up2R_at]
        unfold va_up
        rw [if_pos rfl]
        rfl
      · rw [if_neg e1, hfs j hj, up2R_at]
        unfold va_up
        rw [if_neg (Ne.symm e1)]
    · rw [up2R_at] at hj
      unfold va_up at hj
      split at hj
      · cases hj
        exact hkk
      · exact hRR L j L2 hk2 hj

  · refine va_putF hx hb (uws_at ha hsf) (fun _ q => q) (tyc a) (tyc_at a ha) (nmc_at a ha) hown hKK hP hD hS q0 hq0 (vw_at a ha) c hc (sfp_word hsf hw) (fun x q => q) hfin (hnm.trans hin) hde (tyc_at a ha c hc) hna hft (by rw [hfl]; exact hc) hd (fun H1 locs1 hP1 hD1 hS1 => ?_)
    rw [← hn]
    refine h p e rm s m args below meth cc H1 locs1 cells slots lsA _ am am0 K0 hcx hsf hma hdf hdl hcb hsb (hp_write hhq hK (by omega) hfe hq0 hP1 hD1 (Or.inl ⟨ha, _, rfl, by rw [List.length_set]; exact hfl, fun j hj => ?_⟩) (fun L2 h2 => ⟨rfl, setR_ne h2⟩) (fun j L2 hj => ?_) (bel_of hsf.2.2.2.2.2.2 hS hS1)) hS1 hl hs2 he
    · rw [List.getElem?_set]
      by_cases e1 : c = j
      · subst e1
        rw [if_pos rfl, if_pos (by rw [hfl]; exact hc), if_pos hty, up2R_at]
        unfold va_up
        rw [if_pos rfl]
        rfl
      · rw [if_neg e1, hfs j hj, up2R_at]
        unfold va_up
        rw [if_neg (Ne.symm e1)]
    · rw [up2R_at] at hj
      unfold va_up at hj
      split at hj
      · cases hj
        exact hkk
      · exact hRR L j L2 hk2 hj

