/-! the steps of the pure machine are the machine's -/
theorem sr_i {am : Lb → Nat} {K : KM} {x : Int32} {r : List PV} {c : List Value} (h : sr am K (pI x :: r) c) : ∃ r', c = .int x :: r' ∧ sr am K r r' := by
  cases c with
  | nil => exact h.elim
  | cons v r' => exact ⟨r', by rw [show v = .int x from h.1], h.2⟩
theorem sr_l {am : Lb → Nat} {K : KM} {x : Int32} {r : List PV} {c : List Value} (h : sr am K (pL x :: r) c) : ∃ r', c = .long x.toInt64 :: r' ∧ sr am K r r' := by
  cases c with
  | nil => exact h.elim
  | cons v r' => exact ⟨r', by rw [show v = .long x.toInt64 from h.1], h.2⟩
theorem sr_r {am : Lb → Nat} {K : KM} {L : Lb} {r : List PV} {c : List Value} (h : sr am K (pR (some L) :: r) c) : ∃ r', c = .ref (am L) :: r' ∧ K L ≠ none ∧ sr am K r r' := by
  cases c with
  | nil => exact h.elim
  | cons v r' => exact ⟨r', by rw [h.1.1], h.1.2, h.2⟩
theorem sr_c {am : Lb → Nat} {K : KM} {v : PV} {r : List PV} {c : List Value} (h : sr am K (v :: r) c) : ∃ v' r', c = v' :: r' ∧ vr am K v v' ∧ sr am K r r' := by
  cases c with
  | nil => exact h.elim
  | cons v' r' => exact ⟨v', r', rfl, h.1, h.2⟩
theorem sr_nil {am : Lb → Nat} {K : KM} {c : List Value} (h : sr am K [] c) : c = [] := by
  cases c with
  | nil => rfl
  | cons v r => exact h.elim
theorem vr_q {am : Lb → Nat} {K : KM} {r : Option Lb} {v : Value} (h : vr am K (pR r) v) : v = va_rf (r.map am) := by
  cases r with
  | none => exact h
  | some L => exact h.1
theorem qv_r {am : Lb → Nat} {K : KM} {r : Option Lb} (h : ∀ L, r = some L → K L ≠ none) : vr am K (pR r) (va_rf (r.map am)) := by
  cases r with
  | none => rfl
  | some L => exact ⟨rfl, h L rfl⟩

set_option maxHeartbeats 1000000 in
theorem sd_0 {l : Launch} {base : Nat} {D : va_G} {d b y i : Nat} {ls : List (Option PV)} {st : List PV} {K : KM} {I : IM} {R : RM} {Q : QT} {a c : Nat} {z : Int} (HC : chkB y i 0 a c z (pg_wd y i) = true) (h9 : stA (Snd l base D) 0 a c z d b y i ls st K I R Q) : Snd l base D d b y i ls st K I R Q := by
  intro p e rm s m args below meth cc H locs cells slots lsA stA am am0 K0 hcx hsf hma hdf hdl hcb hsb hh hS hl hs he
  obtain ⟨hx, hb, hr, hml, hown, hlk, hnm, htb⟩ := id hcx
  have h : Snd l base D d b y (i + 1) ls (pI (Int32.ofInt z) :: st) K I R Q := h9
  have HC : (dc y i (.iconst z) 1 || (dc y i (.bipush z) 2 && decide ((Int8.ofInt z).toInt32 = Int32.ofInt z)) || (dc y i (.sipush z) 3 && decide ((Int16.ofInt z).toInt32 = Int32.ofInt z)) || (dc y i (.ldc c) 2 && isw ((pg_wd y i).getD 0 0) (.constant (pg_own y) c (Int32.ofInt z)))) = true := HC
  rw [Bool.or_eq_true, Bool.or_eq_true, Bool.or_eq_true, Bool.and_eq_true, Bool.and_eq_true, Bool.and_eq_true, decide_eq_true_eq, decide_eq_true_eq] at HC
  have hs' : sr am K (pI (Int32.ofInt z) :: st) (.int (Int32.ofInt z) :: stA) := ⟨rfl, hs⟩
  rcases HC with ((h0 | ⟨h0, h1⟩) | ⟨h0, h1⟩) | ⟨h0, h1⟩
  · obtain ⟨hd, hn⟩ := dc_at h0
    refine lv_iconst hx hb hd rfl ?_
    rw [← hn]
    exact h p e rm s m args below meth cc H locs cells slots lsA _ am am0 K0 hcx hsf hma hdf hdl hcb hsb hh hS hl hs' he
  · obtain ⟨hd, hn⟩ := dc_at h0
    refine lv_bipush hx hb hd h1 ?_
    rw [← hn]
    exact h p e rm s m args below meth cc H locs cells slots lsA _ am am0 K0 hcx hsf hma hdf hdl hcb hsb hh hS hl hs' he
  · obtain ⟨hd, hn⟩ := dc_at h0
    refine lv_sipush hx hb hd h1 ?_
    rw [← hn]
    exact h p e rm s m args below meth cc H locs cells slots lsA _ am am0 K0 hcx hsf hma hdf hdl hcb hsb hh hS hl hs' he
  · obtain ⟨hd, hn⟩ := dc_at h0
    refine W.ldc (v := Int32.ofInt z) hx hb hown (sfp_word hsf h1) rfl hd ?_
    show W p l e rm s m args below meth cc H locs cells slots _ (F0 m (pg_pc y i + 2) lsA (.int (Int32.ofInt z) :: stA))
    rw [← hn]
    exact h p e rm s m args below meth cc H locs cells slots lsA _ am am0 K0 hcx hsf hma hdf hdl hcb hsb hh hS hl hs' he

set_option maxHeartbeats 1000000 in
theorem sd_1 {l : Launch} {base : Nat} {D : va_G} {d b y i : Nat} {ls : List (Option PV)} {st : List PV} {K : KM} {I : IM} {R : RM} {Q : QT} {a c : Nat} {z : Int} (HC : chkB y i 1 a c z (pg_wd y i) = true) (h9 : stA (Snd l base D) 1 a c z d b y i ls st K I R Q) : Snd l base D d b y i ls st K I R Q := by
  intro p e rm s m args below meth cc H locs cells slots lsA stA am am0 K0 hcx hsf hma hdf hdl hcb hsb hh hS hl hs he
  obtain ⟨hx, hb, hr, hml, hown, hlk, hnm, htb⟩ := id hcx
  obtain ⟨x, hx1, h⟩ := (show ∃ x, ls[a]? = some (some (pI x)) ∧ Snd l base D d b y (i + 1) ls (pI x :: st) K I R Q from h9)
  have HC : (dc y i (.iload a) 2 || (decide (a < 4) && dc y i (.iload_n (fF a)) 1)) = true := HC
  rw [Bool.or_eq_true, Bool.and_eq_true, decide_eq_true_eq] at HC
  obtain ⟨v', hv1, hv2⟩ := lr_get hl hx1
  have hs' : sr am K (pI x :: st) (v' :: stA) := ⟨hv2, hs⟩
  obtain rfl := (show v' = .int x from hv2)
  rcases HC with h0 | ⟨h1, h0⟩
  · obtain ⟨hd, hn⟩ := dc_at h0
    refine lv_iload hx hb hd hv1 ?_
    rw [← hn]
    exact h p e rm s m args below meth cc H locs cells slots lsA _ am am0 K0 hcx hsf hma hdf hdl hcb hsb hh hS hl hs' he
  · obtain ⟨hd, hn⟩ := dc_at h0
    refine lv_iload_n (i := a) hx hb hd (by rw [fF, dif_pos h1]) hv1 ?_
    rw [← hn]
    exact h p e rm s m args below meth cc H locs cells slots lsA _ am am0 K0 hcx hsf hma hdf hdl hcb hsb hh hS hl hs' he

set_option maxHeartbeats 1000000 in
theorem sd_3 {l : Launch} {base : Nat} {D : va_G} {d b y i : Nat} {ls : List (Option PV)} {st : List PV} {K : KM} {I : IM} {R : RM} {Q : QT} {a c : Nat} {z : Int} (HC : chkB y i 3 a c z (pg_wd y i) = true) (h9 : stA (Snd l base D) 3 a c z d b y i ls st K I R Q) : Snd l base D d b y i ls st K I R Q := by
  intro p e rm s m args below meth cc H locs cells slots lsA stA am am0 K0 hcx hsf hma hdf hdl hcb hsb hh hS hl hs he
  obtain ⟨hx, hb, hr, hml, hown, hlk, hnm, htb⟩ := id hcx
  obtain ⟨x, hx1, h⟩ := (show ∃ x, ls[a]? = some (some (pR (some x))) ∧ Snd l base D d b y (i + 1) ls (pR (some x) :: st) K I R Q from h9)
  have HC : (dc y i (.aload a) 2 || (decide (a < 4) && dc y i (.aload_n (fF a)) 1)) = true := HC
  rw [Bool.or_eq_true, Bool.and_eq_true, decide_eq_true_eq] at HC
  obtain ⟨v', hv1, hv2⟩ := lr_get hl hx1
  have hs' : sr am K (pR (some x) :: st) (v' :: stA) := ⟨hv2, hs⟩
  obtain ⟨rfl, hkx⟩ := hv2
  rcases HC with h0 | ⟨h1, h0⟩
  · obtain ⟨hd, hn⟩ := dc_at h0
    refine lv_aload hx hb hd hv1 ?_
    rw [← hn]
    exact h p e rm s m args below meth cc H locs cells slots lsA _ am am0 K0 hcx hsf hma hdf hdl hcb hsb hh hS hl hs' he
  · obtain ⟨hd, hn⟩ := dc_at h0
    refine lv_aload_n (i := a) hx hb hd (by rw [fF, dif_pos h1]) hv1 ?_
    rw [← hn]
    exact h p e rm s m args below meth cc H locs cells slots lsA _ am am0 K0 hcx hsf hma hdf hdl hcb hsb hh hS hl hs' he

set_option maxHeartbeats 1000000 in
theorem sd_2 {l : Launch} {base : Nat} {D : va_G} {d b y i : Nat} {ls : List (Option PV)} {st : List PV} {K : KM} {I : IM} {R : RM} {Q : QT} {a c : Nat} {z : Int} (HC : chkB y i 2 a c z (pg_wd y i) = true) (h9 : stA (Snd l base D) 2 a c z d b y i ls st K I R Q) : Snd l base D d b y i ls st K I R Q := by
  intro p e rm s m args below meth cc H locs cells slots lsA stA am am0 K0 hcx hsf hma hdf hdl hcb hsb hh hS hl hs he
  obtain ⟨hx, hb, hr, hml, hown, hlk, hnm, htb⟩ := id hcx
  obtain ⟨x, r, rfl, ha, h⟩ := (show ∃ x r, st = pI x :: r ∧ a < ls.length ∧ Snd l base D d b y (i + 1) (ls.set a (some (pI x))) r K I R Q from h9)
  obtain ⟨rA, rfl, hs2⟩ := sr_i hs
  have HC : (dc y i (.istore a) 2 || (decide (a < 4) && dc y i (.istore_n (fF a)) 1)) = true := HC
  rw [Bool.or_eq_true, Bool.and_eq_true, decide_eq_true_eq] at HC
  obtain ⟨hlen, lv, hlv, hlr⟩ := id hl
  rcases HC with h0 | ⟨h1, h0⟩
  · obtain ⟨hd, hn⟩ := dc_at h0
    refine lv_istore hx hb hd hlv (by rw [← hlen]; exact ha) rfl (fun lsB hB => ?_)
    rw [← hn]
    exact h p e rm s m args below meth cc H locs cells slots lsB _ am am0 K0 hcx hsf hma hdf hdl hcb hsb hh hS (lr_set hlen hlr rfl rfl hB) hs2 he
  · obtain ⟨hd, hn⟩ := dc_at h0
    refine lv_istore_n (i := a) hx hb hd (by rw [fF, dif_pos h1]) hlv (by rw [← hlen]; exact ha) rfl (fun lsB hB => ?_)
    rw [← hn]
    exact h p e rm s m args below meth cc H locs cells slots lsB _ am am0 K0 hcx hsf hma hdf hdl hcb hsb hh hS (lr_set hlen hlr rfl rfl hB) hs2 he

set_option maxHeartbeats 1000000 in
theorem sd_4 {l : Launch} {base : Nat} {D : va_G} {d b y i : Nat} {ls : List (Option PV)} {st : List PV} {K : KM} {I : IM} {R : RM} {Q : QT} {a c : Nat} {z : Int} (HC : chkB y i 4 a c z (pg_wd y i) = true) (h9 : stA (Snd l base D) 4 a c z d b y i ls st K I R Q) : Snd l base D d b y i ls st K I R Q := by
  intro p e rm s m args below meth cc H locs cells slots lsA stA am am0 K0 hcx hsf hma hdf hdl hcb hsb hh hS hl hs he
  obtain ⟨hx, hb, hr, hml, hown, hlk, hnm, htb⟩ := id hcx
  obtain ⟨v, r, rfl, hvv, ha, h⟩ := (show ∃ v r, st = v :: r ∧ (v = pO ∨ ∃ L, v = pR (some L)) ∧ a < ls.length ∧ Snd l base D d b y (i + 1) (ls.set a (some v)) r K I R Q from h9)
  obtain ⟨v', rA, rfl, hvr, hs2⟩ := sr_c hs
  obtain ⟨q, rfl⟩ : ∃ q, v' = .ref q := by
    rcases hvv with rfl | ⟨L, rfl⟩
    · exact hvr
    · exact ⟨am L, hvr.1⟩
  have HC : (dc y i (.astore a) 2 || (decide (a < 4) && dc y i (.astore_n (fF a)) 1)) = true := HC
  rw [Bool.or_eq_true, Bool.and_eq_true, decide_eq_true_eq] at HC
  obtain ⟨hlen, lv, hlv, hlr⟩ := id hl
  rcases HC with h0 | ⟨h1, h0⟩
  · obtain ⟨hd, hn⟩ := dc_at h0
    refine lv_astore hx hb hd hlv (by rw [← hlen]; exact ha) rfl (fun lsB hB => ?_)
    rw [← hn]
    exact h p e rm s m args below meth cc H locs cells slots lsB _ am am0 K0 hcx hsf hma hdf hdl hcb hsb hh hS (lr_set hlen hlr hvr rfl hB) hs2 he
  · obtain ⟨hd, hn⟩ := dc_at h0
    refine lv_astore_n (i := a) hx hb hd (by rw [fF, dif_pos h1]) hlv (by rw [← hlen]; exact ha) rfl (fun lsB hB => ?_)
    rw [← hn]
    exact h p e rm s m args below meth cc H locs cells slots lsB _ am am0 K0 hcx hsf hma hdf hdl hcb hsb hh hS (lr_set hlen hlr hvr rfl hB) hs2 he

set_option maxHeartbeats 1000000 in
theorem sd_5 {l : Launch} {base : Nat} {D : va_G} {d b y i : Nat} {ls : List (Option PV)} {st : List PV} {K : KM} {I : IM} {R : RM} {Q : QT} {a c : Nat} {z : Int} (HC : chkB y i 5 a c z (pg_wd y i) = true) (h9 : stA (Snd l base D) 5 a c z d b y i ls st K I R Q) : Snd l base D d b y i ls st K I R Q := by
  intro p e rm s m args below meth cc H locs cells slots lsA stA am am0 K0 hcx hsf hma hdf hdl hcb hsb hh hS hl hs he
  obtain ⟨hx, hb, hr, hml, hown, hlk, hnm, htb⟩ := id hcx
  obtain ⟨x, hx1, h⟩ := (show ∃ x, ls[a]? = some (some (pI x)) ∧ Snd l base D d b y (i + 1) (ls.set a (some (pI (x + Int32.ofInt z)))) st K I R Q from h9)
  obtain ⟨hd, hn⟩ := dc_at (show dc y i (.iinc a z) 3 = true from HC)
  obtain ⟨hlen, lv, hlv, hlr⟩ := id hl
  obtain ⟨v', hm, hv2, -⟩ := hlr a _ hx1
  obtain rfl := (show v' = .int x from hv2)
  obtain ⟨k, hk⟩ := List.mem_iff_getElem?.mp hm
  have ha : a < ls.length := (List.getElem?_eq_some_iff.mp hx1).1
  refine lv_iinc hx hb hd hlv hk rfl (by rw [← hlen]; exact ha) rfl (fun lsB hB => ?_)
  rw [← hn]
  exact h p e rm s m args below meth cc H locs cells slots lsB _ am am0 K0 hcx hsf hma hdf hdl hcb hsb hh hS (lr_set hlen hlr rfl rfl hB) hs he

set_option maxHeartbeats 1000000 in
theorem sd_6 {l : Launch} {base : Nat} {D : va_G} {d b y i : Nat} {ls : List (Option PV)} {st : List PV} {K : KM} {I : IM} {R : RM} {Q : QT} {a c : Nat} {z : Int} (HC : chkB y i 6 a c z (pg_wd y i) = true) (h9 : stA (Snd l base D) 6 a c z d b y i ls st K I R Q) : Snd l base D d b y i ls st K I R Q := by
  intro p e rm s m args below meth cc H locs cells slots lsA stA am am0 K0 hcx hsf hma hdf hdl hcb hsb hh hS hl hs he
  obtain ⟨hx, hb, hr, hml, hown, hlk, hnm, htb⟩ := id hcx
  obtain ⟨u, v, r, rfl, h⟩ := (show ∃ u v r, st = pI v :: pI u :: r ∧ Snd l base D d b y (i + 1) ls (pI (u + v) :: r) K I R Q from h9)
  obtain ⟨hd, hn⟩ := dc_at (show dc y i .iadd 1 = true from HC)
  obtain ⟨r1, rfl, hs1⟩ := sr_i hs
  obtain ⟨r2, rfl, hs2⟩ := sr_i hs1
  refine lv_iadd hx hb hd ?_
  rw [← hn]
  exact h p e rm s m args below meth cc H locs cells slots lsA _ am am0 K0 hcx hsf hma hdf hdl hcb hsb hh hS hl ⟨rfl, hs2⟩ he

set_option maxHeartbeats 1000000 in
theorem sd_7 {l : Launch} {base : Nat} {D : va_G} {d b y i : Nat} {ls : List (Option PV)} {st : List PV} {K : KM} {I : IM} {R : RM} {Q : QT} {a c : Nat} {z : Int} (HC : chkB y i 7 a c z (pg_wd y i) = true) (h9 : stA (Snd l base D) 7 a c z d b y i ls st K I R Q) : Snd l base D d b y i ls st K I R Q := by
  intro p e rm s m args below meth cc H locs cells slots lsA stA am am0 K0 hcx hsf hma hdf hdl hcb hsb hh hS hl hs he
  obtain ⟨hx, hb, hr, hml, hown, hlk, hnm, htb⟩ := id hcx
  obtain ⟨u, v, r, rfl, h⟩ := (show ∃ u v r, st = pI v :: pI u :: r ∧ Snd l base D d b y (i + 1) ls (pI (u - v) :: r) K I R Q from h9)
  obtain ⟨hd, hn⟩ := dc_at (show dc y i .isub 1 = true from HC)
  obtain ⟨r1, rfl, hs1⟩ := sr_i hs
  obtain ⟨r2, rfl, hs2⟩ := sr_i hs1
  refine lv_isub hx hb hd ?_
  rw [← hn]
  exact h p e rm s m args below meth cc H locs cells slots lsA _ am am0 K0 hcx hsf hma hdf hdl hcb hsb hh hS hl ⟨rfl, hs2⟩ he

set_option maxHeartbeats 1000000 in
theorem sd_8 {l : Launch} {base : Nat} {D : va_G} {d b y i : Nat} {ls : List (Option PV)} {st : List PV} {K : KM} {I : IM} {R : RM} {Q : QT} {a c : Nat} {z : Int} (HC : chkB y i 8 a c z (pg_wd y i) = true) (h9 : stA (Snd l base D) 8 a c z d b y i ls st K I R Q) : Snd l base D d b y i ls st K I R Q := by
  intro p e rm s m args below meth cc H locs cells slots lsA stA am am0 K0 hcx hsf hma hdf hdl hcb hsb hh hS hl hs he
  obtain ⟨hx, hb, hr, hml, hown, hlk, hnm, htb⟩ := id hcx
  obtain ⟨u, v, r, rfl, h⟩ := (show ∃ u v r, st = pI v :: pI u :: r ∧ Snd l base D d b y (i + 1) ls (pI (u * v) :: r) K I R Q from h9)
  obtain ⟨hd, hn⟩ := dc_at (show dc y i .imul 1 = true from HC)
  obtain ⟨r1, rfl, hs1⟩ := sr_i hs
  obtain ⟨r2, rfl, hs2⟩ := sr_i hs1
  refine lv_imul hx hb hd ?_
  rw [← hn]
  exact h p e rm s m args below meth cc H locs cells slots lsA _ am am0 K0 hcx hsf hma hdf hdl hcb hsb hh hS hl ⟨rfl, hs2⟩ he

set_option maxHeartbeats 1000000 in
theorem sd_9 {l : Launch} {base : Nat} {D : va_G} {d b y i : Nat} {ls : List (Option PV)} {st : List PV} {K : KM} {I : IM} {R : RM} {Q : QT} {a c : Nat} {z : Int} (HC : chkB y i 9 a c z (pg_wd y i) = true) (h9 : stA (Snd l base D) 9 a c z d b y i ls st K I R Q) : Snd l base D d b y i ls st K I R Q := by
  intro p e rm s m args below meth cc H locs cells slots lsA stA am am0 K0 hcx hsf hma hdf hdl hcb hsb hh hS hl hs he
  obtain ⟨hx, hb, hr, hml, hown, hlk, hnm, htb⟩ := id hcx
  obtain ⟨u, v, r, rfl, hne, h⟩ := (show ∃ u v r, st = pI v :: pI u :: r ∧ ¬ v = 0 ∧ Snd l base D d b y (i + 1) ls (pI (u / v) :: r) K I R Q from h9)
  obtain ⟨hd, hn⟩ := dc_at (show dc y i .idiv 1 = true from HC)
  obtain ⟨r1, rfl, hs1⟩ := sr_i hs
  obtain ⟨r2, rfl, hs2⟩ := sr_i hs1
  refine lv_idiv hx hb hd hne ?_
  rw [← hn]
  exact h p e rm s m args below meth cc H locs cells slots lsA _ am am0 K0 hcx hsf hma hdf hdl hcb hsb hh hS hl ⟨rfl, hs2⟩ he

set_option maxHeartbeats 1000000 in
theorem sd_10 {l : Launch} {base : Nat} {D : va_G} {d b y i : Nat} {ls : List (Option PV)} {st : List PV} {K : KM} {I : IM} {R : RM} {Q : QT} {a c : Nat} {z : Int} (HC : chkB y i 10 a c z (pg_wd y i) = true) (h9 : stA (Snd l base D) 10 a c z d b y i ls st K I R Q) : Snd l base D d b y i ls st K I R Q := by
  intro p e rm s m args below meth cc H locs cells slots lsA stA am am0 K0 hcx hsf hma hdf hdl hcb hsb hh hS hl hs he
  obtain ⟨hx, hb, hr, hml, hown, hlk, hnm, htb⟩ := id hcx
  obtain ⟨u, v, r, rfl, hne, h⟩ := (show ∃ u v r, st = pI v :: pI u :: r ∧ ¬ v = 0 ∧ Snd l base D d b y (i + 1) ls (pI (u - u / v * v) :: r) K I R Q from h9)
  obtain ⟨hd, hn⟩ := dc_at (show dc y i .irem 1 = true from HC)
  obtain ⟨r1, rfl, hs1⟩ := sr_i hs
  obtain ⟨r2, rfl, hs2⟩ := sr_i hs1
  refine lv_irem hx hb hd hne ?_
  rw [← hn]
  exact h p e rm s m args below meth cc H locs cells slots lsA _ am am0 K0 hcx hsf hma hdf hdl hcb hsb hh hS hl ⟨rfl, hs2⟩ he

set_option maxHeartbeats 1000000 in
theorem sd_12 {l : Launch} {base : Nat} {D : va_G} {d b y i : Nat} {ls : List (Option PV)} {st : List PV} {K : KM} {I : IM} {R : RM} {Q : QT} {a c : Nat} {z : Int} (HC : chkB y i 12 a c z (pg_wd y i) = true) (h9 : stA (Snd l base D) 12 a c z d b y i ls st K I R Q) : Snd l base D d b y i ls st K I R Q := by
  intro p e rm s m args below meth cc H locs cells slots lsA stA am am0 K0 hcx hsf hma hdf hdl hcb hsb hh hS hl hs he
  obtain ⟨hx, hb, hr, hml, hown, hlk, hnm, htb⟩ := id hcx
  obtain ⟨u, v, r, rfl, h⟩ := (show ∃ u v r, st = pI v :: pI u :: r ∧ Snd l base D d b y (i + 1) ls (pI (u &&& v) :: r) K I R Q from h9)
  obtain ⟨hd, hn⟩ := dc_at (show dc y i .iand 1 = true from HC)
  obtain ⟨r1, rfl, hs1⟩ := sr_i hs
  obtain ⟨r2, rfl, hs2⟩ := sr_i hs1
  refine lv_iand hx hb hd ?_
  rw [← hn]
  exact h p e rm s m args below meth cc H locs cells slots lsA _ am am0 K0 hcx hsf hma hdf hdl hcb hsb hh hS hl ⟨rfl, hs2⟩ he

set_option maxHeartbeats 1000000 in
theorem sd_54 {l : Launch} {base : Nat} {D : va_G} {d b y i : Nat} {ls : List (Option PV)} {st : List PV} {K : KM} {I : IM} {R : RM} {Q : QT} {a c : Nat} {z : Int} (HC : chkB y i 54 a c z (pg_wd y i) = true) (h9 : stA (Snd l base D) 54 a c z d b y i ls st K I R Q) : Snd l base D d b y i ls st K I R Q := by
  intro p e rm s m args below meth cc H locs cells slots lsA stA am am0 K0 hcx hsf hma hdf hdl hcb hsb hh hS hl hs he
  obtain ⟨hx, hb, hr, hml, hown, hlk, hnm, htb⟩ := id hcx
  obtain ⟨u, v, r, rfl, h⟩ := (show ∃ u v r, st = pI v :: pI u :: r ∧ Snd l base D d b y (i + 1) ls (pI (u ||| v) :: r) K I R Q from h9)
  obtain ⟨hd, hn⟩ := dc_at (show dc y i .ior 1 = true from HC)
  obtain ⟨r1, rfl, hs1⟩ := sr_i hs
  obtain ⟨r2, rfl, hs2⟩ := sr_i hs1
  refine lv_ior hx hb hd ?_
  rw [← hn]
  exact h p e rm s m args below meth cc H locs cells slots lsA _ am am0 K0 hcx hsf hma hdf hdl hcb hsb hh hS hl ⟨rfl, hs2⟩ he

set_option maxHeartbeats 1000000 in
theorem sd_55 {l : Launch} {base : Nat} {D : va_G} {d b y i : Nat} {ls : List (Option PV)} {st : List PV} {K : KM} {I : IM} {R : RM} {Q : QT} {a c : Nat} {z : Int} (HC : chkB y i 55 a c z (pg_wd y i) = true) (h9 : stA (Snd l base D) 55 a c z d b y i ls st K I R Q) : Snd l base D d b y i ls st K I R Q := by
  intro p e rm s m args below meth cc H locs cells slots lsA stA am am0 K0 hcx hsf hma hdf hdl hcb hsb hh hS hl hs he
  obtain ⟨hx, hb, hr, hml, hown, hlk, hnm, htb⟩ := id hcx
  obtain ⟨u, v, r, rfl, h⟩ := (show ∃ u v r, st = pI v :: pI u :: r ∧ Snd l base D d b y (i + 1) ls (pI (u ^^^ v) :: r) K I R Q from h9)
  obtain ⟨hd, hn⟩ := dc_at (show dc y i .ixor 1 = true from HC)
  obtain ⟨r1, rfl, hs1⟩ := sr_i hs
  obtain ⟨r2, rfl, hs2⟩ := sr_i hs1
  refine lv_ixor hx hb hd ?_
  rw [← hn]
  exact h p e rm s m args below meth cc H locs cells slots lsA _ am am0 K0 hcx hsf hma hdf hdl hcb hsb hh hS hl ⟨rfl, hs2⟩ he

set_option maxHeartbeats 1000000 in
theorem sd_56 {l : Launch} {base : Nat} {D : va_G} {d b y i : Nat} {ls : List (Option PV)} {st : List PV} {K : KM} {I : IM} {R : RM} {Q : QT} {a c : Nat} {z : Int} (HC : chkB y i 56 a c z (pg_wd y i) = true) (h9 : stA (Snd l base D) 56 a c z d b y i ls st K I R Q) : Snd l base D d b y i ls st K I R Q := by
  intro p e rm s m args below meth cc H locs cells slots lsA stA am am0 K0 hcx hsf hma hdf hdl hcb hsb hh hS hl hs he
  obtain ⟨hx, hb, hr, hml, hown, hlk, hnm, htb⟩ := id hcx
  obtain ⟨u, v, r, rfl, h⟩ := (show ∃ u v r, st = pI v :: pI u :: r ∧ Snd l base D d b y (i + 1) ls (pI (u <<< (v &&& 31)) :: r) K I R Q from h9)
  obtain ⟨hd, hn⟩ := dc_at (show dc y i .ishl 1 = true from HC)
  obtain ⟨r1, rfl, hs1⟩ := sr_i hs
  obtain ⟨r2, rfl, hs2⟩ := sr_i hs1
  refine lv_ishl hx hb hd ?_
  rw [← hn]
  exact h p e rm s m args below meth cc H locs cells slots lsA _ am am0 K0 hcx hsf hma hdf hdl hcb hsb hh hS hl ⟨rfl, hs2⟩ he

set_option maxHeartbeats 1000000 in
theorem sd_57 {l : Launch} {base : Nat} {D : va_G} {d b y i : Nat} {ls : List (Option PV)} {st : List PV} {K : KM} {I : IM} {R : RM} {Q : QT} {a c : Nat} {z : Int} (HC : chkB y i 57 a c z (pg_wd y i) = true) (h9 : stA (Snd l base D) 57 a c z d b y i ls st K I R Q) : Snd l base D d b y i ls st K I R Q := by
  intro p e rm s m args below meth cc H locs cells slots lsA stA am am0 K0 hcx hsf hma hdf hdl hcb hsb hh hS hl hs he
  obtain ⟨hx, hb, hr, hml, hown, hlk, hnm, htb⟩ := id hcx
  obtain ⟨u, v, r, rfl, h⟩ := (show ∃ u v r, st = pI v :: pI u :: r ∧ Snd l base D d b y (i + 1) ls (pI (u >>> (v &&& 31)) :: r) K I R Q from h9)
  obtain ⟨hd, hn⟩ := dc_at (show dc y i .ishr 1 = true from HC)
  obtain ⟨r1, rfl, hs1⟩ := sr_i hs
  obtain ⟨r2, rfl, hs2⟩ := sr_i hs1
  refine lv_ishr hx hb hd ?_
  rw [← hn]
  exact h p e rm s m args below meth cc H locs cells slots lsA _ am am0 K0 hcx hsf hma hdf hdl hcb hsb hh hS hl ⟨rfl, hs2⟩ he

set_option maxHeartbeats 1000000 in
theorem sd_11 {l : Launch} {base : Nat} {D : va_G} {d b y i : Nat} {ls : List (Option PV)} {st : List PV} {K : KM} {I : IM} {R : RM} {Q : QT} {a c : Nat} {z : Int} (HC : chkB y i 11 a c z (pg_wd y i) = true) (h9 : stA (Snd l base D) 11 a c z d b y i ls st K I R Q) : Snd l base D d b y i ls st K I R Q := by
  intro p e rm s m args below meth cc H locs cells slots lsA stA am am0 K0 hcx hsf hma hdf hdl hcb hsb hh hS hl hs he
  obtain ⟨hx, hb, hr, hml, hown, hlk, hnm, htb⟩ := id hcx
  obtain ⟨u, r, rfl, h⟩ := (show ∃ u r, st = pI u :: r ∧ Snd l base D d b y (i + 1) ls (pI (-u) :: r) K I R Q from h9)
  obtain ⟨hd, hn⟩ := dc_at (show dc y i .ineg 1 = true from HC)
  obtain ⟨r1, rfl, hs1⟩ := sr_i hs
  refine lv_ineg hx hb hd ?_
  rw [← hn]
  exact h p e rm s m args below meth cc H locs cells slots lsA _ am am0 K0 hcx hsf hma hdf hdl hcb hsb hh hS hl ⟨rfl, hs1⟩ he

set_option maxHeartbeats 1000000 in
theorem sd_13 {l : Launch} {base : Nat} {D : va_G} {d b y i : Nat} {ls : List (Option PV)} {st : List PV} {K : KM} {I : IM} {R : RM} {Q : QT} {a c : Nat} {z : Int} (HC : chkB y i 13 a c z (pg_wd y i) = true) (h9 : stA (Snd l base D) 13 a c z d b y i ls st K I R Q) : Snd l base D d b y i ls st K I R Q := by
  intro p e rm s m args below meth cc H locs cells slots lsA stA am am0 K0 hcx hsf hma hdf hdl hcb hsb hh hS hl hs he
  obtain ⟨hx, hb, hr, hml, hown, hlk, hnm, htb⟩ := id hcx
  obtain ⟨v, r, rfl, hc, h⟩ := (show ∃ v r, st = v :: r ∧ isC1 v ∧ Snd l base D d b y (i + 1) ls (v :: v :: r) K I R Q from h9)
  obtain ⟨hd, hn⟩ := dc_at (show dc y i .dup 1 = true from HC)
  obtain ⟨v', r1, rfl, hv, hs1⟩ := sr_c hs
  refine lv_dup hx hb hd (vr_c1 hv hc) ?_
  rw [← hn]
  exact h p e rm s m args below meth cc H locs cells slots lsA _ am am0 K0 hcx hsf hma hdf hdl hcb hsb hh hS hl ⟨hv, hv, hs1⟩ he

set_option maxHeartbeats 1000000 in
theorem sd_14 {l : Launch} {base : Nat} {D : va_G} {d b y i : Nat} {ls : List (Option PV)} {st : List PV} {K : KM} {I : IM} {R : RM} {Q : QT} {a c : Nat} {z : Int} (HC : chkB y i 14 a c z (pg_wd y i) = true) (h9 : stA (Snd l base D) 14 a c z d b y i ls st K I R Q) : Snd l base D d b y i ls st K I R Q := by
  intro p e rm s m args below meth cc H locs cells slots lsA stA am am0 K0 hcx hsf hma hdf hdl hcb hsb hh hS hl hs he
  obtain ⟨hx, hb, hr, hml, hown, hlk, hnm, htb⟩ := id hcx
  obtain ⟨v, w, r, rfl, hc, hc2, h⟩ := (show ∃ v w r, st = v :: w :: r ∧ isC1 v ∧ isC1 w ∧ Snd l base D d b y (i + 1) ls (v :: w :: v :: w :: r) K I R Q from h9)
  obtain ⟨hd, hn⟩ := dc_at (show dc y i .dup2 1 = true from HC)
  obtain ⟨v', r1, rfl, hv, hs1⟩ := sr_c hs
  obtain ⟨w', r2, rfl, hw, hs2⟩ := sr_c hs1
  refine lv_dup2_11 hx hb hd (by first | exact vr_c1 hv hc | exact vr_c1 hw hc2) (by first | exact vr_c1 hw hc2 | exact vr_c1 hv hc) ?_
  rw [← hn]
  exact h p e rm s m args below meth cc H locs cells slots lsA _ am am0 K0 hcx hsf hma hdf hdl hcb hsb hh hS hl ⟨hv, hw, hv, hw, hs2⟩ he

set_option maxHeartbeats 1000000 in
theorem sd_15 {l : Launch} {base : Nat} {D : va_G} {d b y i : Nat} {ls : List (Option PV)} {st : List PV} {K : KM} {I : IM} {R : RM} {Q : QT} {a c : Nat} {z : Int} (HC : chkB y i 15 a c z (pg_wd y i) = true) (h9 : stA (Snd l base D) 15 a c z d b y i ls st K I R Q) : Snd l base D d b y i ls st K I R Q := by
  intro p e rm s m args below meth cc H locs cells slots lsA stA am am0 K0 hcx hsf hma hdf hdl hcb hsb hh hS hl hs he
  obtain ⟨hx, hb, hr, hml, hown, hlk, hnm, htb⟩ := id hcx
  obtain ⟨v, r, rfl, hc, h⟩ := (show ∃ v r, st = v :: r ∧ isC1 v ∧ Snd l base D d b y (i + 1) ls r K I R Q from h9)
  obtain ⟨hd, hn⟩ := dc_at (show dc y i .pop 1 = true from HC)
  obtain ⟨v', r1, rfl, hv, hs1⟩ := sr_c hs
  refine lv_pop hx hb hd (vr_c1 hv hc) ?_
  rw [← hn]
  exact h p e rm s m args below meth cc H locs cells slots lsA _ am am0 K0 hcx hsf hma hdf hdl hcb hsb hh hS hl hs1 he

theorem off_eq {y i t : Nat} : ((pg_pc y i : Nat) : Int) + pg_off y i t = ((pg_pc y t : Nat) : Int) := by
  unfold pg_off
  omega

set_option maxHeartbeats 1000000 in
theorem sd_16 {l : Launch} {base : Nat} {D : va_G} {d b y i : Nat} {ls : List (Option PV)} {st : List PV} {K : KM} {I : IM} {R : RM} {Q : QT} {a c : Nat} {z : Int} (HC : chkB y i 16 a c z (pg_wd y i) = true) (h9 : stA (Snd l base D) 16 a c z d b y i ls st K I R Q) : Snd l base D d b y i ls st K I R Q := by
  intro p e rm s m args below meth cc H locs cells slots lsA stA am am0 K0 hcx hsf hma hdf hdl hcb hsb hh hS hl hs he
  obtain ⟨hx, hb, hr, hml, hown, hlk, hnm, htb⟩ := id hcx
  have hd : decode (pg_by y) (pg_pc y i) = .ok (.goto (pg_off y i a), 3) := of_decide_eq_true (show decide _ = true from HC)
  refine lv_goto hx hb hd off_eq ?_
  exact (show Snd l base D d b y a ls st K I R Q from h9) p e rm s m args below meth cc H locs cells slots lsA _ am am0 K0 hcx hsf hma hdf hdl hcb hsb hh hS hl hs he

set_option maxHeartbeats 1000000 in
theorem sd_17 {l : Launch} {base : Nat} {D : va_G} {d b y i : Nat} {ls : List (Option PV)} {st : List PV} {K : KM} {I : IM} {R : RM} {Q : QT} {a c : Nat} {z : Int} (HC : chkB y i 17 a c z (pg_wd y i) = true) (h9 : stA (Snd l base D) 17 a c z d b y i ls st K I R Q) : Snd l base D d b y i ls st K I R Q := by
  intro p e rm s m args below meth cc H locs cells slots lsA stA am am0 K0 hcx hsf hma hdf hdl hcb hsb hh hS hl hs he
  obtain ⟨hx, hb, hr, hml, hown, hlk, hnm, htb⟩ := id hcx
  obtain ⟨x, r, rfl, ht, hf⟩ := (show ∃ x r, st = pI x :: r ∧ (cmpc c x 0 → Snd l base D d b y a ls r K I R Q) ∧ (¬ cmpc c x 0 → Snd l base D d b y (i + 1) ls r K I R Q) from h9)
  obtain ⟨hd, hn⟩ := dc_at (show dc y i (ifI c (pg_off y i a)) 3 = true from HC)
  obtain ⟨r1, rfl, hs1⟩ := sr_i hs
  have ht' : cmpc c x 0 → W p l e rm s m args below meth cc H locs cells slots (vx_MQ below (QcF base D am0 K0 Q) (XcF base D am0 K0 Q) args s rm.cells rm.slots (ab base)) (F0 m (pg_pc y a) lsA r1) := fun q => ht q p e rm s m args below meth cc H locs cells slots lsA _ am am0 K0 hcx hsf hma hdf hdl hcb hsb hh hS hl hs1 he
  have hf' : ¬ cmpc c x 0 → W p l e rm s m args below meth cc H locs cells slots (vx_MQ below (QcF base D am0 K0 Q) (XcF base D am0 K0 Q) args s rm.cells rm.slots (ab base)) (F0 m (pg_pc y i + 3) lsA r1) := fun q => by
    rw [← hn]
    exact hf q p e rm s m args below meth cc H locs cells slots lsA _ am am0 K0 hcx hsf hma hdf hdl hcb hsb hh hS hl hs1 he
  match c, hd, ht', hf' with
  | 0, hd, ht, hf => exact lv_if_eq hx hb hd off_eq ht hf
  | 1, hd, ht, hf => exact lv_if_ne hx hb hd off_eq ht (fun q => hf (fun q2 => q2 q))
  | 2, hd, ht, hf => exact lv_if_lt hx hb hd off_eq ht hf
  | 3, hd, ht, hf => exact lv_if_ge hx hb hd off_eq ht hf
  | 4, hd, ht, hf => exact lv_if_gt hx hb hd off_eq ht hf
  | _ + 5, hd, ht, hf => exact lv_if_le hx hb hd off_eq ht hf

set_option maxHeartbeats 1000000 in
theorem sd_18 {l : Launch} {base : Nat} {D : va_G} {d b y i : Nat} {ls : List (Option PV)} {st : List PV} {K : KM} {I : IM} {R : RM} {Q : QT} {a c : Nat} {z : Int} (HC : chkB y i 18 a c z (pg_wd y i) = true) (h9 : stA (Snd l base D) 18 a c z d b y i ls st K I R Q) : Snd l base D d b y i ls st K I R Q := by
  intro p e rm s m args below meth cc H locs cells slots lsA stA am am0 K0 hcx hsf hma hdf hdl hcb hsb hh hS hl hs he
  obtain ⟨hx, hb, hr, hml, hown, hlk, hnm, htb⟩ := id hcx
  obtain ⟨u, v, r, rfl, ht, hf⟩ := (show ∃ u v r, st = pI v :: pI u :: r ∧ (cmpc c u v → Snd l base D d b y a ls r K I R Q) ∧ (¬ cmpc c u v → Snd l base D d b y (i + 1) ls r K I R Q) from h9)
  obtain ⟨hd, hn⟩ := dc_at (show dc y i (icI c (pg_off y i a)) 3 = true from HC)
  obtain ⟨r1, rfl, hs1⟩ := sr_i hs
  obtain ⟨r2, rfl, hs2⟩ := sr_i hs1
  have ht' : cmpc c u v → W p l e rm s m args below meth cc H locs cells slots (vx_MQ below (QcF base D am0 K0 Q) (XcF base D am0 K0 Q) args s rm.cells rm.slots (ab base)) (F0 m (pg_pc y a) lsA r2) := fun q => ht q p e rm s m args below meth cc H locs cells slots lsA _ am am0 K0 hcx hsf hma hdf hdl hcb hsb hh hS hl hs2 he
  have hf' : ¬ cmpc c u v → W p l e rm s m args below meth cc H locs cells slots (vx_MQ below (QcF base D am0 K0 Q) (XcF base D am0 K0 Q) args s rm.cells rm.slots (ab base)) (F0 m (pg_pc y i + 3) lsA r2) := fun q => by
    rw [← hn]
    exact hf q p e rm s m args below meth cc H locs cells slots lsA _ am am0 K0 hcx hsf hma hdf hdl hcb hsb hh hS hl hs2 he
  match c, hd, ht', hf' with
  | 0, hd, ht, hf => exact lv_icmp_eq hx hb hd off_eq ht hf
  | 1, hd, ht, hf => exact lv_icmp_ne hx hb hd off_eq ht (fun q => hf (fun q2 => q2 q))
  | 2, hd, ht, hf => exact lv_icmp_lt hx hb hd off_eq ht hf
  | 3, hd, ht, hf => exact lv_icmp_ge hx hb hd off_eq ht hf
  | 4, hd, ht, hf => exact lv_icmp_gt hx hb hd off_eq ht hf
  | _ + 5, hd, ht, hf => exact lv_icmp_le hx hb hd off_eq ht hf

set_option maxHeartbeats 1000000 in
theorem sd_19 {l : Launch} {base : Nat} {D : va_G} {d b y i : Nat} {ls : List (Option PV)} {st : List PV} {K : KM} {I : IM} {R : RM} {Q : QT} {a c : Nat} {z : Int} (HC : chkB y i 19 a c z (pg_wd y i) = true) (h9 : stA (Snd l base D) 19 a c z d b y i ls st K I R Q) : Snd l base D d b y i ls st K I R Q := by
  intro p e rm s m args below meth cc H locs cells slots lsA stA am am0 K0 hcx hsf hma hdf hdl hcb hsb hh hS hl hs he
  obtain ⟨hx, hb, hr, hml, hown, hlk, hnm, htb⟩ := id hcx
  obtain ⟨q, r, rfl, ht, hf⟩ := (show ∃ q r, st = pR q :: r ∧ (¬ q = none → Snd l base D d b y a ls r K I R Q) ∧ (q = none → Snd l base D d b y (i + 1) ls r K I R Q) from h9)
  obtain ⟨hd, hn⟩ := dc_at (show dc y i (.ifnonnull (pg_off y i a)) 3 = true from HC)
  obtain ⟨v', r1, rfl, hv, hs1⟩ := sr_c hs
  cases q with
  | none =>
    obtain rfl := (show v' = .null from hv)
    refine lv_ifnonnullN hx hb hd ?_
    rw [← hn]
    exact hf rfl p e rm s m args below meth cc H locs cells slots lsA _ am am0 K0 hcx hsf hma hdf hdl hcb hsb hh hS hl hs1 he
  | some L =>
    obtain ⟨rfl, hk⟩ := hv
    refine lv_ifnonnull hx hb hd off_eq ?_
    exact ht (fun q => by cases q) p e rm s m args below meth cc H locs cells slots lsA _ am am0 K0 hcx hsf hma hdf hdl hcb hsb hh hS hl hs1 he

set_option maxHeartbeats 1000000 in
theorem sd_20 {l : Launch} {base : Nat} {D : va_G} {d b y i : Nat} {ls : List (Option PV)} {st : List PV} {K : KM} {I : IM} {R : RM} {Q : QT} {a c : Nat} {z : Int} (HC : chkB y i 20 a c z (pg_wd y i) = true) (h9 : stA (Snd l base D) 20 a c z d b y i ls st K I R Q) : Snd l base D d b y i ls st K I R Q := by
  intro p e rm s m args below meth cc H locs cells slots lsA stA am am0 K0 hcx hsf hma hdf hdl hcb hsb hh hS hl hs he
  obtain ⟨hx, hb, hr, hml, hown, hlk, hnm, htb⟩ := id hcx
  obtain ⟨x, r, rfl, ht, hf⟩ := (show ∃ x r, st = pI x :: r ∧ (∀ (k : Nat) (t : Nat), (pg_sw.getD a (0, 0, 0, [])).2.2.2[k]? = some t → x.toInt = (pg_sw.getD a (0, 0, 0, [])).1 + k → Snd l base D d b y t ls r K I R Q) ∧ ((x.toInt < (pg_sw.getD a (0, 0, 0, [])).1 ∨ (pg_sw.getD a (0, 0, 0, [])).2.1 < x.toInt) → Snd l base D d b y (pg_sw.getD a (0, 0, 0, [])).2.2.1 ls r K I R Q) from h9)
  have HC : (match decode (pg_by y) (pg_pc y i) with
      | .ok (.tableswitch dflt lo hi offs, _) => decide (lo = (pg_sw.getD a (0, 0, 0, [])).1) && decide (hi = (pg_sw.getD a (0, 0, 0, [])).2.1) && decide (dflt = pg_off y i (pg_sw.getD a (0, 0, 0, [])).2.2.1) && decide (offs.toList = (pg_sw.getD a (0, 0, 0, [])).2.2.2.map (fun t => pg_off y i t)) && decide (hi - lo + 1 = ((pg_sw.getD a (0, 0, 0, [])).2.2.2.length : Int))
      | _ => false) = true := HC
  obtain ⟨r1, rfl, hs1⟩ := sr_i hs
  generalize pg_sw.getD a (0, 0, 0, []) = sw at ht hf HC
  split at HC
  · rename_i dflt lo hi offs len hd
    simp only [Bool.and_eq_true, decide_eq_true_eq] at HC
    obtain ⟨⟨⟨⟨h1, h2⟩, h3⟩, h4⟩, h5⟩ := HC
    by_cases hlo : x.toInt < lo
    · refine lv_tableOut (tgt := pg_pc y sw.2.2.1) hx hb hd (Or.inl hlo) (by rw [h3]; exact off_eq) ?_
      exact hf (Or.inl (by rw [← h1]; exact hlo)) p e rm s m args below meth cc H locs cells slots lsA _ am am0 K0 hcx hsf hma hdf hdl hcb hsb hh hS hl hs1 he
    · by_cases hhi : hi < x.toInt
      · refine lv_tableOut (tgt := pg_pc y sw.2.2.1) hx hb hd (Or.inr hhi) (by rw [h3]; exact off_eq) ?_
        exact hf (Or.inr (by rw [← h2]; exact hhi)) p e rm s m args below meth cc H locs cells slots lsA _ am am0 K0 hcx hsf hma hdf hdl hcb hsb hh hS hl hs1 he
      · have hk : (x.toInt - lo).toNat < sw.2.2.2.length := by omega
        have e1 : sw.2.2.2[(x.toInt - lo).toNat]? = some (sw.2.2.2[(x.toInt - lo).toNat]) := List.getElem?_eq_getElem hk
        refine lv_tableIn (off := pg_off y i (sw.2.2.2[(x.toInt - lo).toNat])) (tgt := pg_pc y (sw.2.2.2[(x.toInt - lo).toNat])) hx hb hd hlo hhi (by rw [← Array.getElem?_toList, h4, List.getElem?_map, e1]; rfl) off_eq ?_
        exact ht _ _ e1 (by rw [← h1]; omega) p e rm s m args below meth cc H locs cells slots lsA _ am am0 K0 hcx hsf hma hdf hdl hcb hsb hh hS hl hs1 he
  · cases HC

set_option maxHeartbeats 1000000 in
theorem sd_21 {l : Launch} {base : Nat} {D : va_G} {d b y i : Nat} {ls : List (Option PV)} {st : List PV} {K : KM} {I : IM} {R : RM} {Q : QT} {a c : Nat} {z : Int} (HC : chkB y i 21 a c z (pg_wd y i) = true) (h9 : stA (Snd l base D) 21 a c z d b y i ls st K I R Q) : Snd l base D d b y i ls st K I R Q := by
  intro p e rm s m args below meth cc H locs cells slots lsA stA am am0 K0 hcx hsf hma hdf hdl hcb hsb hh hS hl hs he
  obtain ⟨hx, hb, hr, hml, hown, hlk, hnm, htb⟩ := id hcx
  obtain ⟨x, r, rfl, h⟩ := (show ∃ x r, st = pI x :: r ∧ Snd l base D d b y (i + 1) ls (pL x :: r) K I R Q from h9)
  obtain ⟨hd, hn⟩ := dc_at (show dc y i .i2l 1 = true from HC)
  obtain ⟨r1, rfl, hs1⟩ := sr_i hs
  refine lv_i2l hx hb hd rfl ?_
  rw [← hn]
  exact h p e rm s m args below meth cc H locs cells slots lsA _ am am0 K0 hcx hsf hma hdf hdl hcb hsb hh hS hl ⟨rfl, hs1⟩ he

theorem lg_cmp_0 (u v : Int32) : lg_cmp u.toInt64 v.toInt64 = 0 ↔ u = v := by
  have h : u.toInt64 = v.toInt64 ↔ u = v := ⟨fun q => by
    have := congrArg Int64.toInt q
    rw [Int32.toInt_toInt64, Int32.toInt_toInt64] at this
    exact Int32.toInt_inj.mp this, fun q => by rw [q]⟩
  unfold lg_cmp
  constructor
  · intro q
    split at q
    · exact absurd q (by decide)
    · split at q
      · rename_i e
        exact h.mp e
      · exact absurd q (by decide)
  · intro q
    subst q
    rw [if_neg (by rw [gt_iff_lt, Int64.lt_iff_toInt_lt]; omega), if_pos rfl]

set_option maxHeartbeats 1000000 in
theorem sd_22 {l : Launch} {base : Nat} {D : va_G} {d b y i : Nat} {ls : List (Option PV)} {st : List PV} {K : KM} {I : IM} {R : RM} {Q : QT} {a c : Nat} {z : Int} (HC : chkB y i 22 a c z (pg_wd y i) = true) (h9 : stA (Snd l base D) 22 a c z d b y i ls st K I R Q) : Snd l base D d b y i ls st K I R Q := by
  intro p e rm s m args below meth cc H locs cells slots lsA stA am am0 K0 hcx hsf hma hdf hdl hcb hsb hh hS hl hs he
  obtain ⟨hx, hb, hr, hml, hown, hlk, hnm, htb⟩ := id hcx
  obtain ⟨u, v, r, rfl, h⟩ := (show ∃ u v r, st = pL v :: pL u :: r ∧ ∀ x : Int32, (x = 0 ↔ u = v) → Snd l base D d b y (i + 1) ls (pI x :: r) K I R Q from h9)
  obtain ⟨hd, hn⟩ := dc_at (show dc y i .lcmp 1 = true from HC)
  obtain ⟨r1, rfl, hs1⟩ := sr_l hs
  obtain ⟨r2, rfl, hs2⟩ := sr_l hs1
  refine W.lcmp hx hb hd ?_
  rw [← hn]
  exact h _ (lg_cmp_0 u v) p e rm s m args below meth cc H locs cells slots lsA _ am am0 K0 hcx hsf hma hdf hdl hcb hsb hh hS hl ⟨rfl, hs2⟩ he

set_option maxHeartbeats 1000000 in
theorem sd_23 {l : Launch} {base : Nat} {D : va_G} {d b y i : Nat} {ls : List (Option PV)} {st : List PV} {K : KM} {I : IM} {R : RM} {Q : QT} {a c : Nat} {z : Int} (HC : chkB y i 23 a c z (pg_wd y i) = true) (h9 : stA (Snd l base D) 23 a c z d b y i ls st K I R Q) : Snd l base D d b y i ls st K I R Q := by
  intro p e rm s m args below meth cc H locs cells slots lsA stA am am0 K0 hcx hsf hma hdf hdl hcb hsb hh hS hl hs he
  obtain ⟨hx, hb, hr, hml, hown, hlk, hnm, htb⟩ := id hcx
  obtain ⟨h01, h⟩ := (show (z = 0 ∨ z = 1) ∧ Snd l base D d b y (i + 1) ls (pL (Int32.ofInt z) :: st) K I R Q from h9)
  have HC : ((decide (z = 0) && dc y i (.lconst 0) 1) || (decide (z = 1) && dc y i (.lconst 1) 1)) = true := HC
  rw [Bool.or_eq_true, Bool.and_eq_true, Bool.and_eq_true, decide_eq_true_eq, decide_eq_true_eq] at HC
  rcases HC with ⟨rfl, h0⟩ | ⟨rfl, h0⟩
  · obtain ⟨hd, hn⟩ := dc_at h0
    refine lv_lconst (v := (Int32.ofInt 0).toInt64) hx hb hd (by decide) ?_
    rw [← hn]
    exact h p e rm s m args below meth cc H locs cells slots lsA _ am am0 K0 hcx hsf hma hdf hdl hcb hsb hh hS hl ⟨rfl, hs⟩ he
  · obtain ⟨hd, hn⟩ := dc_at h0
    refine lv_lconst (v := (Int32.ofInt 1).toInt64) hx hb hd (by decide) ?_
    rw [← hn]
    exact h p e rm s m args below meth cc H locs cells slots lsA _ am am0 K0 hcx hsf hma hdf hdl hcb hsb hh hS hl ⟨rfl, hs⟩ he

