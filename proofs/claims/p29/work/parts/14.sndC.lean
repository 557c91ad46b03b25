/-! the steps of the pure machine that make cells, call, throw and return -/
theorem ent_kind {am : Lb → Nat} {tys : List (ClassId × FieldType)} {k n : Nat} {i : Nat → Int32} {r : Nat → Option Lb} {e : va_E} (h : ent am tys k n i r e) : k ≠ 14 := by
  rcases h with h | h | h | h
  · exact fun q => by have := h.1; omega
  · exact fun q => by have := h.1; omega
  · exact fun q => by have := h.1; omega
  · exact fun q => by have := h.1; omega
/-- a new cell, by a label that named nothing -/
theorem hp_new {base : Nat} {D : va_G} {am : Lb → Nat} {K : KM} {I : IM} {R : RM} {s : State} {H H1 : Heap} {tys t2 : List (ClassId × FieldType)} {Ls : List Nat} {f : Nat → va_E} (h : hq base D am K I R s H tys Ls f) {L : Lb} (hL : K L = none) {k n q : Nat} {e : va_E}
    (hK1 : va_K D vwCl (tys ++ t2) s) (hP1 : va_P D vwCl (wl Ls f ++ [(q, e)]) H1) (hD1 : va_D (ab base) (wl Ls f ++ [(q, e)])) (hent : ∀ am' : Lb → Nat, ent am' (tys ++ t2) k n (fun _ => 0) (fun _ => none) e) (hbel : ∀ q, q < base → H1[q]? = H[q]?) :
    hp base D (fun L2 => if L2 = L then q else am L2) (setK K L (k, n)) (setI I L (fun _ => 0)) (setR R L (fun _ => none)) s H1 ∧ ext am K (fun L2 => if L2 = L then q else am L2) (setK K L (k, n)) := by
  obtain ⟨h1, h2, h3, h4, h5, h6, h7⟩ := h
  have hne : ∀ L2, K L2 ≠ none → L2 ≠ L := fun L2 h2 e2 => h2 (by rw [e2]; exact hL)
  have hext : ext am K (fun L2 => if L2 = L then q else am L2) (setK K L (k, n)) := fun L2 hk2 => ⟨if_neg (hne L2 hk2), if_neg (hne L2 hk2)⟩
  have hlen : (wl Ls f).length = Ls.length := by simp [wl, va_pl]
  have hq : q ∉ Ls := by
    intro hq
    obtain ⟨j, hj⟩ := va_pl_get (X := ([] : va_W)) (f := f) hq
    have hlt : j < (wl Ls f).length := (List.getElem?_eq_some_iff.mp hj).1
    have := hD1.1 j (wl Ls f).length (q, f q) (q, e) (by rw [List.getElem?_append_left hlt]; exact hj) (by simp) rfl
    omega
  have hqb : base ≤ q := hD1.2 (wl Ls f).length (q, e) (by simp)
  have e1 : wl Ls f ++ [(q, e)] = wl (Ls ++ [q]) (va_up f q e) := by
    show ([] ++ va_pl Ls f) ++ [(q, e)] = [] ++ va_pl (Ls ++ [q]) (va_up f q e)
    rw [List.append_assoc, va_pl_push hq]
  rw [e1] at hP1 hD1
  have hk14 := ent_kind (hent am)
  have hsome : ∀ L2, setK K L (k, n) L2 ≠ none → L2 = L ∨ (L2 ≠ L ∧ K L2 ≠ none) := fun L2 h2 => by
    by_cases e2 : L2 = L
    · exact Or.inl e2
    · refine Or.inr ⟨e2, ?_⟩
      unfold setK at h2
      rwa [if_neg e2] at h2
  have hamne : ∀ L2, K L2 ≠ none → am L2 ≠ q := fun L2 hk2 e2 => by
    cases hK2 : K L2 with
    | none => exact hk2 hK2
    | some kn =>
      obtain ⟨k2, n2⟩ := kn
      by_cases h14 : k2 = 14
      · subst h14
        have := (h5 L2 n2 hK2).2
        omega
      · exact hq (by rw [← e2]; exact (h4 L2 k2 n2 hK2 h14).1)
  refine ⟨⟨tys ++ t2, Ls ++ [q], va_up f q e, hK1, hP1, hD1, fun L2 k2 n2 hK2 hk2 => ?_, fun L2 n2 hK2 => ?_, fun L2 L3 hk2 hk3 he => ?_, fun L2 j L3 hk2 hr => ?_⟩, hext⟩
  · by_cases e2 : L2 = L
    · subst e2
      rw [show setK K L2 (k, n) L2 = some (k, n) from if_pos rfl] at hK2
      cases hK2
      dsimp only
      rw [if_pos rfl, show va_up f q e q = e from if_pos rfl, setI_at, setR_at]
      exact ⟨List.mem_append_right _ List.mem_cons_self, hent _⟩
    · rw [show setK K L (k, n) L2 = K L2 from if_neg e2] at hK2
      obtain ⟨m2, t2e⟩ := h4 L2 k2 n2 hK2 hk2
      have hkk : K L2 ≠ none := by rw [hK2]; exact fun z => by cases z
      dsimp only
      rw [if_neg e2, show va_up f q e (am L2) = f (am L2) from if_neg (hamne L2 hkk), setI_ne e2, setR_ne e2]
      exact ⟨List.mem_append_left _ m2, ent_am (fun j L' hj => if_neg (hne L' (h7 L2 j L' hkk hj))) (ent_app t2e)⟩
  · have e2 : L2 ≠ L := fun z => by
      subst z
      rw [show setK K L2 (k, n) L2 = some (k, n) from if_pos rfl] at hK2
      cases hK2
      exact hk14 rfl
    rw [show setK K L (k, n) L2 = K L2 from if_neg e2] at hK2
    obtain ⟨⟨scr, g1, g2⟩, g3⟩ := h5 L2 n2 hK2
    dsimp only
    rw [if_neg e2, setI_ne e2]
    exact ⟨⟨scr, by rw [hbel _ g3]; exact g1, g2⟩, g3⟩
  · dsimp only at he
    rcases hsome L2 hk2 with rfl | ⟨e2, k2⟩
    · rcases hsome L3 hk3 with rfl | ⟨e3, k3⟩
      · rfl
      · rw [if_pos rfl, if_neg e3] at he
        exact absurd he.symm (hamne L3 k3)
    · rcases hsome L3 hk3 with rfl | ⟨e3, k3⟩
      · rw [if_pos rfl, if_neg e2] at he
        exact absurd he (hamne L2 k2)
      · rw [if_neg e2, if_neg e3] at he
        exact h6 L2 L3 k2 k3 he
  · rcases hsome L2 hk2 with rfl | ⟨e2, k2⟩
    · rw [setR_at] at hr
      cases hr
    · rw [setR_ne e2] at hr
      have := h7 L2 j L3 k2 hr
      show setK K L (k, n) L3 ≠ none
      unfold setK
      split
      · exact fun z => by cases z
      · exact this
theorem tyc_kinds : (List.range 6).all (fun ci => (List.range (nfl ci)).all (fun j => decide (tyc ci j = .int) || decide (tyc ci j = .boolean) || isRT (tyc ci j))) = true := by decide +kernel
theorem default_at {ci j : Nat} (h : ci < 6) (hj : j < nfl ci) : defaultValue (tyc ci j) = (if isRT (tyc ci j) = true then .null else .int 0) := by
  have h1 := List.all_eq_true.mp (List.all_eq_true.mp tyc_kinds ci (List.mem_range.mpr h)) j (List.mem_range.mpr hj)
  simp only [Bool.or_eq_true, decide_eq_true_eq] at h1
  rcases h1 with (h1 | h1) | h1
  · rw [h1]; rfl
  · rw [h1]; rfl
  · rw [if_pos h1]
    revert h1
    generalize tyc ci j = t
    intro h1
    cases t <;> first | rfl | cases h1

set_option maxHeartbeats 1000000 in
theorem sd_37 {l : Launch} {base : Nat} {D : va_G} {d b y i : Nat} {ls : List (Option PV)} {st : List PV} {K : KM} {I : IM} {R : RM} {Q : QT} {a c : Nat} {z : Int} (HC : chkB y i 37 a c z (pg_wd y i) = true) (h9 : stC (Snd l base D) 37 a c z d b y i ls st K I R Q) : Snd l base D d b y i ls st K I R Q := by
  intro p e rm s m args below meth cc H locs cells slots lsA stA am am0 K0 hcx hsf hma hdf hdl hcb hsb hh hS hl hs he
  obtain ⟨hx, hb, hr, hml, hown, hlk, hnm, htb⟩ := id hcx
  obtain ⟨tys, Ls, f, hhq⟩ := id hh
  obtain ⟨hKK, hP, hD, -, h14, hinj, hRR⟩ := id hhq
  have hA : ∀ q, s.heap.size ≤ q → ab base q := fun q hq => Nat.le_trans hsf.2.2.2.2.2.2 hq
  obtain ⟨L, b', hL, rfl, h⟩ := (show ∃ L b', K L = none ∧ b = b' + (1 + nfl a) ∧ Snd l base D d b' y (i + 1) ls (pR (some L) :: st) (setK K L (a, 0)) (setI I L (fun _ => 0)) (setR R L (fun _ => none)) Q from h9)
  have HC : (dc y i (.new z.toNat) 3 && decide (a < 6) && isw ((pg_wd y i).getD 0 0) (.classLink (pg_own y) z.toNat (clC a)) && isw ((pg_wd y i).getD 1 0) (.instantiable (clC a) (nfl a)) && isw ((pg_wd y i).getD 2 0) (.initialized (clC a))) = true := HC
  simp only [Bool.and_eq_true, decide_eq_true_eq] at HC
  obtain ⟨⟨⟨⟨h0, ha⟩, hw0⟩, hw1⟩, hw2⟩ := HC
  obtain ⟨hd, hn⟩ := dc_at h0
  refine va_new (fs := (List.range (nfl a)).map (fun j => defaultValue (tyc a j))) hx hb (uws_at ha hsf) (fun _ q => q) (tyc a) (tyc_at a ha) hown (sfp_word hsf hw0) (sfp_word hsf hw1) (sfp_word hsf hw2) hKK hP hD hS hA (vw_at a ha) (fun j hj => by simp [vp_V, hj]) (by omega) (by omega) hd (fun q H1 hP1 hD1 hS1 => ?_)
  obtain ⟨hp1, hx1⟩ := hp_new (t2 := []) (k := a) (n := 0) hhq hL (by rw [List.append_nil]; exact hKK) hP1 hD1 (fun am' => Or.inl ⟨ha, _, rfl, by simp, fun j hj => by
    rw [List.getElem?_map, List.getElem?_range hj]
    show some (defaultValue (tyc a j)) = _
    rw [default_at ha hj]
    rfl⟩) (bel_of hsf.2.2.2.2.2.2 hS hS1)
  rw [← hn]
  exact h p e rm s m args below meth cc H1 locs (cells + 1) (slots + nfl a) lsA _ _ am0 K0 hcx hsf hma hdf hdl (by omega) (by omega) hp1 hS1 (lr_ext hx1 hl) ⟨⟨congrArg Value.ref (if_pos rfl).symm, by unfold setK; rw [if_pos rfl]; exact fun z => by cases z⟩, sr_ext hx1 hs⟩ (ext_tr he hx1)

set_option maxHeartbeats 1000000 in
theorem sd_38 {l : Launch} {base : Nat} {D : va_G} {d b y i : Nat} {ls : List (Option PV)} {st : List PV} {K : KM} {I : IM} {R : RM} {Q : QT} {a c : Nat} {z : Int} (HC : chkB y i 38 a c z (pg_wd y i) = true) (h9 : stC (Snd l base D) 38 a c z d b y i ls st K I R Q) : Snd l base D d b y i ls st K I R Q := by
  intro p e rm s m args below meth cc H locs cells slots lsA stA am am0 K0 hcx hsf hma hdf hdl hcb hsb hh hS hl hs he
  obtain ⟨hx, hb, hr, hml, hown, hlk, hnm, htb⟩ := id hcx
  obtain ⟨tys, Ls, f, hhq⟩ := id hh
  obtain ⟨hKK, hP, hD, -, h14, hinj, hRR⟩ := id hhq
  have hA : ∀ q, s.heap.size ≤ q → ab base q := fun q hq => Nat.le_trans hsf.2.2.2.2.2.2 hq
  obtain ⟨L, n, r, b', rfl, hL, hlt, rfl, h⟩ := (show ∃ L n r b', st = pI (Int32.ofNat n) :: r ∧ K L = none ∧ n < 1000000 ∧ b = b' + (1 + n) ∧ Snd l base D d b' y (i + 1) ls (pR (some L) :: r) (setK K L (a, n)) (setI I L (fun _ => 0)) (setR R L (fun _ => none)) Q from h9)
  have HC : ((decide (a = 7) && dc y i (.newarray .int) 2 && isw ((pg_wd y i).getD 0 0) (.arrayClass .int)) || (decide (a = 8) && dc y i (.newarray .boolean) 2 && isw ((pg_wd y i).getD 0 0) (.arrayClass .boolean)) || (decide (a = 13) && dc y i (.newarray .long) 2 && isw ((pg_wd y i).getD 0 0) (.arrayClass .long))) = true := HC
  simp only [Bool.and_eq_true, Bool.or_eq_true, decide_eq_true_eq] at HC
  obtain ⟨r1, rfl, hs1⟩ := sr_i hs
  obtain ⟨hn0, hnN⟩ : ¬ (Int32.ofNat n) < 0 ∧ (Int32.ofNat n).toNatClampNeg = n := ⟨nI_pos (by omega), nI_clamp (by omega)⟩
  rcases HC with (⟨⟨rfl, h0⟩, hw⟩ | ⟨⟨rfl, h0⟩, hw⟩) | ⟨⟨rfl, h0⟩, hw⟩
  · obtain ⟨hd, hn⟩ := dc_at h0
    refine va_newa (atype := .int) (ty := .int) (a0 := (n, .inl (fun _ => 0))) (N' := n) hx hb (sfp_word hsf hw) rfl hKK hP hD hS hA (fun cA => rfl) hn0 hnN (by show n * 4 ≤ _; omega) (by omega) (by omega) hd (fun q cA H1 hK1 hP1 hD1 hS1 => ?_)
    obtain ⟨hp1, hx1⟩ := hp_new (k := 7) (n := n) hhq hL hK1 hP1 hD1 (fun am' => Or.inr (Or.inl ⟨Or.inl rfl, cA, tys.length, rfl, by simp [kty]⟩)) (bel_of hsf.2.2.2.2.2.2 hS hS1)
    rw [← hn]
    exact h p e rm s m args below meth cc H1 locs (cells + 1) (slots + n) lsA _ _ am0 K0 hcx hsf hma hdf hdl (by omega) (by omega) hp1 hS1 (lr_ext hx1 hl) ⟨⟨congrArg Value.ref (if_pos rfl).symm, by unfold setK; rw [if_pos rfl]; exact fun z => by cases z⟩, sr_ext hx1 hs1⟩ (ext_tr he hx1)
  · obtain ⟨hd, hn⟩ := dc_at h0
    refine va_newa (atype := .boolean) (ty := .boolean) (a0 := (n, .inl (fun _ => 0))) (N' := n) hx hb (sfp_word hsf hw) rfl hKK hP hD hS hA (fun cA => rfl) hn0 hnN (by show n * 1 ≤ _; omega) (by omega) (by omega) hd (fun q cA H1 hK1 hP1 hD1 hS1 => ?_)
    obtain ⟨hp1, hx1⟩ := hp_new (k := 8) (n := n) hhq hL hK1 hP1 hD1 (fun am' => Or.inr (Or.inl ⟨Or.inr rfl, cA, tys.length, rfl, by simp [kty]⟩)) (bel_of hsf.2.2.2.2.2.2 hS hS1)
    rw [← hn]
    exact h p e rm s m args below meth cc H1 locs (cells + 1) (slots + n) lsA _ _ am0 K0 hcx hsf hma hdf hdl (by omega) (by omega) hp1 hS1 (lr_ext hx1 hl) ⟨⟨congrArg Value.ref (if_pos rfl).symm, by unfold setK; rw [if_pos rfl]; exact fun z => by cases z⟩, sr_ext hx1 hs1⟩ (ext_tr he hx1)
  · obtain ⟨hd, hn⟩ := dc_at h0
    refine va_newa (atype := .long) (ty := .long) (a0 := (n, .inr (.inl (fun _ => (0 : Int32).toInt64)))) (N' := n) hx hb (sfp_word hsf hw) rfl hKK hP hD hS hA (fun cA => rfl) hn0 hnN (by show n * 8 ≤ _; omega) (by omega) (by omega) hd (fun q cA H1 hK1 hP1 hD1 hS1 => ?_)
    obtain ⟨hp1, hx1⟩ := hp_new (k := 13) (n := n) hhq hL hK1 hP1 hD1 (fun am' => Or.inr (Or.inr (Or.inl ⟨rfl, cA, tys.length, rfl, by simp⟩))) (bel_of hsf.2.2.2.2.2.2 hS hS1)
    rw [← hn]
    exact h p e rm s m args below meth cc H1 locs (cells + 1) (slots + n) lsA _ _ am0 K0 hcx hsf hma hdf hdl (by omega) (by omega) hp1 hS1 (lr_ext hx1 hl) ⟨⟨congrArg Value.ref (if_pos rfl).symm, by unfold setK; rw [if_pos rfl]; exact fun z => by cases z⟩, sr_ext hx1 hs1⟩ (ext_tr he hx1)

set_option maxHeartbeats 1000000 in
theorem sd_39 {l : Launch} {base : Nat} {D : va_G} {d b y i : Nat} {ls : List (Option PV)} {st : List PV} {K : KM} {I : IM} {R : RM} {Q : QT} {a c : Nat} {z : Int} (HC : chkB y i 39 a c z (pg_wd y i) = true) (h9 : stC (Snd l base D) 39 a c z d b y i ls st K I R Q) : Snd l base D d b y i ls st K I R Q := by
  intro p e rm s m args below meth cc H locs cells slots lsA stA am am0 K0 hcx hsf hma hdf hdl hcb hsb hh hS hl hs he
  obtain ⟨hx, hb, hr, hml, hown, hlk, hnm, htb⟩ := id hcx
  obtain ⟨tys, Ls, f, hhq⟩ := id hh
  obtain ⟨hKK, hP, hD, -, h14, hinj, hRR⟩ := id hhq
  have hA : ∀ q, s.heap.size ≤ q → ab base q := fun q hq => Nat.le_trans hsf.2.2.2.2.2.2 hq
  obtain ⟨L, n, r, b', rfl, hL, hlt, rfl, h⟩ := (show ∃ L n r b', st = pI (Int32.ofNat n) :: r ∧ K L = none ∧ n < 1000000 ∧ b = b' + (1 + n) ∧ Snd l base D d b' y (i + 1) ls (pR (some L) :: r) (setK K L (a, n)) (setI I L (fun _ => 0)) (setR R L (fun _ => none)) Q from h9)
  have HC : (dc y i (.anewarray z.toNat) 3 && decide (9 ≤ a) && decide (a ≤ 12) && isw ((pg_wd y i).getD 0 0) (.classLink (pg_own y) z.toNat (elN a))) = true := HC
  simp only [Bool.and_eq_true, Bool.or_eq_true, decide_eq_true_eq] at HC
  obtain ⟨⟨⟨h0, ha1⟩, ha2⟩, hw⟩ := HC
  obtain ⟨hd, hn⟩ := dc_at h0
  obtain ⟨r1, rfl, hs1⟩ := sr_i hs
  obtain ⟨hn0, hnN⟩ : ¬ (Int32.ofNat n) < 0 ∧ (Int32.ofNat n).toNatClampNeg = n := ⟨nI_pos (by omega), nI_clamp (by omega)⟩
  refine va_newq hx hb hown (sfp_word hsf hw) (hsf.2.1 a ha1 ha2) hKK hP hD hS hA hn0 hnN (by omega) (by omega) (by omega) hd (fun q cA H1 hK1 hP1 hD1 hS1 => ?_)
  obtain ⟨hp1, hx1⟩ := hp_new (k := a) (n := n) hhq hL hK1 hP1 hD1 (fun am' => Or.inr (Or.inr (Or.inr ⟨⟨ha1, ha2⟩, cA, tys.length, rfl, by simp⟩))) (bel_of hsf.2.2.2.2.2.2 hS hS1)
  rw [← hn]
  exact h p e rm s m args below meth cc H1 locs (cells + 1) (slots + n) lsA _ _ am0 K0 hcx hsf hma hdf hdl (by omega) (by omega) hp1 hS1 (lr_ext hx1 hl) ⟨⟨congrArg Value.ref (if_pos rfl).symm, by unfold setK; rw [if_pos rfl]; exact fun z => by cases z⟩, sr_ext hx1 hs1⟩ (ext_tr he hx1)

set_option maxHeartbeats 1000000 in
theorem sd_43 {l : Launch} {base : Nat} {D : va_G} {d b y i : Nat} {ls : List (Option PV)} {st : List PV} {K : KM} {I : IM} {R : RM} {Q : QT} {a c : Nat} {z : Int} (HC : chkB y i 43 a c z (pg_wd y i) = true) (h9 : stC (Snd l base D) 43 a c z d b y i ls st K I R Q) : Snd l base D d b y i ls st K I R Q := by
  intro p e rm s m args below meth cc H locs cells slots lsA stA am am0 K0 hcx hsf hma hdf hdl hcb hsb hh hS hl hs he
  obtain ⟨hx, hb, hr, hml, hown, hlk, hnm, htb⟩ := id hcx
  obtain ⟨tys, Ls, f, hhq⟩ := id hh
  obtain ⟨hKK, hP, hD, -, h14, hinj, hRR⟩ := id hhq
  have hA : ∀ q, s.heap.size ≤ q → ab base q := fun q hq => Nat.le_trans hsf.2.2.2.2.2.2 hq
  obtain ⟨L, r, rfl, hrl, hd1, h⟩ := (show ∃ L r, st = pR (some L) :: r ∧ r.length ≤ 4 ∧ 1 ≤ d ∧ Snd l base D d b y (i + 1) ls r K I R Q from h9)
  have HC : (dc y i (.invokespecial z.toNat) 3 && isw ((pg_wd y i).getD 0 0) (.methodLink (pg_own y) z.toNat Lib.objectInit) && isw ((pg_wd y i).getD 1 0) (.instanceMethod Lib.objectInit) && isw ((pg_wd y i).getD 2 0) (.code Lib.objectInit ⟨#[0xb1]⟩ 1 none)) = true := HC
  simp only [Bool.and_eq_true, Bool.or_eq_true, decide_eq_true_eq] at HC
  obtain ⟨⟨⟨h0, hw0⟩, hw1⟩, hw2⟩ := HC
  obtain ⟨hd, hn⟩ := dc_at h0
  obtain ⟨r1, rfl, hk2, hs1⟩ := sr_r hs
  have hc1 := sr_cat hs1
  have hlz := hl.2.choose_spec.1.1
  refine W.objInit hx hb hown (sfp_word hsf hw0) (sfp_word hsf hw1) (sfp_word hsf hw2) rfl (by show lsA.size = _; rw [hlz, hml]) rfl hd (by omega) (by show 2 * 0 + _ + 12 ≤ _; omega) ?_
  show W p l e rm s m args below meth cc H locs cells slots _ (F0 m (pg_pc y i + 3) lsA r1)
  rw [← hn]
  exact h p e rm s m args below meth cc H locs cells slots lsA _ am am0 K0 hcx hsf hma hdf hdl hcb hsb hh hS hl hs1 he

set_option maxHeartbeats 1000000 in
theorem sd_51 {l : Launch} {base : Nat} {D : va_G} {d b y i : Nat} {ls : List (Option PV)} {st : List PV} {K : KM} {I : IM} {R : RM} {Q : QT} {a c : Nat} {z : Int} (HC : chkB y i 51 a c z (pg_wd y i) = true) (h9 : stC (Snd l base D) 51 a c z d b y i ls st K I R Q) : Snd l base D d b y i ls st K I R Q := by
  intro p e rm s m args below meth cc H locs cells slots lsA stA am am0 K0 hcx hsf hma hdf hdl hcb hsb hh hS hl hs he
  obtain ⟨hx, hb, hr, hml, hown, hlk, hnm, htb⟩ := id hcx
  obtain ⟨tys, Ls, f, hhq⟩ := id hh
  obtain ⟨hKK, hP, hD, -, h14, hinj, hRR⟩ := id hhq
  have hA : ∀ q, s.heap.size ≤ q → ab base q := fun q hq => Nat.le_trans hsf.2.2.2.2.2.2 hq
  obtain ⟨u, v, r, rfl, hrl, hd1, h⟩ := (show ∃ u v r, st = pI v :: pI u :: r ∧ r.length ≤ 4 ∧ 1 ≤ d ∧ Snd l base D d b y (i + 1) ls (pI (if u < v then v else u) :: r) K I R Q from h9)
  have HC : (dc y i (.invokestatic z.toNat) 3 && isw ((pg_wd y i).getD 0 0) (.methodLink (pg_own y) z.toNat Lib.Math.max.name) && isw ((pg_wd y i).getD 1 0) (.static Lib.Math.max.name) && isw ((pg_wd y i).getD 2 0) (.initialized "java/lang/Math") && isw ((pg_wd y i).getD 3 0) (.code Lib.Math.max.name Lib.Math.max.code 2 (some .int))) = true := HC
  simp only [Bool.and_eq_true, Bool.or_eq_true, decide_eq_true_eq] at HC
  obtain ⟨⟨⟨⟨h0, hw0⟩, hw1⟩, hw2⟩, hw3⟩ := HC
  obtain ⟨hd, hn⟩ := dc_at h0
  obtain ⟨r0, rfl, hs0⟩ := sr_i hs
  obtain ⟨r1, rfl, hs1⟩ := sr_i hs0
  have hc1 := sr_cat hs1
  have hlz := hl.2.choose_spec.1.1
  refine va_mmax hx hb (by rw [hlz, hml]) hown (sfp_word hsf hw0) (sfp_word hsf hw1) (sfp_word hsf hw2) (sfp_word hsf hw3) (by omega) (by omega) (by omega) (by omega) hd ?_
  rw [← hn]
  exact h p e rm s m args below meth cc H locs cells slots lsA _ am am0 K0 hcx hsf hma hdf hdl hcb hsb hh hS hl ⟨rfl, hs1⟩ he

set_option maxHeartbeats 1000000 in
theorem sd_52 {l : Launch} {base : Nat} {D : va_G} {d b y i : Nat} {ls : List (Option PV)} {st : List PV} {K : KM} {I : IM} {R : RM} {Q : QT} {a c : Nat} {z : Int} (HC : chkB y i 52 a c z (pg_wd y i) = true) (h9 : stC (Snd l base D) 52 a c z d b y i ls st K I R Q) : Snd l base D d b y i ls st K I R Q := by
  intro p e rm s m args below meth cc H locs cells slots lsA stA am am0 K0 hcx hsf hma hdf hdl hcb hsb hh hS hl hs he
  obtain ⟨hx, hb, hr, hml, hown, hlk, hnm, htb⟩ := id hcx
  obtain ⟨tys, Ls, f, hhq⟩ := id hh
  obtain ⟨hKK, hP, hD, -, h14, hinj, hRR⟩ := id hhq
  have hA : ∀ q, s.heap.size ≤ q → ab base q := fun q hq => Nat.le_trans hsf.2.2.2.2.2.2 hq
  obtain ⟨u, v, r, rfl, hrl, hd1, h⟩ := (show ∃ u v r, st = pI v :: pI u :: r ∧ r.length ≤ 4 ∧ 1 ≤ d ∧ Snd l base D d b y (i + 1) ls (pI (if v < u then v else u) :: r) K I R Q from h9)
  have HC : (dc y i (.invokestatic z.toNat) 3 && isw ((pg_wd y i).getD 0 0) (.methodLink (pg_own y) z.toNat Lib.Math.min.name) && isw ((pg_wd y i).getD 1 0) (.static Lib.Math.min.name) && isw ((pg_wd y i).getD 2 0) (.initialized "java/lang/Math") && isw ((pg_wd y i).getD 3 0) (.code Lib.Math.min.name Lib.Math.min.code 2 (some .int))) = true := HC
  simp only [Bool.and_eq_true, Bool.or_eq_true, decide_eq_true_eq] at HC
  obtain ⟨⟨⟨⟨h0, hw0⟩, hw1⟩, hw2⟩, hw3⟩ := HC
  obtain ⟨hd, hn⟩ := dc_at h0
  obtain ⟨r0, rfl, hs0⟩ := sr_i hs
  obtain ⟨r1, rfl, hs1⟩ := sr_i hs0
  have hc1 := sr_cat hs1
  have hlz := hl.2.choose_spec.1.1
  refine va_mmin hx hb (by rw [hlz, hml]) hown (sfp_word hsf hw0) (sfp_word hsf hw1) (sfp_word hsf hw2) (sfp_word hsf hw3) (by omega) (by omega) (by omega) (by omega) hd ?_
  rw [← hn]
  exact h p e rm s m args below meth cc H locs cells slots lsA _ am am0 K0 hcx hsf hma hdf hdl hcb hsb hh hS hl ⟨rfl, hs1⟩ he

set_option maxHeartbeats 1000000 in
theorem sd_53 {l : Launch} {base : Nat} {D : va_G} {d b y i : Nat} {ls : List (Option PV)} {st : List PV} {K : KM} {I : IM} {R : RM} {Q : QT} {a c : Nat} {z : Int} (HC : chkB y i 53 a c z (pg_wd y i) = true) (h9 : stC (Snd l base D) 53 a c z d b y i ls st K I R Q) : Snd l base D d b y i ls st K I R Q := by
  intro p e rm s m args below meth cc H locs cells slots lsA stA am am0 K0 hcx hsf hma hdf hdl hcb hsb hh hS hl hs he
  obtain ⟨hx, hb, hr, hml, hown, hlk, hnm, htb⟩ := id hcx
  obtain ⟨tys, Ls, f, hhq⟩ := id hh
  obtain ⟨hKK, hP, hD, -, h14, hinj, hRR⟩ := id hhq
  have hA : ∀ q, s.heap.size ≤ q → ab base q := fun q hq => Nat.le_trans hsf.2.2.2.2.2.2 hq
  obtain ⟨u, r, rfl, hrl, hd1, h⟩ := (show ∃ u r, st = pI u :: r ∧ r.length ≤ 4 ∧ 1 ≤ d ∧ Snd l base D d b y (i + 1) ls (pI (if 0 ≤ u then u else 0 - u) :: r) K I R Q from h9)
  have HC : (dc y i (.invokestatic z.toNat) 3 && isw ((pg_wd y i).getD 0 0) (.methodLink (pg_own y) z.toNat Lib.Math.abs.name) && isw ((pg_wd y i).getD 1 0) (.static Lib.Math.abs.name) && isw ((pg_wd y i).getD 2 0) (.initialized "java/lang/Math") && isw ((pg_wd y i).getD 3 0) (.code Lib.Math.abs.name Lib.Math.abs.code 1 (some .int))) = true := HC
  simp only [Bool.and_eq_true, Bool.or_eq_true, decide_eq_true_eq] at HC
  obtain ⟨⟨⟨⟨h0, hw0⟩, hw1⟩, hw2⟩, hw3⟩ := HC
  obtain ⟨hd, hn⟩ := dc_at h0
  obtain ⟨r1, rfl, hs1⟩ := sr_i hs
  have hc1 := sr_cat hs1
  have hlz := hl.2.choose_spec.1.1
  refine va_mabs hx hb (by rw [hlz, hml]) hown (sfp_word hsf hw0) (sfp_word hsf hw1) (sfp_word hsf hw2) (sfp_word hsf hw3) (by omega) (by omega) (by omega) (by omega) hd ?_
  rw [← hn]
  exact h p e rm s m args below meth cc H locs cells slots lsA _ am am0 K0 hcx hsf hma hdf hdl hcb hsb hh hS hl ⟨rfl, hs1⟩ he

set_option maxHeartbeats 1000000 in
theorem sd_45 {l : Launch} {base : Nat} {D : va_G} {d b y i : Nat} {ls : List (Option PV)} {st : List PV} {K : KM} {I : IM} {R : RM} {Q : QT} {a c : Nat} {z : Int} (HC : chkB y i 45 a c z (pg_wd y i) = true) (h9 : stC (Snd l base D) 45 a c z d b y i ls st K I R Q) : Snd l base D d b y i ls st K I R Q := by
  intro p e rm s m args below meth cc H locs cells slots lsA stA am am0 K0 hcx hsf hma hdf hdl hcb hsb hh hS hl hs he
  obtain ⟨hx, hb, hr, hml, hown, hlk, hnm, htb⟩ := id hcx
  obtain ⟨tys, Ls, f, hhq⟩ := id hh
  obtain ⟨hKK, hP, hD, -, h14, hinj, hRR⟩ := id hhq
  have hA : ∀ q, s.heap.size ≤ q → ab base q := fun q hq => Nat.le_trans hsf.2.2.2.2.2.2 hq
  obtain ⟨x, rfl, hb01, h⟩ := (show ∃ x, st = [pI x] ∧ (pg_rt y = some .boolean → x = 0 ∨ x = 1) ∧ Q (.inl (some (pI x))) K I R from h9)
  have HC : (dc0 y i .ireturn 1 && (decide (pg_rt y = some .int) || decide (pg_rt y = some .boolean))) = true := HC
  simp only [dc0, Bool.and_eq_true, Bool.or_eq_true, decide_eq_true_eq] at HC
  obtain ⟨hd, hrt⟩ := HC
  obtain ⟨r1, rfl, hs1⟩ := sr_i hs
  obtain rfl := sr_nil hs1
  have hvf : ∀ t : State, t.heap = H → va_F (ab base) s t := fun t ht => ⟨by rw [ht]; exact hS.1, fun q q1 q2 => by rw [ht]; exact hS.2.1 q q1 q2⟩
  refine W.widen (k := rm.cells) (n := rm.slots) (by omega) (by omega) (vx_ret ?_)
  have hq : ∀ t : State, t.heap = H → s.WarmedH t.vm → QcF base D am0 K0 Q args s (.returned (some (.int x))) t := fun t ht hW => ⟨some (pI x), K, I, R, am, h, ⟨.int x, rfl, rfl⟩, by rw [ht]; exact hp_moved hW.alike hh, he, hvf t ht⟩
  rcases hrt with hrt | hrt
  · exact W.iret hx hb (hr.trans hrt) hq hS.2.2 hd hlk
  · exact W.zret hx hb (hr.trans hrt) (by rcases hb01 hrt with rfl | rfl <;> rfl) hq hS.2.2 hd hlk

set_option maxHeartbeats 1000000 in
theorem sd_46 {l : Launch} {base : Nat} {D : va_G} {d b y i : Nat} {ls : List (Option PV)} {st : List PV} {K : KM} {I : IM} {R : RM} {Q : QT} {a c : Nat} {z : Int} (HC : chkB y i 46 a c z (pg_wd y i) = true) (h9 : stC (Snd l base D) 46 a c z d b y i ls st K I R Q) : Snd l base D d b y i ls st K I R Q := by
  intro p e rm s m args below meth cc H locs cells slots lsA stA am am0 K0 hcx hsf hma hdf hdl hcb hsb hh hS hl hs he
  obtain ⟨hx, hb, hr, hml, hown, hlk, hnm, htb⟩ := id hcx
  obtain ⟨tys, Ls, f, hhq⟩ := id hh
  obtain ⟨hKK, hP, hD, -, h14, hinj, hRR⟩ := id hhq
  have hA : ∀ q, s.heap.size ≤ q → ab base q := fun q hq => Nat.le_trans hsf.2.2.2.2.2.2 hq
  obtain ⟨L, rfl, h⟩ := (show ∃ L, st = [pR (some L)] ∧ Q (.inl (some (pR (some L)))) K I R from h9)
  have HC : (dc0 y i .areturn 1 && (match pg_rt y with
      | some t => isRT t
      | none => false)) = true := HC
  simp only [dc0, Bool.and_eq_true, decide_eq_true_eq] at HC
  obtain ⟨hd, hrt⟩ := HC
  obtain ⟨r1, rfl, hk2, hs1⟩ := sr_r hs
  obtain rfl := sr_nil hs1
  have hvf : ∀ t : State, t.heap = H → va_F (ab base) s t := fun t ht => ⟨by rw [ht]; exact hS.1, fun q q1 q2 => by rw [ht]; exact hS.2.1 q q1 q2⟩
  refine W.widen (k := rm.cells) (n := rm.slots) (by omega) (by omega) (vx_ret ?_)
  have hq : ∀ t : State, t.heap = H → s.WarmedH t.vm → QcF base D am0 K0 Q args s (.returned (some (.ref (am L)))) t := fun t ht hW => ⟨some (pR (some L)), K, I, R, am, h, ⟨.ref (am L), rfl, rfl, hk2⟩, by rw [ht]; exact hp_moved hW.alike hh, he, hvf t ht⟩
  cases hrr : pg_rt y with
  | none => rw [hrr] at hrt; cases hrt
  | some t =>
    rw [hrr] at hrt hr
    exact W.aret hx hb hr (by
      cases t <;> first | exact Or.inl ⟨_, rfl⟩ | exact Or.inr ⟨_, rfl⟩ | cases hrt) (Or.inr ⟨_, rfl⟩) hq hS.2.2 hd hlk

set_option maxHeartbeats 1000000 in
theorem sd_47 {l : Launch} {base : Nat} {D : va_G} {d b y i : Nat} {ls : List (Option PV)} {st : List PV} {K : KM} {I : IM} {R : RM} {Q : QT} {a c : Nat} {z : Int} (HC : chkB y i 47 a c z (pg_wd y i) = true) (h9 : stC (Snd l base D) 47 a c z d b y i ls st K I R Q) : Snd l base D d b y i ls st K I R Q := by
  intro p e rm s m args below meth cc H locs cells slots lsA stA am am0 K0 hcx hsf hma hdf hdl hcb hsb hh hS hl hs he
  obtain ⟨hx, hb, hr, hml, hown, hlk, hnm, htb⟩ := id hcx
  obtain ⟨tys, Ls, f, hhq⟩ := id hh
  obtain ⟨hKK, hP, hD, -, h14, hinj, hRR⟩ := id hhq
  have hA : ∀ q, s.heap.size ≤ q → ab base q := fun q hq => Nat.le_trans hsf.2.2.2.2.2.2 hq
  obtain ⟨rfl, h⟩ := (show st = [] ∧ Q (.inl none) K I R from h9)
  have HC : (dc0 y i .return_ 1 && decide (pg_rt y = none)) = true := HC
  simp only [dc0, Bool.and_eq_true, decide_eq_true_eq] at HC
  obtain ⟨hd, hrt⟩ := HC
  obtain rfl := sr_nil hs
  have hvf : ∀ t : State, t.heap = H → va_F (ab base) s t := fun t ht => ⟨by rw [ht]; exact hS.1, fun q q1 q2 => by rw [ht]; exact hS.2.1 q q1 q2⟩
  refine W.widen (k := rm.cells) (n := rm.slots) (by omega) (by omega) (vx_ret ?_)
  have hq : ∀ t : State, t.heap = H → s.WarmedH t.vm → QcF base D am0 K0 Q args s (.returned none) t := fun t ht hW => ⟨none, K, I, R, am, h, rfl, by rw [ht]; exact hp_moved hW.alike hh, he, hvf t ht⟩
  exact W.vret hx hb (hr.trans hrt) hq hS.2.2 hd hlk

