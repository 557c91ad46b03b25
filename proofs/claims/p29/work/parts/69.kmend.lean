/-! the mender looks at a card -/
/-- all but the mender's cells stay -/
def FrN (I I' : IM) : Prop := ∀ L : Lb, L.1 ≠ 9 → L.1 ≠ 10 → I' L = I L
theorem FrN_rfl {I : IM} : FrN I I := fun _ _ _ => rfl
theorem FrN_tr {I I' I'' : IM} (h : FrN I I') (h' : FrN I' I'') : FrN I I'' := fun L a b => (h' L a b).trans (h L a b)
theorem FrN_up {I I' : IM} (h : FrN I I') {L : Lb} (hL : L.1 = 9 ∨ L.1 = 10) {k : Nat} {x : Int32} : FrN I (up2 I' L k x) := fun q a b => by
  rw [up2_ne (fun e => by subst e; exact hL.elim a b)]
  exact h q a b
theorem FrC_N {I I' : IM} (h : FrN I I') : FrC I I' := fun L a => h L (by omega) (by omega)
/-- the mender's own references may change -/
def FrR (R R' : RM) : Prop := (∀ L : Lb, L ≠ MEN → R' L = R L) ∧ ∀ k, k < 8 → R' MEN k = R MEN k
theorem FrR_rfl {R : RM} : FrR R R := ⟨fun _ _ => rfl, fun _ _ => rfl⟩
theorem FrR_up {R R' : RM} (h : FrR R R') {k : Nat} (hk : 8 ≤ k) {q : Option Lb} : FrR R (up2R R' MEN k q) := ⟨fun L hL => by
  unfold up2R setR
  rw [if_neg hL]
  exact h.1 L hL, fun j hj => by
  rw [up2R_slot (by omega)]
  exact h.2 j hj⟩
theorem CSX_N {K : KM} {R R' : RM} (h : CSX K R) (hR : FrR R R') : CSX K R' := by
  obtain ⟨⟨⟨a1, a2, a3, a4, a5, a6, a7⟩, ⟨b1, b2, b3, b4, b5⟩, hw, ht, hm⟩, hn, hc⟩ := h
  have e : ∀ L : Lb, L.1 ≠ 9 → R' L = R L := fun L q => hR.1 L (fun e => q (by rw [e]))
  have ep : ∀ c, pm R' c = pm R c := fun c => by funext j; unfold pm; rw [e (MM c) (by show 20 ≠ 9; decide)]
  have co : ∀ c, CO K R c → CO K R' c := fun c q => by
    unfold CO COp at *
    rw [ep, e (CA c) (by show 19 ≠ 9; decide), e (MM c) (by show 20 ≠ 9; decide)]
    exact q
  refine ⟨⟨⟨a1, ?_, ?_, ?_, ?_, ?_, ?_⟩, ⟨b1, b2, b3, b4, b5⟩, fun w q => ?_, fun t q => ?_, fun k q => ?_⟩, co _ hn, fun c q => ?_⟩
  all_goals first | (rw [e RING (by decide)]; assumption) | skip
  · rw [e ROS (by decide), e (WR w) (by show 12 ≠ 9; decide)]; exact hw w q
  · rw [e TIT (by decide), e (TT t) (by show 16 ≠ 9; decide)]; exact ht t q
  · rw [hR.2 k q]; exact hm k q
  · rw [e CRD (by decide)]
    rcases hc c q with h1 | ⟨h1, h2⟩
    · exact Or.inl h1
    · exact Or.inr ⟨h1, co c h2⟩
theorem RC_N {σ : ST} {I I' : IM} {R R' : RM} (h : RC σ I R) (hI : FrN I I') (hR : FrR R R') : RC σ I' R' := by
  have h2 : RC σ I' R := RC_F h (fun L _ _ _ h9 h10 => hI L h9 h10)
  have e : ∀ L : Lb, L.1 ≠ 9 → R' L = R L := fun L q => hR.1 L (fun e => q (by rw [e]))
  have ep : ∀ c, pm R' c = pm R c := fun c => by funext j; unfold pm; rw [e (MM c) (by show 20 ≠ 9; decide)]
  obtain ⟨q1, q2, q3, q4, q5, q6⟩ := h2
  refine ⟨q1, q2, q3, q4, q5, fun d hd => ?_⟩
  have := q6 d hd
  unfold RCc at *
  rw [ep, e CRD (by decide)]
  exact this
theorem CW_N {n : Nat} {σ : ST} {K : KM} {I I' : IM} {R R' : RM} (h : CW n σ K I R) (hI : FrN I I') (hR : FrR R R') : CW n σ K I' R' := ⟨CSX_N h.1 hR, RC_N h.2.1 hI hR, h.2.2⟩
/-- where the numbers are that p takes: the k-th of them below n -/
noncomputable def pos (p : Nat → Prop) : Nat → Nat → Nat
  | 0, _ => 0
  | n + 1, k => @ite _ (p n ∧ k = cnt p n) (Classical.propDecidable _) n (pos p n k)
theorem pos_t {p : Nat → Prop} {n : Nat} (h : p n) : pos p (n + 1) (cnt p n) = n := if_pos ⟨h, rfl⟩
theorem pos_f {p : Nat → Prop} {n k : Nat} (h : ¬ (p n ∧ k = cnt p n)) : pos p (n + 1) k = pos p n k := if_neg h
theorem cnt_mono {p : Nat → Prop} {a b : Nat} (h : a ≤ b) : cnt p a ≤ cnt p b := by
  induction b with
  | zero => rw [show a = 0 by omega]; exact Nat.le_refl _
  | succ b ih =>
    by_cases e : a = b + 1
    · rw [e]; exact Nat.le_refl _
    · have := ih (by omega)
      by_cases hp : p b
      · rw [cnt_t hp]; omega
      · rw [cnt_f hp]; exact this
theorem pos_lt {p : Nat → Prop} : ∀ {n k : Nat}, k < cnt p n → pos p n k < n ∧ p (pos p n k) ∧ cnt p (pos p n k) = k
  | 0, k, h => absurd h (Nat.not_lt_zero _)
  | n + 1, k, h => by
    by_cases hp : p n
    · by_cases e : k = cnt p n
      · rw [e, pos_t hp]; exact ⟨Nat.lt_succ_self n, hp, rfl⟩
      · rw [pos_f (fun q => e q.2)]
        rw [cnt_t hp] at h
        obtain ⟨a, b, c⟩ := pos_lt (p := p) (n := n) (k := k) (by omega)
        exact ⟨by omega, b, c⟩
    · rw [pos_f (fun q => hp q.1)]
      rw [cnt_f hp] at h
      obtain ⟨a, b, c⟩ := pos_lt h
      exact ⟨by omega, b, c⟩
theorem cnt_lt {p : Nat → Prop} {s n : Nat} (h : s < n) (hp : p s) : cnt p s < cnt p n := by
  have := cnt_mono (p := p) (show s + 1 ≤ n from h)
  rw [cnt_t hp] at this
  omega
theorem pos_cnt {p : Nat → Prop} : ∀ {n s : Nat}, s < n → p s → pos p n (cnt p s) = s
  | 0, s, h, _ => absurd h (Nat.not_lt_zero _)
  | n + 1, s, h, hp => by
    by_cases e : s = n
    · rw [e] at hp ⊢; exact pos_t hp
    · have := cnt_lt (show s < n by omega) hp
      rw [pos_f (fun q => absurd q.2 (by omega))]
      exact pos_cnt (by omega) hp
theorem pos_inj {p : Nat → Prop} {n j k : Nat} (hj : j < cnt p n) (hk : k < cnt p n) (e : pos p n j = pos p n k) : j = k := by
  have a := (pos_lt hj).2.2
  have b := (pos_lt hk).2.2
  rw [e] at a
  exact a.symm.trans b
theorem pos_mono {p : Nat → Prop} {n j k : Nat} (h : j < k) (hk : k < cnt p n) : pos p n j < pos p n k := by
  have a := (pos_lt (p := p) (n := n) (k := j) (by omega)).2.2
  have b := (pos_lt hk).2.2
  rcases Nat.lt_or_ge (pos p n j) (pos p n k) with q | q
  · exact q
  · have := cnt_mono (p := p) q
    omega
/-- who is at a place of today's card -/
def sw (σ : ST) (s : Nat) : Nat := (σ 19 (36 * dn σ + 6 * (s / 2) + s % 2)).toNatClampNeg
def hu (σ : ST) (w : Nat) : Prop := nI (dn σ) < σ 6 w
def opn (σ : ST) (s : Nat) : Prop := hu σ (sw σ s)
def cand (σ : ST) (w : Nat) : Prop := ¬ hu σ w ∧ ¬ onC σ (dn σ) (nI w)
/-- what the mender knows of the first n places -/
def SE (σ : ST) (n : Nat) (I : IM) : Prop := I MEN 10 = nI (dn σ) ∧ I MEN 11 = nI (cnt (opn σ) n) ∧ (∀ s, s < n → I (MN 1) s = bI (opn σ s) ∧ I (MN 0) s = @ite _ (opn σ s) (Classical.propDecidable _) (-1) (nI (sw σ s))) ∧ ∀ k, k < cnt (opn σ) n → k < 4 → I (MN 2) k = nI (pos (opn σ) n k)
theorem SE_0 {σ : ST} {I : IM} (h : I MEN 10 = nI (dn σ)) (h2 : I MEN 11 = nI 0) : SE σ 0 I := ⟨h, h2, fun s hs => absurd hs (Nat.not_lt_zero _), fun k hk => absurd hk (Nat.not_lt_zero _)⟩
theorem SE_f {σ : ST} {n : Nat} {I I' : IM} (h : SE σ n I) (ho : ¬ opn σ n) (e10 : I' MEN 10 = I MEN 10) (e11 : I' MEN 11 = I MEN 11) (e1 : I' (MN 1) = upd (I (MN 1)) n (bI (opn σ n))) (e0 : I' (MN 0) = upd (I (MN 0)) n (nI (sw σ n))) (e2 : I' (MN 2) = I (MN 2)) : SE σ (n + 1) I' := by
  refine ⟨e10.trans h.1, by rw [e11, cnt_f ho]; exact h.2.1, fun s hs => ?_, fun k hk hk4 => ?_⟩
  · rw [e1, e0]
    by_cases e : s = n
    · subst e; rw [upd_at, upd_at, if_neg ho]; exact ⟨rfl, rfl⟩
    · rw [upd_ne e, upd_ne e]; exact h.2.2.1 s (by omega)
  · rw [cnt_f ho] at hk
    rw [e2, pos_f (fun q => ho q.1)]; exact h.2.2.2 k hk hk4
theorem SE_t {σ : ST} {n : Nat} {I I' : IM} (h : SE σ n I) (ho : opn σ n) (e10 : I' MEN 10 = I MEN 10) (e11 : I' MEN 11 = nI (cnt (opn σ) n + 1)) (e1 : I' (MN 1) = upd (I (MN 1)) n (bI (opn σ n))) (e0 : I' (MN 0) = upd (I (MN 0)) n (-1)) (e2 : (4 ≤ cnt (opn σ) n ∧ I' (MN 2) = I (MN 2)) ∨ I' (MN 2) = upd (I (MN 2)) (cnt (opn σ) n) (nI n)) : SE σ (n + 1) I' := by
  refine ⟨e10.trans h.1, by rw [e11, cnt_t ho], fun s hs => ?_, fun k hk hk4 => ?_⟩
  · rw [e1, e0]
    by_cases e : s = n
    · subst e; rw [upd_at, upd_at, if_pos ho]; exact ⟨rfl, rfl⟩
    · rw [upd_ne e, upd_ne e]; exact h.2.2.1 s (by omega)
  · rw [cnt_t ho] at hk
    by_cases e : k = cnt (opn σ) n
    · rw [e, pos_t ho]
      rcases e2 with ⟨a, -⟩ | e2
      · omega
      · rw [e2, upd_at]
    · rw [pos_f (fun q => e q.2)]
      rcases e2 with ⟨-, e2⟩ | e2
      · rw [e2]; exact h.2.2.2 k (by omega) hk4
      · rw [e2, upd_ne e]; exact h.2.2.2 k (by omega) hk4
set_option maxRecDepth 20000 in
set_option maxHeartbeats 400000 in
theorem k_lookAtSeat {d b : Nat} {K : KM} {I : IM} {R : RM} {Q : QT} {n m v : Nat} {σ : ST} (hd : 1 ≤ d) (hW : CW n σ K I R) (h8 : R MEN 8 = some ROS) (hm : m < 12) (hv : v < 10) (hw : sw σ m = v) (hse : SE σ m I) (q : ∀ I', FrN I I' → SE σ (m + 1) I' → Q (.inl none) K I' R) : Mw d b N_X2_lookAtSeat 0 [some (pR (some MEN)), some (pI (nI m)), some (pI (nI v))] [] K I R Q := by
  obtain ⟨d9, rfl⟩ : ∃ d9, d = d9 + 1 := ⟨d - 1, by omega⟩
  have hS := hW.1.1
  have hR := hW.2.1
  have hV := hW.2.2
  have hpp := hW.2.2.1.2
  have hdd := hW.2.2.2.2.1.2
  have hop : opn σ m = hu σ v := by unfold opn; rw [hw]
  have hc12 : cnt (opn σ) m ≤ m := cnt_le _ _
  refine mw_aload i_14_0 (L := MEN) rfl ?_
  refine mw_getR i_14_1 hS.2.1.2.2.2.2 (q := some (MN 1)) (hS.2.2.2.2 1 (by omega)).1 ?_
  refine mw_iload i_14_2 (x := nI m) rfl ?_
  refine mw_aload i_14_3 (L := MEN) rfl ?_
  refine mw_getR i_14_4 hS.2.1.2.2.2.2 (q := some ROS) h8 ?_
  refine mw_iload i_14_5 (x := nI v) rfl ?_
  refine mw_aald i_14_6 (jn := v) (n := 10) (by omega) (by omega) hS.2.1.1 (by decide) (q := some (WR v)) (hS.2.2.1 v (by omega)).1 ?_
  refine mw_aload i_14_7 (L := MEN) rfl ?_
  refine mw_get i_14_8 hS.2.1.2.2.2.2 (v := nI (dn σ)) hse.1 ?_
  refine mw_callV i_14_9 mf_27 (as := [pI (nI (dn σ))]) (rest := [pI (nI m), pR (some (MN 1))]) (d' := d9) (b' := b) (ls0 := [some (pR (some (WR v))), some (pI (nI (dn σ)))]) rfl rfl rfl (Nat.le_of_ble_eq_true rfl) (hS.2.2.1 v (by omega)).2.1 rfl rfl rfl ?_
  refine k_isHurtOn hS (by omega) ?_
  rw [show bI (nI (dn σ) < I (WR v) 7) = bI (hu σ v) from by rw [(RC_rd hR (w := v) (by omega)).2.2.2.2.1]; rfl]
  refine aft_v ?_
  obtain ⟨I21, e21⟩ : ∃ I21, I21 = up2 I (MN 1) m (bI (hu σ v)) := ⟨_, rfl⟩
  refine mw_bast i_14_10 (jn := m) (n := 12) (by omega) (by omega) (x := bI (hu σ v)) (show K (MN 1) = some (8, 12) from (hS.2.2.2.2 1 (by omega)).2) (bI_01 _) (I' := I21) e21.symm ?_
  refine mw_aload i_14_11 (L := MEN) rfl ?_
  refine mw_getR i_14_12 hS.2.1.2.2.2.2 (q := some (MN 0)) (hS.2.2.2.2 0 (by omega)).1 ?_
  refine mw_iload i_14_13 (x := nI m) rfl ?_
  refine mw_aload i_14_14 (L := MEN) rfl ?_
  refine mw_getR i_14_15 hS.2.1.2.2.2.2 (q := some (MN 1)) (hS.2.2.2.2 1 (by omega)).1 ?_
  refine mw_iload i_14_16 (x := nI m) rfl ?_
  refine mw_bald i_14_17 (jn := m) (n := 12) (by omega) (by omega) (show K (MN 1) = some (8, 12) from (hS.2.2.2.2 1 (by omega)).2) (v := bI (hu σ v)) (by rw [e21, up2_at, upd_at]) ?_
  refine mw_eqB i_14_18 rfl (fun c2 => ?_) (fun c2 => ?_)
  · skip
    refine mw_iload i_14_21 (x := nI v) rfl ?_
    obtain ⟨I23, e23⟩ : ∃ I23, I23 = up2 I21 (MN 0) m (nI v) := ⟨_, rfl⟩
    refine mw_iast i_14_22 (jn := m) (n := 12) (by omega) (by omega) (x := nI v) (show K (MN 0) = some (7, 12) from (hS.2.2.2.2 0 (by omega)).2) (I' := I23) e23.symm ?_
    refine mw_aload i_14_23 (L := MEN) rfl ?_
    refine mw_getR i_14_24 hS.2.1.2.2.2.2 (q := some (MN 1)) (hS.2.2.2.2 1 (by omega)).1 ?_
    refine mw_iload i_14_25 (x := nI m) rfl ?_
    refine mw_bald i_14_26 (jn := m) (n := 12) (by omega) (by omega) (show K (MN 1) = some (8, 12) from (hS.2.2.2.2 1 (by omega)).2) (v := bI (hu σ v)) (by rw [e23, up2_ne (by simp), e21, up2_at, upd_at]) ?_
    refine mw_eqB i_14_27 rfl (fun c4 => ?_) (fun c4 => ?_)
    · skip
      refine mw_ret i_14_44 ?_
      refine q _ ((e23.symm ▸ FrN_up ((e21.symm ▸ FrN_up (FrN_rfl) (by decide))) (by decide))) ?_
      refine SE_f hse (by rw [hop]; exact c2) (by rw [e23, up2_ne (by simp), e21, up2_ne (by simp)]) (by rw [e23, up2_ne (by simp), e21, up2_ne (by simp)]) (by rw [e23, up2_ne (by simp), e21, up2_at, hop]) (by rw [e23, up2_at, e21, up2_ne (by simp), hw]) (by rw [e23, up2_ne (by simp), e21, up2_ne (by simp)])
    · skip
      exact absurd c4 c2
  · skip
    refine mw_const i_14_19 (v := (-1)) (by decide) ?_
    refine mw_goto i_14_20 ?_
    obtain ⟨I25, e25⟩ : ∃ I25, I25 = up2 I21 (MN 0) m (-1) := ⟨_, rfl⟩
    refine mw_iast i_14_22 (jn := m) (n := 12) (by omega) (by omega) (x := (-1)) (show K (MN 0) = some (7, 12) from (hS.2.2.2.2 0 (by omega)).2) (I' := I25) e25.symm ?_
    refine mw_aload i_14_23 (L := MEN) rfl ?_
    refine mw_getR i_14_24 hS.2.1.2.2.2.2 (q := some (MN 1)) (hS.2.2.2.2 1 (by omega)).1 ?_
    refine mw_iload i_14_25 (x := nI m) rfl ?_
    refine mw_bald i_14_26 (jn := m) (n := 12) (by omega) (by omega) (show K (MN 1) = some (8, 12) from (hS.2.2.2.2 1 (by omega)).2) (v := bI (hu σ v)) (by rw [e25, up2_ne (by simp), e21, up2_at, upd_at]) ?_
    refine mw_eqB i_14_27 rfl (fun c6 => ?_) (fun c6 => ?_)
    · skip
      exact absurd c2 c6
    · skip
      refine mw_aload i_14_28 (L := MEN) rfl ?_
      refine mw_get i_14_29 hS.2.1.2.2.2.2 (v := nI (cnt (opn σ) m)) (by rw [e25, up2_ne (by simp), e21, up2_ne (by simp)]; exact hse.2.1) ?_
      refine mw_const i_14_30 (v := nI 4) (by decide) ?_
      refine mw_ic i_14_31 (p := 4 ≤ (cnt (opn σ) m)) (nI_leI (by omega) (by omega)) (fun c7 => ?_) (fun c7 => ?_)
      · skip
        refine mw_aload i_14_38 (L := MEN) rfl ?_
        refine mw_dup i_14_39 trivial ?_
        refine mw_get i_14_40 hS.2.1.2.2.2.2 (v := nI (cnt (opn σ) m)) (by rw [e25, up2_ne (by simp), e21, up2_ne (by simp)]; exact hse.2.1) ?_
        refine mw_const i_14_41 (v := nI 1) (by decide) ?_
        refine mw_iadd i_14_42 (w := nI (cnt (opn σ) m + 1)) (nI_add _ _) ?_
        obtain ⟨I28, e28⟩ : ∃ I28, I28 = up2 I25 MEN 11 (nI (cnt (opn σ) m + 1)) := ⟨_, rfl⟩
        refine mw_put i_14_43 (x := nI (cnt (opn σ) m + 1)) hS.2.1.2.2.2.2 (I' := I28) e28.symm ?_
        refine mw_ret i_14_44 ?_
        refine q _ ((e28.symm ▸ FrN_up ((e25.symm ▸ FrN_up ((e21.symm ▸ FrN_up (FrN_rfl) (by decide))) (by decide))) (by decide))) ?_
        refine SE_t hse (by rw [hop]; exact c2) (by rw [e28, up2_at, e25, up2_ne (by simp), e21, up2_ne (by simp), upd_ne (by decide)]) (by rw [e28, up2_at, e25, up2_ne (by simp), e21, up2_ne (by simp), upd_at]) (by rw [e28, up2_ne (by simp), e25, up2_ne (by simp), e21, up2_at, hop]) (by rw [e28, up2_ne (by simp), e25, up2_at, e21, up2_ne (by simp)]) (Or.inl ⟨by omega, by rw [e28, up2_ne (by simp), e25, up2_ne (by simp), e21, up2_ne (by simp)]⟩)
      · skip
        refine mw_aload i_14_32 (L := MEN) rfl ?_
        refine mw_getR i_14_33 hS.2.1.2.2.2.2 (q := some (MN 2)) (hS.2.2.2.2 2 (by omega)).1 ?_
        refine mw_aload i_14_34 (L := MEN) rfl ?_
        refine mw_get i_14_35 hS.2.1.2.2.2.2 (v := nI (cnt (opn σ) m)) (by rw [e25, up2_ne (by simp), e21, up2_ne (by simp)]; exact hse.2.1) ?_
        refine mw_iload i_14_36 (x := nI m) rfl ?_
        obtain ⟨I29, e29⟩ : ∃ I29, I29 = up2 I25 (MN 2) (cnt (opn σ) m) (nI m) := ⟨_, rfl⟩
        refine mw_iast i_14_37 (jn := cnt (opn σ) m) (n := 4) (by omega) (by omega) (x := nI m) (show K (MN 2) = some (7, 4) from (hS.2.2.2.2 2 (by omega)).2) (I' := I29) e29.symm ?_
        refine mw_aload i_14_38 (L := MEN) rfl ?_
        refine mw_dup i_14_39 trivial ?_
        refine mw_get i_14_40 hS.2.1.2.2.2.2 (v := nI (cnt (opn σ) m)) (by rw [e29, up2_ne (by simp), e25, up2_ne (by simp), e21, up2_ne (by simp)]; exact hse.2.1) ?_
        refine mw_const i_14_41 (v := nI 1) (by decide) ?_
        refine mw_iadd i_14_42 (w := nI (cnt (opn σ) m + 1)) (nI_add _ _) ?_
        obtain ⟨I30, e30⟩ : ∃ I30, I30 = up2 I29 MEN 11 (nI (cnt (opn σ) m + 1)) := ⟨_, rfl⟩
        refine mw_put i_14_43 (x := nI (cnt (opn σ) m + 1)) hS.2.1.2.2.2.2 (I' := I30) e30.symm ?_
        refine mw_ret i_14_44 ?_
        refine q _ ((e30.symm ▸ FrN_up ((e29.symm ▸ FrN_up ((e25.symm ▸ FrN_up ((e21.symm ▸ FrN_up (FrN_rfl) (by decide))) (by decide))) (by decide))) (by decide))) ?_
        refine SE_t hse (by rw [hop]; exact c2) (by rw [e30, up2_at, e29, up2_ne (by simp), e25, up2_ne (by simp), e21, up2_ne (by simp), upd_ne (by decide)]) (by rw [e30, up2_at, e29, up2_ne (by simp), e25, up2_ne (by simp), e21, up2_ne (by simp), upd_at]) (by rw [e30, up2_ne (by simp), e29, up2_ne (by simp), e25, up2_ne (by simp), e21, up2_at, hop]) (by rw [e30, up2_ne (by simp), e29, up2_ne (by simp), e25, up2_at, e21, up2_ne (by simp)]) (Or.inr (by rw [e30, up2_ne (by simp), e29, up2_at, e25, up2_ne (by simp), e21, up2_ne (by simp)]))
theorem sw_0 {σ : ST} {i : Nat} : sw σ (2 * i) = (σ 19 (36 * dn σ + 6 * i)).toNatClampNeg := by
  unfold sw
  rw [show 36 * dn σ + 6 * (2 * i / 2) + 2 * i % 2 = 36 * dn σ + 6 * i by omega]
theorem sw_1 {σ : ST} {i : Nat} : sw σ (2 * i + 1) = (σ 19 (36 * dn σ + 6 * i + 1)).toNatClampNeg := by
  unfold sw
  rw [show 36 * dn σ + 6 * ((2 * i + 1) / 2) + (2 * i + 1) % 2 = 36 * dn σ + 6 * i + 1 by omega]
theorem sw_ok {n : Nat} {σ : ST} (hV : IV n σ) {i : Nat} (hi : i < mn σ (dn σ)) : sw σ (2 * i) < pn σ ∧ sw σ (2 * i + 1) < pn σ ∧ σ 19 (36 * dn σ + 6 * i) = nI (sw σ (2 * i)) ∧ σ 19 (36 * dn σ + 6 * i + 1) = nI (sw σ (2 * i + 1)) := by
  have hd := hV.2.2.1.2
  have hp := hV.1.2
  obtain ⟨⟨f, hf, ef⟩, ⟨s, hs, es⟩, -⟩ := (hV.2.2.2.2.2.1 (dn σ) (by omega)).2.2.2.2.1 i hi
  have e1 : sw σ (2 * i) = f := by rw [sw_0, ef]; exact nI_clamp (by omega)
  have e2 : sw σ (2 * i + 1) = s := by rw [sw_1, es]; exact nI_clamp (by omega)
  rw [e1, e2]
  exact ⟨hf, hs, ef, es⟩
/-- what the mender knows of those who can come, of the first n people -/
def CN (σ : ST) (tw n : Nat) (I : IM) : Prop := I MEN 12 = nI (cnt (cand σ) n) ∧ ∀ k, k < cnt (cand σ) n → I (MN 5) k = nI (pos (cand σ) n k) ∧ I (MN 6) k = wrt σ tw (pos (cand σ) n k) ∧ I (MN 7) k = nI 0
theorem CN_f {σ : ST} {tw n : Nat} {I : IM} (h : CN σ tw n I) (ho : ¬ cand σ n) : CN σ tw (n + 1) I := by
  unfold CN
  rw [cnt_f ho]
  refine ⟨h.1, fun k hk => ?_⟩
  rw [pos_f (fun q => ho q.1)]
  exact h.2 k hk
theorem CN_t {σ : ST} {tw n : Nat} {I I' : IM} (h : CN σ tw n I) (ho : cand σ n) (e12 : I' MEN 12 = nI (cnt (cand σ) n + 1)) (e5 : I' (MN 5) = upd (I (MN 5)) (cnt (cand σ) n) (nI n)) (e6 : I' (MN 6) = upd (I (MN 6)) (cnt (cand σ) n) (wrt σ tw n)) (e7 : I' (MN 7) = upd (I (MN 7)) (cnt (cand σ) n) (nI 0)) : CN σ tw (n + 1) I' := by
  unfold CN
  rw [cnt_t ho]
  refine ⟨e12, fun k hk => ?_⟩
  rw [e5, e6, e7]
  by_cases e : k = cnt (cand σ) n
  · rw [e, pos_t ho, upd_at, upd_at, upd_at]; exact ⟨rfl, rfl, rfl⟩
  · rw [pos_f (fun q => e q.2), upd_ne e, upd_ne e, upd_ne e]; exact h.2 k (by omega)
theorem SE_eq {σ : ST} {n : Nat} {I I' : IM} (h : SE σ n I) (e10 : I' MEN 10 = I MEN 10) (e11 : I' MEN 11 = I MEN 11) (e0 : I' (MN 0) = I (MN 0)) (e1 : I' (MN 1) = I (MN 1)) (e2 : I' (MN 2) = I (MN 2)) : SE σ n I' := by
  unfold SE
  rw [e10, e11, e0, e1, e2]
  exact h
set_option maxRecDepth 20000 in
set_option maxHeartbeats 400000 in
theorem k_look1_lp {d : Nat} {b : Nat} {K : KM} {R : RM} {Q : QT} {n0 rs : Nat} {σ : ST} {I0 : IM} (hd : 2 ≤ d) (h8 : R MEN 8 = some ROS) (h9 : R MEN 9 = some (CA (cix R (dn σ))))  (q : ∀ I', CW n0 σ K I' R → FrN I0 I' → SE σ (2 * mn σ (dn σ)) I' → Mw d b N_X2_lookAt 45 [some (pR (some MEN)), some (pR (some (CA (cix R (dn σ))))), some (pI (nI (dn σ))), some (pR (some ROS)), some (pI (nI rs)), some (pI (nI (mn σ (dn σ))))] [] K I' R Q) : ∀ (n i : Nat) (I : IM), mn σ (dn σ) - i < n → i ≤ mn σ (dn σ) → (CW n0 σ K I R) → (FrN I0 I) → (SE σ (2 * i) I) → Mw d b N_X2_lookAt 14 [some (pR (some MEN)), some (pR (some (CA (cix R (dn σ))))), some (pI (nI (dn σ))), some (pR (some ROS)), some (pI (nI rs)), some (pI (nI i))] [] K I R Q := by
  obtain ⟨d9, rfl⟩ : ∃ d9, d = d9 + 1 := ⟨d - 1, by omega⟩
  intro n
  induction n with
  | zero => intro i I  hn; exact absurd hn (Nat.not_lt_zero _)
  | succ n ih =>
    intro i I  hn hi hW hF0 hse
    have hS := hW.1.1
    have hR := hW.2.1
    have hV := hW.2.2
    have hpp := hW.2.2.1.2
    have hdd := hW.2.2.2.2.1.2
    obtain ⟨hC_dnσ, hz_dnσ, hz6_dnσ, hp_dnσ, ht0_dnσ, hm_dnσ⟩ := CW_c hW (d := dn σ) (by omega)
    refine mw_iload i_13_14 (x := nI i) rfl ?_
    refine mw_aload i_13_15 (L := MEN) rfl ?_
    refine mw_getR i_13_16 hS.2.1.2.2.2.2 (q := some (CA (cix R (dn σ)))) h9 ?_
    refine mw_get i_13_17 hC_dnσ.1 (v := nI (mn σ (dn σ))) hz_dnσ ?_
    refine mw_ic i_13_18 (p := (mn σ (dn σ)) ≤ i) (nI_leI (by omega) (by omega)) (fun c1 => ?_) (fun c1 => ?_)
    · skip
      obtain rfl : i = mn σ (dn σ) := by omega
      exact q _ hW hF0 hse
    · skip
      have so := sw_ok hV (i := i) (by omega)
      have so1 := so.1
      have so2 := so.2.1
      refine mw_aload i_13_19 (L := MEN) rfl ?_
      refine mw_const i_13_20 (v := nI 2) (by decide) ?_
      refine mw_iload i_13_21 (x := nI i) rfl ?_
      refine mw_imul i_13_22 (w := nI (2 * i)) (pk_mul _ _) ?_
      refine mw_aload i_13_23 (L := MEN) rfl ?_
      refine mw_getR i_13_24 hS.2.1.2.2.2.2 (q := some (CA (cix R (dn σ)))) h9 ?_
      refine mw_getR i_13_25 hC_dnσ.1 (q := some (MM (cix R (dn σ)))) hC_dnσ.2.1 ?_
      refine mw_iload i_13_26 (x := nI i) rfl ?_
      refine mw_aald i_13_27 (jn := i) (n := 6) (by omega) (by omega) hC_dnσ.2.2.1 (by decide) (q := some (MT (cix R (dn σ)) (pm R (cix R (dn σ)) i))) (hC_dnσ.2.2.2.2.1 i (by omega)).2 ?_
      refine mw_get i_13_28 (hC_dnσ.2.2.2.1 _ (hC_dnσ.2.2.2.2.1 i (by omega)).1) (v := nI (sw σ (2 * i))) (by rw [(hm_dnσ i (by omega)).1]; exact so.2.2.1) ?_
      refine mw_callV i_13_29 mf_14 (as := [pI (nI (2 * i)), pI (nI (sw σ (2 * i)))]) (rest := []) (d' := d9) (b' := b) (ls0 := [some (pR (some MEN)), some (pI (nI (2 * i))), some (pI (nI (sw σ (2 * i))))]) rfl rfl rfl (Nat.le_of_ble_eq_true rfl) hS.2.1.2.2.2.2 rfl rfl rfl ?_
      refine k_lookAtSeat (m := 2 * i) (v := sw σ (2 * i)) (by omega) (hW) h8 (by omega) (by omega) rfl hse ?_
      intro I1 hF1 se1
      refine aft_n ?_
      refine mw_aload i_13_30 (L := MEN) rfl ?_
      refine mw_const i_13_31 (v := nI 2) (by decide) ?_
      refine mw_iload i_13_32 (x := nI i) rfl ?_
      refine mw_imul i_13_33 (w := nI (2 * i)) (pk_mul _ _) ?_
      refine mw_const i_13_34 (v := nI 1) (by decide) ?_
      refine mw_iadd i_13_35 (w := nI (2 * i + 1)) (nI_add _ _) ?_
      refine mw_aload i_13_36 (L := MEN) rfl ?_
      refine mw_getR i_13_37 hS.2.1.2.2.2.2 (q := some (CA (cix R (dn σ)))) h9 ?_
      refine mw_getR i_13_38 hC_dnσ.1 (q := some (MM (cix R (dn σ)))) hC_dnσ.2.1 ?_
      refine mw_iload i_13_39 (x := nI i) rfl ?_
      refine mw_aald i_13_40 (jn := i) (n := 6) (by omega) (by omega) hC_dnσ.2.2.1 (by decide) (q := some (MT (cix R (dn σ)) (pm R (cix R (dn σ)) i))) (hC_dnσ.2.2.2.2.1 i (by omega)).2 ?_
      refine mw_get i_13_41 (hC_dnσ.2.2.2.1 _ (hC_dnσ.2.2.2.2.1 i (by omega)).1) (v := nI (sw σ (2 * i + 1))) (by rw [hF1 (MT (cix R (dn σ)) (pm R (cix R (dn σ)) i)) (show 21 ≠ 9 by decide) (show 21 ≠ 10 by decide)]; exact (by rw [(hm_dnσ i (by omega)).2.1]; exact so.2.2.2)) ?_
      refine mw_callV i_13_42 mf_14 (as := [pI (nI (2 * i + 1)), pI (nI (sw σ (2 * i + 1)))]) (rest := []) (d' := d9) (b' := b) (ls0 := [some (pR (some MEN)), some (pI (nI (2 * i + 1))), some (pI (nI (sw σ (2 * i + 1))))]) rfl rfl rfl (Nat.le_of_ble_eq_true rfl) hS.2.1.2.2.2.2 rfl rfl rfl ?_
      refine k_lookAtSeat (m := 2 * i + 1) (v := sw σ (2 * i + 1)) (by omega) (CW_N hW hF1 FrR_rfl) h8 (by omega) (by omega) rfl se1 ?_
      intro I2 hF2 se2
      refine aft_n ?_
      refine mw_iinc i_13_43 (x := nI i) (v := nI (i + 1)) (ls' := [some (pR (some MEN)), some (pR (some (CA (cix R (dn σ))))), some (pI (nI (dn σ))), some (pR (some ROS)), some (pI (nI rs)), some (pI (nI (i + 1)))]) rfl (nI_add _ _) rfl ?_
      refine mw_goto i_13_44 ?_
      exact ih (i + 1) I2 (by omega) (by omega) (CW_N hW (FrN_tr hF1 hF2) FrR_rfl) (FrN_tr hF0 (FrN_tr hF1 hF2)) (by rw [show 2 * (i + 1) = 2 * i + 1 + 1 by omega]; exact se2)
theorem wrt_eq {σ : ST} {I : IM} {R : RM} (h : RC σ I R) {w t : Nat} (hw : w < 10) (ht : t < 4) : wth (I (WR w) 3) (I (LV w) t) (I (WR w) 6) = wrt σ t w := by
  have a := RC_rd h hw
  unfold wrt
  rw [a.1, a.2.2.2.1, a.2.2.2.2.2.2.2.2.2.2.1 t ht]
set_option maxRecDepth 20000 in
set_option maxHeartbeats 400000 in
theorem k_look2_lp {d : Nat} {b : Nat} {K : KM} {R : RM} {Q : QT} {n0 tw : Nat} {σ : ST} {I0 : IM} (hd : 2 ≤ d) (h8 : R MEN 8 = some ROS) (h9 : R MEN 9 = some (CA (cix R (dn σ)))) (h0 : mn σ (dn σ) ≠ 0) (htw : σ 21 (dn σ) = nI tw) (htw4 : tw < 4) (q : ∀ I', CW n0 σ K I' R → FrN I0 I' → SE σ (2 * mn σ (dn σ)) I' → CN σ tw (pn σ) I' → Q (.inl none) K I' R) : ∀ (n i : Nat) (I : IM), pn σ - i < n → i ≤ pn σ → (CW n0 σ K I R) → (FrN I0 I) → (SE σ (2 * mn σ (dn σ)) I) → (CN σ tw i I) → Mw d b N_X2_lookAt 50 [some (pR (some MEN)), some (pR (some (CA (cix R (dn σ))))), some (pI (nI (dn σ))), some (pR (some ROS)), some (pI (nI (pn σ))), some (pI (nI i))] [] K I R Q := by
  obtain ⟨d9, rfl⟩ : ∃ d9, d = d9 + 1 := ⟨d - 1, by omega⟩
  intro n
  induction n with
  | zero => intro i I  hn; exact absurd hn (Nat.not_lt_zero _)
  | succ n ih =>
    intro i I  hn hi hW hF0 hse hcn
    have hS := hW.1.1
    have hR := hW.2.1
    have hV := hW.2.2
    have hpp := hW.2.2.1.2
    have hdd := hW.2.2.2.2.1.2
    obtain ⟨hC_dnσ, hz_dnσ, hz6_dnσ, hp_dnσ, ht0_dnσ, hm_dnσ⟩ := CW_c hW (d := dn σ) (by omega)
    have hc12 : cnt (cand σ) i ≤ i := cnt_le _ _
    refine mw_iload i_13_50 (x := nI i) rfl ?_
    refine mw_iload i_13_51 (x := nI (pn σ)) rfl ?_
    refine mw_ic i_13_52 (p := (pn σ) ≤ i) (nI_leI (by omega) (by omega)) (fun c1 => ?_) (fun c1 => ?_)
    · skip
      refine mw_ret i_13_99 ?_
      obtain rfl : i = pn σ := by omega
      exact q _ hW hF0 hse hcn
    · skip
      refine mw_aload i_13_53 (L := MEN) rfl ?_
      refine mw_getR i_13_54 hS.2.1.2.2.2.2 (q := some ROS) h8 ?_
      refine mw_iload i_13_55 (x := nI i) rfl ?_
      refine mw_aald i_13_56 (jn := i) (n := 10) (by omega) (by omega) hS.2.1.1 (by decide) (q := some (WR i)) (hS.2.2.1 i (by omega)).1 ?_
      refine mw_aload i_13_57 (L := MEN) rfl ?_
      refine mw_get i_13_58 hS.2.1.2.2.2.2 (v := nI (dn σ)) hse.1 ?_
      refine mw_callV i_13_59 mf_27 (as := [pI (nI (dn σ))]) (rest := []) (d' := d9) (b' := b) (ls0 := [some (pR (some (WR i))), some (pI (nI (dn σ)))]) rfl rfl rfl (Nat.le_of_ble_eq_true rfl) (hS.2.2.1 i (by omega)).2.1 rfl rfl rfl ?_
      refine k_isHurtOn hS (by omega) ?_
      rw [show bI (nI (dn σ) < I (WR i) 7) = bI (hu σ i) from by rw [(RC_rd hR (w := i) (by omega)).2.2.2.2.1]; rfl]
      refine aft_v ?_
      refine mw_neB i_13_60 rfl (fun c2 => ?_) (fun c2 => ?_)
      · skip
        refine mw_iinc i_13_97 (x := nI i) (v := nI (i + 1)) (ls' := [some (pR (some MEN)), some (pR (some (CA (cix R (dn σ))))), some (pI (nI (dn σ))), some (pR (some ROS)), some (pI (nI (pn σ))), some (pI (nI (i + 1)))]) rfl (nI_add _ _) rfl ?_
        refine mw_goto i_13_98 ?_
        exact ih (i + 1) I (by omega) (by omega) hW hF0 hse (CN_f hcn (fun h => h.1 c2))
      · skip
        refine mw_aload i_13_61 (L := MEN) rfl ?_
        refine mw_getR i_13_62 hS.2.1.2.2.2.2 (q := some (CA (cix R (dn σ)))) h9 ?_
        refine mw_iload i_13_63 (x := nI i) rfl ?_
        refine mw_callV i_13_64 mf_3 (as := [pI (nI i)]) (rest := []) (d' := d9) (b' := b) (ls0 := [some (pR (some (CA (cix R (dn σ))))), some (pI (nI i)), none]) rfl rfl rfl (Nat.le_of_ble_eq_true rfl) hC_dnσ.1 rfl rfl rfl ?_
        refine k_hasW hC_dnσ hz_dnσ hz6_dnσ ?_
        rw [bI_congr (onC_iff hW (by omega) (nI i))]
        refine aft_v ?_
        refine mw_neB i_13_65 rfl (fun c3 => ?_) (fun c3 => ?_)
        · skip
          refine mw_iinc i_13_97 (x := nI i) (v := nI (i + 1)) (ls' := [some (pR (some MEN)), some (pR (some (CA (cix R (dn σ))))), some (pI (nI (dn σ))), some (pR (some ROS)), some (pI (nI (pn σ))), some (pI (nI (i + 1)))]) rfl (nI_add _ _) rfl ?_
          refine mw_goto i_13_98 ?_
          exact ih (i + 1) I (by omega) (by omega) hW hF0 hse (CN_f hcn (fun h => h.2 c3))
        · skip
          refine mw_aload i_13_66 (L := MEN) rfl ?_
          refine mw_getR i_13_67 hS.2.1.2.2.2.2 (q := some (MN 5)) (hS.2.2.2.2 5 (by omega)).1 ?_
          refine mw_aload i_13_68 (L := MEN) rfl ?_
          refine mw_get i_13_69 hS.2.1.2.2.2.2 (v := nI (cnt (cand σ) i)) hcn.1 ?_
          refine mw_iload i_13_70 (x := nI i) rfl ?_
          obtain ⟨I24, e24⟩ : ∃ I24, I24 = up2 I (MN 5) (cnt (cand σ) i) (nI i) := ⟨_, rfl⟩
          refine mw_iast i_13_71 (jn := cnt (cand σ) i) (n := 10) (by omega) (by omega) (x := nI i) (show K (MN 5) = some (7, 10) from (hS.2.2.2.2 5 (by omega)).2) (I' := I24) e24.symm ?_
          refine mw_aload i_13_72 (L := MEN) rfl ?_
          refine mw_getR i_13_73 hS.2.1.2.2.2.2 (q := some (MN 6)) (hS.2.2.2.2 6 (by omega)).1 ?_
          refine mw_aload i_13_74 (L := MEN) rfl ?_
          refine mw_get i_13_75 hS.2.1.2.2.2.2 (v := nI (cnt (cand σ) i)) (by rw [e24, up2_ne (by simp)]; exact hcn.1) ?_
          refine mw_aload i_13_76 (L := MEN) rfl ?_
          refine mw_getR i_13_77 hS.2.1.2.2.2.2 (q := some ROS) h8 ?_
          refine mw_iload i_13_78 (x := nI i) rfl ?_
          refine mw_aald i_13_79 (jn := i) (n := 10) (by omega) (by omega) hS.2.1.1 (by decide) (q := some (WR i)) (hS.2.2.1 i (by omega)).1 ?_
          refine mw_aload i_13_80 (L := MEN) rfl ?_
          refine mw_getR i_13_81 hS.2.1.2.2.2.2 (q := some (CA (cix R (dn σ)))) h9 ?_
          refine mw_get i_13_82 hC_dnσ.1 (v := nI tw) (by rw [e24, up2_ne (by simp)]; exact (by obtain ⟨c8, c9⟩ := ht0_dnσ h0; rw [c8, c9]; exact htw)) ?_
          refine mw_callV i_13_83 mf_29 (as := [pI (nI tw)]) (rest := [pI (nI (cnt (cand σ) i)), pR (some (MN 6))]) (d' := d9) (b' := b) (ls0 := [some (pR (some (WR i))), some (pI (nI tw))]) rfl rfl rfl (Nat.le_of_ble_eq_true rfl) (hS.2.2.1 i (by omega)).2.1 rfl rfl rfl ?_
          refine k_worthIn (by omega) hS (by omega) (by omega) ?_
          rw [show wth (I24 (WR i) 3) (I24 (LV i) tw) (I24 (WR i) 6) = wrt σ tw i from by rw [e24, up2_ne (by simp), up2_ne (by simp)]; exact wrt_eq hR (by omega) (by omega)]
          refine aft_v ?_
          obtain ⟨I25, e25⟩ : ∃ I25, I25 = up2 I24 (MN 6) (cnt (cand σ) i) (wrt σ tw i) := ⟨_, rfl⟩
          refine mw_iast i_13_84 (jn := cnt (cand σ) i) (n := 10) (by omega) (by omega) (x := wrt σ tw i) (show K (MN 6) = some (7, 10) from (hS.2.2.2.2 6 (by omega)).2) (I' := I25) e25.symm ?_
          refine mw_aload i_13_85 (L := MEN) rfl ?_
          refine mw_getR i_13_86 hS.2.1.2.2.2.2 (q := some (MN 7)) (hS.2.2.2.2 7 (by omega)).1 ?_
          refine mw_aload i_13_87 (L := MEN) rfl ?_
          refine mw_get i_13_88 hS.2.1.2.2.2.2 (v := nI (cnt (cand σ) i)) (by rw [e25, up2_ne (by simp), e24, up2_ne (by simp)]; exact hcn.1) ?_
          refine mw_const i_13_89 (v := nI 0) (by decide) ?_
          obtain ⟨I26, e26⟩ : ∃ I26, I26 = up2 I25 (MN 7) (cnt (cand σ) i) (nI 0) := ⟨_, rfl⟩
          refine mw_bast i_13_90 (jn := cnt (cand σ) i) (n := 10) (by omega) (by omega) (x := nI 0) (show K (MN 7) = some (8, 10) from (hS.2.2.2.2 7 (by omega)).2) (by decide) (I' := I26) e26.symm ?_
          refine mw_aload i_13_91 (L := MEN) rfl ?_
          refine mw_dup i_13_92 trivial ?_
          refine mw_get i_13_93 hS.2.1.2.2.2.2 (v := nI (cnt (cand σ) i)) (by rw [e26, up2_ne (by simp), e25, up2_ne (by simp), e24, up2_ne (by simp)]; exact hcn.1) ?_
          refine mw_const i_13_94 (v := nI 1) (by decide) ?_
          refine mw_iadd i_13_95 (w := nI (cnt (cand σ) i + 1)) (nI_add _ _) ?_
          obtain ⟨I27, e27⟩ : ∃ I27, I27 = up2 I26 MEN 12 (nI (cnt (cand σ) i + 1)) := ⟨_, rfl⟩
          refine mw_put i_13_96 (x := nI (cnt (cand σ) i + 1)) hS.2.1.2.2.2.2 (I' := I27) e27.symm ?_
          refine mw_iinc i_13_97 (x := nI i) (v := nI (i + 1)) (ls' := [some (pR (some MEN)), some (pR (some (CA (cix R (dn σ))))), some (pI (nI (dn σ))), some (pR (some ROS)), some (pI (nI (pn σ))), some (pI (nI (i + 1)))]) rfl (nI_add _ _) rfl ?_
          refine mw_goto i_13_98 ?_
          exact ih (i + 1) I27 (by omega) (by omega) (CW_N hW ((e27.symm ▸ FrN_up ((e26.symm ▸ FrN_up ((e25.symm ▸ FrN_up ((e24.symm ▸ FrN_up (FrN_rfl) (by decide))) (by decide))) (by decide))) (by decide))) FrR_rfl) (FrN_tr hF0 ((e27.symm ▸ FrN_up ((e26.symm ▸ FrN_up ((e25.symm ▸ FrN_up ((e24.symm ▸ FrN_up (FrN_rfl) (by decide))) (by decide))) (by decide))) (by decide)))) (SE_eq hse (by rw [e27, up2_at, e26, up2_ne (by simp), e25, up2_ne (by simp), e24, up2_ne (by simp), upd_ne (by decide)]) (by rw [e27, up2_at, e26, up2_ne (by simp), e25, up2_ne (by simp), e24, up2_ne (by simp), upd_ne (by decide)]) (by rw [e27, up2_ne (by simp), e26, up2_ne (by simp), e25, up2_ne (by simp), e24, up2_ne (by simp)]) (by rw [e27, up2_ne (by simp), e26, up2_ne (by simp), e25, up2_ne (by simp), e24, up2_ne (by simp)]) (by rw [e27, up2_ne (by simp), e26, up2_ne (by simp), e25, up2_ne (by simp), e24, up2_ne (by simp)])) (CN_t hcn ⟨c2, c3⟩ (by rw [e27, up2_at, e26, up2_ne (by simp), e25, up2_ne (by simp), e24, up2_ne (by simp), upd_at]) (by rw [e27, up2_ne (by simp), e26, up2_ne (by simp), e25, up2_ne (by simp), e24, up2_at]) (by rw [e27, up2_ne (by simp), e26, up2_ne (by simp), e25, up2_at, e24, up2_ne (by simp)]) (by rw [e27, up2_ne (by simp), e26, up2_at, e25, up2_ne (by simp), e24, up2_ne (by simp)]))
theorem cix_N {R R' : RM} (h : FrR R R') {d : Nat} : cix R' d = cix R d := by
  unfold cix
  rw [h.1 CRD (by simp)]
/-- the mender has looked at today's card -/
def MW (σ : ST) (tw : Nat) (I : IM) (R : RM) : Prop := R MEN 8 = some ROS ∧ R MEN 9 = some (CA (cix R (dn σ))) ∧ SE σ (2 * mn σ (dn σ)) I ∧ CN σ tw (pn σ) I
def mOK (σ : ST) : Prop := ¬ mn σ (dn σ) = 0 ∧ σ 22 (dn σ) = nI 0 ∧ cnt (opn σ) (2 * mn σ (dn σ)) ≤ 4
set_option maxRecDepth 20000 in
set_option maxHeartbeats 400000 in
theorem k_look_mid {d b : Nat} {K : KM} {I : IM} {R : RM} {Q : QT} {n tw : Nat} {σ : ST} (hd : 2 ≤ d) (hW : CW n σ K I R) (h8 : R MEN 8 = some ROS) (h9 : R MEN 9 = some (CA (cix R (dn σ)))) (h0 : mn σ (dn σ) ≠ 0) (htw : σ 21 (dn σ) = nI tw) (htw4 : tw < 4) (hse : SE σ (2 * mn σ (dn σ)) I) (q : ∀ I', CW n σ K I' R → FrN I I' → SE σ (2 * mn σ (dn σ)) I' → CN σ tw (pn σ) I' → Q (.inl none) K I' R) : Mw d b N_X2_lookAt 45 [some (pR (some MEN)), some (pR (some (CA (cix R (dn σ))))), some (pI (nI (dn σ))), some (pR (some ROS)), some (pI (nI (pn σ))), some (pI (nI (mn σ (dn σ))))] [] K I R Q := by
  obtain ⟨d9, rfl⟩ : ∃ d9, d = d9 + 1 := ⟨d - 1, by omega⟩
  have hS := hW.1.1
  have hR := hW.2.1
  have hV := hW.2.2
  have hpp := hW.2.2.1.2
  have hdd := hW.2.2.2.2.1.2
  refine mw_aload i_13_45 (L := MEN) rfl ?_
  refine mw_const i_13_46 (v := nI 0) (by decide) ?_
  obtain ⟨I21, e21⟩ : ∃ I21, I21 = up2 I MEN 12 (nI 0) := ⟨_, rfl⟩
  refine mw_put i_13_47 (x := nI 0) hS.2.1.2.2.2.2 (I' := I21) e21.symm ?_
  refine mw_const i_13_48 (v := nI 0) (by decide) ?_
  refine mw_istore i_13_49 (ls' := [some (pR (some MEN)), some (pR (some (CA (cix R (dn σ))))), some (pI (nI (dn σ))), some (pR (some ROS)), some (pI (nI (pn σ))), some (pI (nI 0))]) rfl (Nat.le_of_ble_eq_true rfl) ?_
  exact k_look2_lp (by omega) h8 h9 h0 htw htw4 (I0 := I) q (pn σ + 1) 0 I21 (by omega) (by omega) (CW_N hW ((e21.symm ▸ FrN_up (FrN_rfl) (by decide))) FrR_rfl) ((e21.symm ▸ FrN_up (FrN_rfl) (by decide))) (SE_eq hse (by rw [e21, up2_at, upd_ne (by decide)]) (by rw [e21, up2_at, upd_ne (by decide)]) (by rw [e21, up2_ne (by simp)]) (by rw [e21, up2_ne (by simp)]) (by rw [e21, up2_ne (by simp)])) ⟨by rw [e21, up2_at, upd_at]; rfl, fun k hk => absurd hk (Nat.not_lt_zero _)⟩
set_option maxRecDepth 20000 in
set_option maxHeartbeats 400000 in
theorem k_lookAt {d b : Nat} {K : KM} {I : IM} {R : RM} {Q : QT} {n tw : Nat} {σ : ST} (hd : 2 ≤ d) (hW : CW n σ K I R) (h0 : mn σ (dn σ) ≠ 0) (htw : σ 21 (dn σ) = nI tw) (htw4 : tw < 4) (q : ∀ I' R', FrN I I' → FrR R R' → CW n σ K I' R' → MW σ tw I' R' → Q (.inl none) K I' R') : Mw d b N_X2_lookAt 0 [some (pR (some MEN)), some (pR (some (CA (cix R (dn σ))))), some (pI (nI (dn σ))), some (pR (some ROS)), some (pI (nI (pn σ))), none] [] K I R Q := by
  obtain ⟨d9, rfl⟩ : ∃ d9, d = d9 + 1 := ⟨d - 1, by omega⟩
  have hS := hW.1.1
  have hR := hW.2.1
  have hV := hW.2.2
  have hpp := hW.2.2.1.2
  have hdd := hW.2.2.2.2.1.2
  obtain ⟨hC_dnσ, hz_dnσ, hz6_dnσ, hp_dnσ, ht0_dnσ, hm_dnσ⟩ := CW_c hW (d := dn σ) (by omega)
  refine mw_aload i_13_0 (L := MEN) rfl ?_
  refine mw_aload i_13_1 (L := CA (cix R (dn σ))) rfl ?_
  obtain ⟨R21, eR21⟩ : ∃ R21, R21 = up2R R MEN 9 (some (CA (cix R (dn σ)))) := ⟨_, rfl⟩
  refine mw_putR i_13_2 hS.2.1.2.2.2.2 (R' := R21) eR21.symm ?_
  refine mw_aload i_13_3 (L := MEN) rfl ?_
  refine mw_iload i_13_4 (x := nI (dn σ)) rfl ?_
  obtain ⟨I22, e22⟩ : ∃ I22, I22 = up2 I MEN 10 (nI (dn σ)) := ⟨_, rfl⟩
  refine mw_put i_13_5 (x := nI (dn σ)) hS.2.1.2.2.2.2 (I' := I22) e22.symm ?_
  refine mw_aload i_13_6 (L := MEN) rfl ?_
  refine mw_aload i_13_7 (L := ROS) rfl ?_
  obtain ⟨R23, eR23⟩ : ∃ R23, R23 = up2R R21 MEN 8 (some ROS) := ⟨_, rfl⟩
  refine mw_putR i_13_8 hS.2.1.2.2.2.2 (R' := R23) eR23.symm ?_
  refine mw_aload i_13_9 (L := MEN) rfl ?_
  refine mw_const i_13_10 (v := nI 0) (by decide) ?_
  obtain ⟨I24, e24⟩ : ∃ I24, I24 = up2 I22 MEN 11 (nI 0) := ⟨_, rfl⟩
  refine mw_put i_13_11 (x := nI 0) hS.2.1.2.2.2.2 (I' := I24) e24.symm ?_
  refine mw_const i_13_12 (v := nI 0) (by decide) ?_
  refine mw_istore i_13_13 (ls' := [some (pR (some MEN)), some (pR (some (CA (cix R (dn σ))))), some (pI (nI (dn σ))), some (pR (some ROS)), some (pI (nI (pn σ))), some (pI (nI 0))]) rfl (Nat.le_of_ble_eq_true rfl) ?_
  have hFR : FrR R R23 := eR23.symm ▸ FrR_up (eR21.symm ▸ FrR_up FrR_rfl (by decide)) (by decide)
  have hFN : FrN I I24 := (e24.symm ▸ FrN_up ((e22.symm ▸ FrN_up (FrN_rfl) (by decide))) (by decide))
  have hW2 := CW_N hW hFN hFR
  have h8 : R23 MEN 8 = some ROS := by rw [eR23, up2R_is]
  have ec := cix_N hFR (d := dn σ)
  have h9 : R23 MEN 9 = some (CA (cix R23 (dn σ))) := by rw [ec, eR23, up2R_slot (by decide), eR21, up2R_is]
  rw [← ec]
  refine k_look1_lp (by omega) h8 h9 (I0 := I) (rs := pn σ) (fun I9 hW9 hF9 se9 => ?_) (mn σ (dn σ) + 1) 0 I24 (by omega) (by omega) hW2 hFN (SE_0 (by rw [e24, up2_at, e22, up2_at, upd_ne (by decide), upd_at]) (by rw [e24, up2_at, e22, up2_at, upd_at]))
  exact k_look_mid (by omega) hW9 h8 h9 h0 htw htw4 se9 (fun I8 hW8 hF8 se8 cn8 => q I8 _ (FrN_tr hF9 hF8) hFR hW8 ⟨h8, h9, se8, cn8⟩)
set_option maxRecDepth 20000 in
set_option maxHeartbeats 400000 in
theorem k_mView {d b : Nat} {K : KM} {I : IM} {R : RM} {Q : QT} {n : Nat} {σ : ST} (hd : 8 ≤ d) (hW : CW n σ K I R) (hb : 7 ≤ b) (q1 : ¬ mOK σ → ∀ I' R', FrN I I' → FrR R R' → CW n σ K I' R' → Q (.inr 2) K I' R') (q0 : mOK σ → ∀ I' R' tw, FrN I I' → FrR R R' → CW n σ K I' R' → σ 21 (dn σ) = nI tw → tw < 4 → MW σ tw I' R' → Q (.inl (some (pR (some MEN)))) K I' R') : Mw d b N_X5_mendersView 0 [some (pR (some RING)), none] [] K I R Q := by
  obtain ⟨d9, rfl⟩ : ∃ d9, d = d9 + 1 := ⟨d - 1, by omega⟩
  have hS := hW.1.1
  have hR := hW.2.1
  have hV := hW.2.2
  have hpp := hW.2.2.1.2
  have htt := hW.2.2.2.1.2
  have hdd := hW.2.2.2.2.1.2
  refine mw_aload i_72_0 (L := RING) rfl ?_
  refine mw_aload i_72_1 (L := RING) rfl ?_
  refine mw_get i_72_2 hS.1.1 (v := nI (dn σ)) (CW_d hW) ?_
  obtain ⟨hC_dnσ, hz_dnσ, hz6_dnσ, hp_dnσ, ht0_dnσ, hm_dnσ⟩ := CW_c hW (d := dn σ) (by omega)
  refine mw_callV i_72_3 mf_63 (as := [pI (nI (dn σ))]) (rest := []) (d' := d9) (b' := b) (ls0 := [some (pR (some RING)), some (pI (nI (dn σ)))]) rfl rfl rfl (Nat.le_of_ble_eq_true rfl) hS.1.1 rfl rfl rfl ?_
  refine k_cardOf (by omega) hW.1 (by omega) ?_
  refine aft_v ?_
  refine mw_astore i_72_4 (ls' := [some (pR (some RING)), some (pR (some (CA (cix R (dn σ)))))]) rfl (Nat.le_of_ble_eq_true rfl) ?_
  refine mw_aload i_72_5 (L := CA (cix R (dn σ))) rfl ?_
  refine mw_get i_72_6 hC_dnσ.1 (v := nI (mn σ (dn σ))) hz_dnσ ?_
  refine mw_if i_72_7 (p := (nI (mn σ (dn σ))) = nI 0) Iff.rfl (fun c1 => ?_) (fun c1 => ?_)
  · skip
    refine mw_throw i_72_11 hx_72 (by omega) (by omega) ?_
    exact q1 (fun h => h.1 (nI_inj c1 (by omega) (by omega))) I R FrN_rfl FrR_rfl hW
  · skip
    refine mw_aload i_72_8 (L := CA (cix R (dn σ))) rfl ?_
    refine mw_get i_72_9 hC_dnσ.1 (v := σ 22 (dn σ)) hp_dnσ ?_
    refine mw_if i_72_10 (p := (σ 22 (dn σ)) = nI 0) Iff.rfl (fun c2 => ?_) (fun c2 => ?_)
    · skip
      refine mw_aload i_72_16 (L := RING) rfl ?_
      refine mw_getR i_72_17 hS.1.1 (q := some MEN) hS.1.2.2.2.2.2.2 ?_
      refine mw_aload i_72_18 (L := CA (cix R (dn σ))) rfl ?_
      refine mw_aload i_72_19 (L := RING) rfl ?_
      refine mw_get i_72_20 hS.1.1 (v := nI (dn σ)) (CW_d hW) ?_
      refine mw_aload i_72_21 (L := RING) rfl ?_
      refine mw_getR i_72_22 hS.1.1 (q := some ROS) hS.1.2.1 ?_
      refine mw_aload i_72_23 (L := RING) rfl ?_
      refine mw_get i_72_24 hS.1.1 (v := nI (pn σ)) (CW_p hW) ?_
      have h0 : mn σ (dn σ) ≠ 0 := fun h => c1 (by rw [h])
      obtain ⟨tw, htw4, htw⟩ := (hV.2.2.2.2.2.1 (dn σ) (by omega)).2.2.2.1 h0
      refine mw_callV i_72_25 mf_13 (as := [pR (some (CA (cix R (dn σ)))), pI (nI (dn σ)), pR (some ROS), pI (nI (pn σ))]) (rest := []) (d' := d9) (b' := b) (ls0 := [some (pR (some MEN)), some (pR (some (CA (cix R (dn σ))))), some (pI (nI (dn σ))), some (pR (some ROS)), some (pI (nI (pn σ))), none]) rfl rfl rfl (Nat.le_of_ble_eq_true rfl) hS.2.1.2.2.2.2 rfl rfl rfl ?_
      refine k_lookAt (by omega) hW h0 htw htw4 ?_
      intro I9 R9 hF9 hFR9 hW9 hM9
      replace hS := hW9.1.1
      have hse := hM9.2.2.1
      have hc12 : cnt (opn σ) (2 * mn σ (dn σ)) ≤ 2 * mn σ (dn σ) := cnt_le _ _
      refine aft_n ?_
      refine mw_aload i_72_26 (L := RING) rfl ?_
      refine mw_getR i_72_27 hS.1.1 (q := some MEN) hS.1.2.2.2.2.2.2 ?_
      refine mw_getN i_72_28 hS.2.1.2.2.2.2 (v := nI (cnt (opn σ) (2 * mn σ (dn σ)))) hse.2.1 ?_
      refine mw_const i_72_29 (v := nI 4) (by decide) ?_
      refine mw_ic i_72_30 (p := (cnt (opn σ) (2 * mn σ (dn σ))) ≤ 4) (nI_leI (by omega) (by omega)) (fun c3 => ?_) (fun c3 => ?_)
      · skip
        refine mw_aload i_72_36 (L := RING) rfl ?_
        refine mw_getR i_72_37 hS.1.1 (q := some MEN) hS.1.2.2.2.2.2.2 ?_
        refine mw_aret i_72_38 (L := MEN) ?_
        exact q0 ⟨h0, by first | exact c2 | exact Classical.not_not.mp c2, by omega⟩ I9 R9 tw hF9 hFR9 hW9 htw htw4 hM9
      · skip
        refine mw_throw i_72_31 hx_72 (by omega) (by omega) ?_
        exact q1 (fun h => absurd h.2.2 (by omega)) I9 R9 hF9 hFR9 hW9
    · skip
      refine mw_throw i_72_11 hx_72 (by omega) (by omega) ?_
      exact q1 (fun h => c2 h.2.1) I R FrN_rfl FrR_rfl hW
