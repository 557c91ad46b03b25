/-! the law holds -/
theorem and31 (x : Int32) : ∃ u, u < 2147483648 ∧ x &&& nI 2147483647 = nI u := by
  refine ⟨(x.toBitVec &&& 2147483647#32).toNat, ?_, ?_⟩
  · rw [BitVec.toNat_and]
    exact Nat.lt_of_le_of_lt Nat.and_le_right (by decide)
  · apply Int32.toBitVec_inj.1
    show x.toBitVec &&& BitVec.ofNat 32 2147483647 = BitVec.ofNat 32 (x.toBitVec &&& 2147483647#32).toNat
    rw [BitVec.ofNat_toNat]
    simp
theorem CW_hi {n : Nat} {σ : ST} {K K' : KM} {I I' : IM} {R R' : RM} (h : CW n σ K I R) (e : ∀ L : Lb, 4 ≤ L.1 → K' L = K L ∧ I' L = I L ∧ R' L = R L) : CW n σ K' I' R' := by
  obtain ⟨⟨⟨⟨a1, a2, a3, a4, a5, a6, a7⟩, ⟨b1, b2, b3, b4, b5⟩, hw, ht, hm⟩, hn, hc⟩, hR, hV⟩ := h
  have ep : ∀ c, pm R' c = pm R c := fun c => by funext j; unfold pm; rw [(e (MM c) (by show 4 ≤ 20; decide)).2.2]
  have co : ∀ c, CO K R c → CO K' R' c := fun c q => by
    obtain ⟨q1, q2, q3, q4, q5, q6⟩ := q
    unfold CO
    rw [ep]
    have A := e (CA c) (by show 4 ≤ 19; decide)
    have B := e (MM c) (by show 4 ≤ 20; decide)
    exact ⟨by rw [A.1]; exact q1, by rw [A.2.2]; exact q2, by rw [B.1]; exact q3, fun j hj => by rw [(e (MT c j) (by show 4 ≤ 21; decide)).1]; exact q4 j hj, fun j hj => ⟨(q5 j hj).1, by rw [B.2.2]; exact (q5 j hj).2⟩, q6⟩
  have r := e RING (by decide)
  have crd := e CRD (by decide)
  have men := e MEN (by decide)
  refine ⟨⟨⟨⟨by rw [r.1]; exact a1, by rw [r.2.2]; exact a2, by rw [r.2.2]; exact a3, by rw [r.2.2]; exact a4, by rw [r.2.2]; exact a5, by rw [r.2.2]; exact a6, by rw [r.2.2]; exact a7⟩, ⟨by rw [(e ROS (by decide)).1]; exact b1, by rw [(e TIT (by decide)).1]; exact b2, by rw [crd.1]; exact b3, by rw [(e GAT (by decide)).1]; exact b4, by rw [men.1]; exact b5⟩, fun w q => ?_, fun t q => ?_, fun k q => ?_⟩, co _ hn, fun c q => ?_⟩, ?_, hV⟩
  · obtain ⟨w0, w1, w2, w3, w4, w5, w6, w7⟩ := hw w q
    have A := e (WR w) (by show 4 ≤ 12; decide)
    exact ⟨by rw [(e ROS (by decide)).2.2]; exact w0, by rw [A.1]; exact w1, by rw [A.2.2]; exact w2, by rw [A.2.2]; exact w3, by rw [A.2.2]; exact w4, by rw [(e (LV w) (by show 4 ≤ 13; decide)).1]; exact w5, by rw [(e (CD w) (by show 4 ≤ 14; decide)).1]; exact w6, by rw [(e (WA w) (by show 4 ≤ 15; decide)).1]; exact w7⟩
  · obtain ⟨t0, t1, t2, t3, t4, t5⟩ := ht t q
    have A := e (TT t) (by show 4 ≤ 16; decide)
    exact ⟨by rw [(e TIT (by decide)).2.2]; exact t0, by rw [A.1]; exact t1, by rw [A.2.2]; exact t2, by rw [A.2.2]; exact t3, by rw [(e (TH t) (by show 4 ≤ 17; decide)).1]; exact t4, by rw [(e (TD t) (by show 4 ≤ 18; decide)).1]; exact t5⟩
  · exact ⟨by rw [men.2.2]; exact (hm k q).1, by rw [(e (MN k) (by show 4 ≤ 10; decide)).1]; exact (hm k q).2⟩
  · rw [crd.2.2]
    rcases hc c q with ⟨h1, h2, h3, h4⟩ | ⟨h1, h2⟩
    · exact Or.inl ⟨h1, by rw [(e (CA c) (by show 4 ≤ 19; decide)).1]; exact h2, by rw [(e (MM c) (by show 4 ≤ 20; decide)).1]; exact h3, fun j => by rw [(e (MT c j) (by show 4 ≤ 21; decide)).1]; exact h4 j⟩
    · exact Or.inr ⟨h1, co c h2⟩
  · obtain ⟨q1, q2, q3, q4, q5, q6⟩ := hR
    have hI : ∀ L : Lb, 4 ≤ L.1 → I' L = I L := fun L h => (e L h).2.1
    refine ⟨by rw [hI RING (by decide)]; exact q1, fun t h => by rw [hI GAT (by decide)]; exact q2 t h, fun w h => ?_, fun t h => ?_, by rw [hI (CA 1000) (by decide)]; exact q5, fun d h => ?_⟩
    · have := q3 w h
      unfold RCw at *
      rw [hI (WR w) (by show 4 ≤ 12; decide), hI (LV w) (by show 4 ≤ 13; decide), hI (CD w) (by show 4 ≤ 14; decide), hI (WA w) (by show 4 ≤ 15; decide)]
      unfold prO at *
      rw [hI (WR w) (by show 4 ≤ 12; decide)]
      exact this
    · have := q4 t h
      unfold RCt at *
      rw [hI (TT t) (by show 4 ≤ 16; decide), hI (TH t) (by show 4 ≤ 17; decide), hI (TD t) (by show 4 ≤ 18; decide)]
      exact this
    · have := q6 d h
      unfold RCc at *
      rw [crd.2.2, hI (CA d) (by show 4 ≤ 19; decide), ep]
      rcases this with h1 | ⟨h1, h2, h3, h4, h5⟩
      · exact Or.inl h1
      · refine Or.inr ⟨h1, h2, h3, h4, fun j hj => ?_⟩
        have := h5 j hj
        unfold RCm at *
        rw [hI _ (by show 4 ≤ 21; decide)]
        exact this
/-- the wrestlers below j are told -/
def HQ (L : Nat) (K : KM) (R : RM) (j : Nat) (I : IM) : Prop := ∃ σ, CW (2 + j) σ K I R ∧ KQ K ∧ K SC0 = some (14, L) ∧ pn σ = j ∧ tn σ = 2 ∧ dn σ = 0 ∧ (∀ i, i < j → I QW (9 * i) = σ 1 i ∧ I QW (9 * i + 1) = σ 2 i ∧ I QW (9 * i + 2) = σ 3 i ∧ (σ 3 i = nI 0 ∨ σ 3 i = nI 1)) ∧ (∀ k, k ≠ 1 → k ≠ 2 → k ≠ 3 → k ≠ 14 → k ≠ 18 → σ k = fun _ => 0) ∧ (∀ i f, 3 ≤ f → f < 9 → I QW (9 * i + f) = 0) ∧ I QV = (fun _ => 0) ∧ I QC = (fun _ => 0) ∧ I QB = (fun _ => 0) ∧ I QK = (fun _ => 0) ∧ I QM = fun _ => 0
theorem HQ_0 {L : Nat} {K : KM} {R : RM} {I : IM} (hC : CW 2 (tiS (tiS sg0)) K I R) (hQ : KQ K) (hK0 : K SC0 = some (14, L)) (z1 : I QW = fun _ => 0) (z2 : I QV = fun _ => 0) (z3 : I QC = fun _ => 0) (z4 : I QB = fun _ => 0) (z5 : I QK = fun _ => 0) (z6 : I QM = fun _ => 0) : HQ L K R 0 I := by
  refine ⟨tiS (tiS sg0), hC, hQ, hK0, rfl, rfl, rfl, fun i hi => absurd hi (Nat.not_lt_zero _), fun k h1 h2 h3 h4 h5 => ?_, fun i f _ _ => by rw [z1], z2, z3, z4, z5, z6⟩
  unfold tiS
  rw [sets_ne h5, sets_ne h5]
  rfl
theorem wrr_pn {σ : ST} {a b c : Int32} {j : Nat} (h : pn σ = j) (hj : j < 10) : pn (wrS σ a b c) = j + 1 := by
  unfold pn wrS
  rw [sets_at, h]
  exact nI_clamp (by omega)
theorem wrr_o {σ : ST} {a b c : Int32} {k : Nat} (h1 : k ≠ 1) (h2 : k ≠ 2) (h3 : k ≠ 3) (h4 : k ≠ 14) : wrS σ a b c k = σ k := by
  unfold wrS
  rw [sets_ne h4, ups_ne h3, ups_ne h2, ups_ne h1]
theorem wrr_1 {σ : ST} {a b c : Int32} : wrS σ a b c 1 = upd (σ 1) (pn σ) a := by
  unfold wrS
  rw [sets_ne (by decide), ups_ne (by decide), ups_ne (by decide), ups_at]
theorem wrr_2 {σ : ST} {a b c : Int32} : wrS σ a b c 2 = upd (σ 2) (pn σ) b := by
  unfold wrS
  rw [sets_ne (by decide), ups_ne (by decide), ups_at, ups_ne (by decide)]
theorem wrr_3 {σ : ST} {a b c : Int32} : wrS σ a b c 3 = upd (σ 3) (pn σ) c := by
  unfold wrS
  rw [sets_ne (by decide), ups_at, ups_ne (by decide), ups_ne (by decide)]
theorem HQ_s {L : Nat} {K : KM} {R : RM} {j : Nat} {I I1 I2 I3 I' : IM} {σ : ST} {a b c : Nat} (hj : j < 7) (hC : CW (2 + j) σ K I R) (hQ : KQ K) (hK0 : K SC0 = some (14, L)) (hp : pn σ = j) (ht : tn σ = 2) (hd : dn σ = 0) (hW : ∀ i, i < j → I QW (9 * i) = σ 1 i ∧ I QW (9 * i + 1) = σ 2 i ∧ I QW (9 * i + 2) = σ 3 i ∧ (σ 3 i = nI 0 ∨ σ 3 i = nI 1)) (hz : ∀ k, k ≠ 1 → k ≠ 2 → k ≠ 3 → k ≠ 14 → k ≠ 18 → σ k = fun _ => 0) (hf : ∀ i f, 3 ≤ f → f < 9 → I QW (9 * i + f) = 0) (z2 : I QV = fun _ => 0) (z3 : I QC = fun _ => 0) (z4 : I QB = fun _ => 0) (z5 : I QK = fun _ => 0) (z6 : I QM = fun _ => 0) (ha : a < 100) (hb : b < 100) (hc : c < 2) (e1 : I1 = up2 I QW (9 * j) (nI a)) (e2 : I2 = up2 I1 QW (9 * j + 1) (nI b)) (e3 : I3 = up2 I2 QW (9 * j + 2) (nI c)) (hF : FrC I3 I') (hR : RC (wrS σ (nI a) (nI b) (nI c)) I' R) : HQ L K R (j + 1) I' := by
  have hw : ∀ k, I' QW k = if k = 9 * j + 2 then nI c else if k = 9 * j + 1 then nI b else if k = 9 * j then nI a else I QW k := fun k => by
    rw [hF QW (by decide), e3, up2_at]; unfold upd
    rw [e2, up2_at]; unfold upd
    rw [e1, up2_at]; unfold upd
    rfl
  have ho : ∀ M : Lb, M.1 < 4 → M ≠ QW → I' M = I M := fun M h1 h2 => by
    rw [hF M h1, e3, up2_ne h2, e2, up2_ne h2, e1, up2_ne h2]
  refine ⟨wrS σ (nI a) (nI b) (nI c), ⟨hC.1, hR, IV_wr hC.2.2 ⟨a, ha, rfl⟩ ⟨b, hb, rfl⟩ ⟨c, hc, rfl⟩ (by omega)⟩, hQ, hK0, wrr_pn hp (by omega), ?_, ?_, fun i hi => ?_, fun k h1 h2 h3 h4 h5 => by rw [wrr_o h1 h2 h3 h4]; exact hz k h1 h2 h3 h4 h5, fun i f h1 h2 => ?_, by rw [ho QV (by decide) (by decide)]; exact z2, by rw [ho QC (by decide) (by decide)]; exact z3, by rw [ho QB (by decide) (by decide)]; exact z4, by rw [ho QK (by decide) (by decide)]; exact z5, by rw [ho QM (by decide) (by decide)]; exact z6⟩
  · unfold tn
    rw [wrr_o (by decide) (by decide) (by decide) (by decide)]; exact ht
  · unfold dn
    rw [wrr_o (by decide) (by decide) (by decide) (by decide)]; exact hd
  · rw [wrr_1, wrr_2, wrr_3, hp, hw, hw, hw]
    by_cases e : i = j
    · subst e
      rw [if_neg (by omega), if_neg (by omega), if_pos rfl, if_neg (by omega), if_pos rfl, if_pos rfl, upd_at, upd_at, upd_at]
      refine ⟨rfl, rfl, rfl, ?_⟩
      rcases (show c = 0 ∨ c = 1 by omega) with rfl | rfl
      · exact Or.inl rfl
      · exact Or.inr rfl
    · rw [if_neg (by omega), if_neg (by omega), if_neg (by omega), if_neg (by omega), if_neg (by omega), if_neg (by omega), if_neg (by omega), if_neg (by omega), if_neg (by omega), upd_ne e, upd_ne e, upd_ne e]
      exact hW i (by omega)
  · rw [hw, if_neg (by omega), if_neg (by omega), if_neg (by omega)]
    exact hf i f h1 h2
theorem HQ_W {L : Nat} {K : KM} {R : RM} {I : IM} (h : HQ L K R 7 I) : ∃ σ, WQ L 9 σ K I R := by
  obtain ⟨σ, hC, hQ, hK0, hp, ht, hd, hW, hz, hf, z2, z3, z4, z5, z6⟩ := h
  have hz' : ∀ k i, k ≠ 1 → k ≠ 2 → k ≠ 3 → k ≠ 14 → k ≠ 18 → σ k i = 0 := fun k i a b c d e => by rw [hz k a b c d e]
  have hmn : ∀ x, mn σ x = 0 := fun x => by
    unfold mn
    rw [hz' 20 x (by decide) (by decide) (by decide) (by decide) (by decide)]; rfl
  have hch : ∀ t, chO σ t = (-1) := fun t => by
    unfold chO
    rw [if_pos (show σ 17 t = nI 0 from hz' 17 t (by decide) (by decide) (by decide) (by decide) (by decide))]
  refine ⟨σ, hC, ⟨fun i hi => ?_, fun t _ i _ => ?_, fun i _ j _ => ?_, fun i _ j _ => ?_, ?_, fun x _ _ => ?_, fun x _ _ => ?_, fun t _ => ?_, fun t _ => ?_, hp, ht, by rw [hd]; exact Nat.zero_le _⟩, hQ, hK0⟩
  · obtain ⟨w1, w2, w3, w4⟩ := hW i hi
    refine ⟨w1, w2, w3, ?_, ?_, ?_, ?_, ?_, ⟨0, 0, by decide, by decide, ?_, ?_, ?_⟩, ⟨0, by decide, ?_⟩, w4⟩
    · rw [hf i 3 (by decide) (by decide), hz' 5 i (by decide) (by decide) (by decide) (by decide) (by decide)]
    · rw [hf i 4 (by decide) (by decide), hz' 6 i (by decide) (by decide) (by decide) (by decide) (by decide)]
    · rw [hf i 5 (by decide) (by decide), hz' 7 i (by decide) (by decide) (by decide) (by decide) (by decide)]
    · rw [hf i 6 (by decide) (by decide), hz' 8 i (by decide) (by decide) (by decide) (by decide) (by decide)]
    · rw [hf i 7 (by decide) (by decide), hz' 9 i (by decide) (by decide) (by decide) (by decide) (by decide)]
    · exact hz' 12 i (by decide) (by decide) (by decide) (by decide) (by decide)
    · exact hz' 10 i (by decide) (by decide) (by decide) (by decide) (by decide)
    · exact hf i 8 (by decide) (by decide)
    · exact hz' 6 i (by decide) (by decide) (by decide) (by decide) (by decide)
  · have e4 := hz' 4 (10 * t + i) (by decide) (by decide) (by decide) (by decide) (by decide)
    exact ⟨by rw [z2, e4], 0, by decide, Or.inl e4⟩
  · rw [z3, hz' 11 _ (by decide) (by decide) (by decide) (by decide) (by decide)]
  · rw [z4, hz' 13 _ (by decide) (by decide) (by decide) (by decide) (by decide)]
  · rw [z6, hz' 0 0 (by decide) (by decide) (by decide) (by decide) (by decide)]
  · refine ⟨by rw [z6, hmn]; rfl, by rw [hmn]; decide, fun q => absurd (hmn x) q, by rw [z6, hz' 22 x (by decide) (by decide) (by decide) (by decide) (by decide)], fun j hj => by rw [hmn] at hj; exact absurd hj (Nat.not_lt_zero _)⟩
  · exact ⟨hz' 20 x (by decide) (by decide) (by decide) (by decide) (by decide), hz' 22 x (by decide) (by decide) (by decide) (by decide) (by decide)⟩
  · exact ⟨by rw [z6, hch]; rfl, by rw [z6, hz' 17 t (by decide) (by decide) (by decide) (by decide) (by decide)], Or.inl (hch t)⟩
  · rw [z6, hz' 23 t (by decide) (by decide) (by decide) (by decide) (by decide)]
set_option maxRecDepth 20000 in
set_option maxHeartbeats 1000000 in
theorem c_from {d b : Nat} {K : KM} {I : IM} {R : RM} {Q : QT} {L k m : Nat} (hK0 : K SC0 = some (14, L)) (hL : L ≤ 260) (hk : k < 1000) (hm : 0 < m) (hm9 : m ≤ 1000000000) (q : ∀ v, v < m → Q (.inl (some (pI (nI v)))) K I R) : Mw d b N_L_from 0 [some (pR (some SC0)), some (pI (nI k)), some (pI (nI m)), none] [] K I R Q := by
  refine mw_aload i_77_0 (L := SC0) rfl ?_
  refine mw_alen i_77_1 (n := L) hK0 (by decide) ?_
  refine mw_if i_77_2 (p := ¬ (nI L) = nI 0) Iff.rfl (fun c1 => ?_) (fun c1 => ?_)
  · skip
    have hL0 : 0 < L := Nat.pos_of_ne_zero (fun e => c1 (by rw [e]))
    have hml : k % L < L := Nat.mod_lt _ hL0
    refine mw_aload i_77_9 (L := SC0) rfl ?_
    refine mw_iload i_77_10 (x := nI k) rfl ?_
    refine mw_aload i_77_11 (L := SC0) rfl ?_
    refine mw_alen i_77_12 (n := L) hK0 (by decide) ?_
    refine mw_irem i_77_13 (fun h => c1 h) (w := nI (k % L)) (pk_rem (by omega) (by omega) (by omega)) ?_
    refine mw_iald i_77_14 (jn := k % L) (n := L) (by omega) (by omega) hK0 (by decide) (v := I SC0 (k % L)) rfl ?_
    refine mw_const i_77_15 (v := nI 1346269) (by decide) ?_
    refine mw_iload i_77_16 (x := nI k) rfl ?_
    refine mw_imul i_77_17 (w := nI (1346269 * k)) (pk_mul _ _) ?_
    refine mw_ixor i_77_18 (w := ((I SC0 (k % L)) ^^^ (nI (1346269 * k)))) rfl ?_
    refine mw_istore i_77_19 (ls' := [some (pR (some SC0)), some (pI (nI k)), some (pI (nI m)), some (pI ((I SC0 (k % L)) ^^^ (nI (1346269 * k))))]) rfl (Nat.le_of_ble_eq_true rfl) ?_
    refine mw_iload i_77_20 (x := ((I SC0 (k % L)) ^^^ (nI (1346269 * k)))) rfl ?_
    refine mw_const i_77_21 (v := nI 2147483647) (by decide) ?_
    obtain ⟨u9, hu9, eu9⟩ := and31 (((I SC0 (k % L)) ^^^ (nI (1346269 * k))))
    refine mw_iand i_77_22 (w := nI u9) eu9 ?_
    refine mw_iload i_77_23 (x := nI m) rfl ?_
    refine mw_irem i_77_24 (fun h => absurd (nI_inj (show nI m = nI 0 from h) (by omega) (by decide)) (by omega)) (w := nI (u9 % m)) (pk_rem (by omega) (by omega) (by omega)) ?_
    refine mw_iretI i_77_25 (x := nI (u9 % m)) rt_77 ?_
    exact q _ (Nat.mod_lt _ hm)
  · skip
    refine mw_const i_77_3 (v := nI 907) (by decide) ?_
    refine mw_iload i_77_4 (x := nI k) rfl ?_
    refine mw_imul i_77_5 (w := nI (907 * k)) (pk_mul _ _) ?_
    refine mw_const i_77_6 (v := nI 101) (by decide) ?_
    refine mw_iadd i_77_7 (w := nI (907 * k + 101)) (nI_add _ _) ?_
    refine mw_goto i_77_8 ?_
    refine mw_istore i_77_19 (ls' := [some (pR (some SC0)), some (pI (nI k)), some (pI (nI m)), some (pI (nI (907 * k + 101)))]) rfl (Nat.le_of_ble_eq_true rfl) ?_
    refine mw_iload i_77_20 (x := nI (907 * k + 101)) rfl ?_
    refine mw_const i_77_21 (v := nI 2147483647) (by decide) ?_
    obtain ⟨u9, hu9, eu9⟩ := and31 (nI (907 * k + 101))
    refine mw_iand i_77_22 (w := nI u9) eu9 ?_
    refine mw_iload i_77_23 (x := nI m) rfl ?_
    refine mw_irem i_77_24 (fun h => absurd (nI_inj (show nI m = nI 0 from h) (by omega) (by decide)) (by omega)) (w := nI (u9 % m)) (pk_rem (by omega) (by omega) (by omega)) ?_
    refine mw_iretI i_77_25 (x := nI (u9 % m)) rt_77 ?_
    exact q _ (Nat.mod_lt _ hm)
set_option maxRecDepth 20000 in
set_option maxHeartbeats 1000000 in
theorem c_wr_lp {d : Nat} {K : KM} {R : RM} {Q : QT} {L : Nat} (hd : 20 ≤ d) (hL : L ≤ 260) (q : ∀ b I u9 u10 u11, 90000 ≤ b → HQ L K R 7 I → Mw d b N_L_holds 106 [some (pR (some SC0)), some (pR (some RING)), some (pR (some QW)), some (pR (some QV)), some (pR (some QC)), some (pR (some QB)), some (pR (some QK)), some (pR (some QM)), some (pI (nI 1)), u9, u10, u11] [] K I R Q) : ∀ (n j : Nat) (b : Nat) (I : IM) (u10 u11 : Option PV), 7 - j < n → j ≤ 7 → (90000 + 7 * (7 - j) ≤ b) → (HQ L K R j I) → Mw d b N_L_holds 35 [some (pR (some SC0)), some (pR (some RING)), some (pR (some QW)), some (pR (some QV)), some (pR (some QC)), some (pR (some QB)), some (pR (some QK)), some (pR (some QM)), some (pI (nI 1)), some (pI (nI j)), u10, u11] [] K I R Q := by
  obtain ⟨d9, rfl⟩ : ∃ d9, d = d9 + 1 := ⟨d - 1, by omega⟩
  intro n
  induction n with
  | zero => intro j b I u10 u11 hn; exact absurd hn (Nat.not_lt_zero _)
  | succ n ih =>
    intro j b I u10 u11 hn hi hbb hH
    obtain ⟨σ, hC, hQ, hK0, hp, ht2, hd0, hWj, hzk, hf, z2, z3, z4, z5, z6⟩ := hH
    refine mw_iload i_100_35 (x := nI j) rfl ?_
    refine mw_const i_100_36 (v := nI 7) (by decide) ?_
    refine mw_ic i_100_37 (p := 7 ≤ j) (nI_leI (by omega) (by omega)) (fun c1 => ?_) (fun c1 => ?_)
    · skip
      obtain rfl : j = 7 := by omega
      exact q _ _ _ _ _ (by omega) ⟨σ, hC, hQ, hK0, hp, ht2, hd0, hWj, hzk, hf, z2, z3, z4, z5, z6⟩
    · skip
      refine mw_iload i_100_38 (x := nI 1) rfl ?_
      refine mw_ifF i_100_39 (show ¬ (nI 1 = 0) by decide) ?_
      refine mw_aload i_100_40 (L := QW) rfl ?_
      refine mw_const i_100_41 (v := nI 9) (by decide) ?_
      refine mw_iload i_100_42 (x := nI j) rfl ?_
      refine mw_imul i_100_43 (w := nI (9 * j)) (pk_mul _ _) ?_
      refine mw_aload i_100_44 (L := SC0) rfl ?_
      refine mw_const i_100_45 (v := nI 300) (by decide) ?_
      refine mw_iload i_100_46 (x := nI j) rfl ?_
      refine mw_iadd i_100_47 (w := nI (300 + j)) (nI_add _ _) ?_
      refine mw_const i_100_48 (v := nI 100) (by decide) ?_
      refine mw_callS i_100_49 mf_77 (as := [pR (some SC0), pI (nI (300 + j)), pI (nI 100)]) (rest := [pI (nI (9 * j)), pR (some QW)]) (d' := d9) (b' := b) (ls0 := [some (pR (some SC0)), some (pI (nI (300 + j))), some (pI (nI 100)), none]) rfl rfl rfl (Nat.le_of_ble_eq_true rfl) rfl rfl rfl ?_
      refine c_from hK0 hL (by omega) (by decide) (by decide) (fun a2 ha2 => ?_)
      refine aft_v ?_
      obtain ⟨I23, e23⟩ : ∃ I23, I23 = up2 I QW (9 * j) (nI a2) := ⟨_, rfl⟩
      refine mw_iast i_100_50 (jn := 9 * j) (n := 63) (by omega) (by omega) (x := nI a2) hQ.1 (I' := I23) e23.symm ?_
      refine mw_aload i_100_51 (L := QW) rfl ?_
      refine mw_const i_100_52 (v := nI 9) (by decide) ?_
      refine mw_iload i_100_53 (x := nI j) rfl ?_
      refine mw_imul i_100_54 (w := nI (9 * j)) (pk_mul _ _) ?_
      refine mw_const i_100_55 (v := nI 1) (by decide) ?_
      refine mw_iadd i_100_56 (w := nI (9 * j + 1)) (nI_add _ _) ?_
      refine mw_aload i_100_57 (L := SC0) rfl ?_
      refine mw_const i_100_58 (v := nI 310) (by decide) ?_
      refine mw_iload i_100_59 (x := nI j) rfl ?_
      refine mw_iadd i_100_60 (w := nI (310 + j)) (nI_add _ _) ?_
      refine mw_const i_100_61 (v := nI 100) (by decide) ?_
      refine mw_callS i_100_62 mf_77 (as := [pR (some SC0), pI (nI (310 + j)), pI (nI 100)]) (rest := [pI (nI (9 * j + 1)), pR (some QW)]) (d' := d9) (b' := b) (ls0 := [some (pR (some SC0)), some (pI (nI (310 + j))), some (pI (nI 100)), none]) rfl rfl rfl (Nat.le_of_ble_eq_true rfl) rfl rfl rfl ?_
      refine c_from hK0 hL (by omega) (by decide) (by decide) (fun a4 ha4 => ?_)
      refine aft_v ?_
      obtain ⟨I25, e25⟩ : ∃ I25, I25 = up2 I23 QW (9 * j + 1) (nI a4) := ⟨_, rfl⟩
      refine mw_iast i_100_63 (jn := 9 * j + 1) (n := 63) (by omega) (by omega) (x := nI a4) hQ.1 (I' := I25) e25.symm ?_
      refine mw_aload i_100_64 (L := QW) rfl ?_
      refine mw_const i_100_65 (v := nI 9) (by decide) ?_
      refine mw_iload i_100_66 (x := nI j) rfl ?_
      refine mw_imul i_100_67 (w := nI (9 * j)) (pk_mul _ _) ?_
      refine mw_const i_100_68 (v := nI 2) (by decide) ?_
      refine mw_iadd i_100_69 (w := nI (9 * j + 2)) (nI_add _ _) ?_
      refine mw_aload i_100_70 (L := SC0) rfl ?_
      refine mw_const i_100_71 (v := nI 320) (by decide) ?_
      refine mw_iload i_100_72 (x := nI j) rfl ?_
      refine mw_iadd i_100_73 (w := nI (320 + j)) (nI_add _ _) ?_
      refine mw_const i_100_74 (v := nI 2) (by decide) ?_
      refine mw_callS i_100_75 mf_77 (as := [pR (some SC0), pI (nI (320 + j)), pI (nI 2)]) (rest := [pI (nI (9 * j + 2)), pR (some QW)]) (d' := d9) (b' := b) (ls0 := [some (pR (some SC0)), some (pI (nI (320 + j))), some (pI (nI 2)), none]) rfl rfl rfl (Nat.le_of_ble_eq_true rfl) rfl rfl rfl ?_
      refine c_from hK0 hL (by omega) (by decide) (by decide) (fun a6 ha6 => ?_)
      refine aft_v ?_
      obtain ⟨I27, e27⟩ : ∃ I27, I27 = up2 I25 QW (9 * j + 2) (nI a6) := ⟨_, rfl⟩
      refine mw_iast i_100_76 (jn := 9 * j + 2) (n := 63) (by omega) (by omega) (x := nI a6) hQ.1 (I' := I27) e27.symm ?_
      refine mw_aload i_100_77 (L := RING) rfl ?_
      refine mw_aload i_100_78 (L := QW) rfl ?_
      refine mw_const i_100_79 (v := nI 9) (by decide) ?_
      refine mw_iload i_100_80 (x := nI j) rfl ?_
      refine mw_imul i_100_81 (w := nI (9 * j)) (pk_mul _ _) ?_
      refine mw_iald i_100_82 (jn := 9 * j) (n := 63) (by omega) (by omega) hQ.1 (by decide) (v := nI a2) (by rw [e27, up2_at, upd_ne (by omega), e25, up2_at, upd_ne (by omega), e23, up2_at, upd_at]) ?_
      refine mw_aload i_100_83 (L := QW) rfl ?_
      refine mw_const i_100_84 (v := nI 9) (by decide) ?_
      refine mw_iload i_100_85 (x := nI j) rfl ?_
      refine mw_imul i_100_86 (w := nI (9 * j)) (pk_mul _ _) ?_
      refine mw_const i_100_87 (v := nI 1) (by decide) ?_
      refine mw_iadd i_100_88 (w := nI (9 * j + 1)) (nI_add _ _) ?_
      refine mw_iald i_100_89 (jn := 9 * j + 1) (n := 63) (by omega) (by omega) hQ.1 (by decide) (v := nI a4) (by rw [e27, up2_at, upd_ne (by omega), e25, up2_at, upd_at]) ?_
      refine mw_aload i_100_90 (L := QW) rfl ?_
      refine mw_const i_100_91 (v := nI 9) (by decide) ?_
      refine mw_iload i_100_92 (x := nI j) rfl ?_
      refine mw_imul i_100_93 (w := nI (9 * j)) (pk_mul _ _) ?_
      refine mw_const i_100_94 (v := nI 2) (by decide) ?_
      refine mw_iadd i_100_95 (w := nI (9 * j + 2)) (nI_add _ _) ?_
      refine mw_iald i_100_96 (jn := 9 * j + 2) (n := 63) (by omega) (by omega) hQ.1 (by decide) (v := nI a6) (by rw [e27, up2_at, upd_at]) ?_
      obtain ⟨b48, rfl⟩ : ∃ b48, b = b48 + 7 := ⟨b - 7, by omega⟩
      have hC1 := CW_Q hC (show FrQ I I27 from by rw [e27]; exact FrQ_up (show FrQ I I25 from by rw [e25]; exact FrQ_up (show FrQ I I23 from by rw [e23]; exact FrQ_up FrQ_rfl rfl) rfl) rfl)
      refine mw_callV i_100_97 mf_33 (as := [pI (nI a2), pI (nI a4), pI (nI a6)]) (rest := []) (d' := d9) (b' := b48) (ls0 := [some (pR (some RING)), some (pI (nI a2)), some (pI (nI a4)), some (pI (nI a6)), none]) rfl rfl rfl (Nat.le_of_ble_eq_true rfl) hC.1.1.1.1 rfl (by omega) rfl ?_
      refine k_wrestler (by omega) hC1 (by omega) (by omega) (fun h => absurd ⟨⟨_, ha2, rfl⟩, ⟨_, ha4, rfl⟩, ⟨_, ha6, rfl⟩⟩ h) (fun _ h => absurd (by omega) h) (fun _ _ I9 hF9 hR9 v hv => ?_)
      refine aft_v ?_
      refine mw_iload i_100_98 (x := nI j) rfl ?_
      refine mw_icF i_100_99 (fun h => h (hv.trans (by rw [hp]))) ?_
      refine mw_const i_100_100 (v := nI 1) (by decide) ?_
      refine mw_goto i_100_101 ?_
      refine mw_istore i_100_103 (ls' := [some (pR (some SC0)), some (pR (some RING)), some (pR (some QW)), some (pR (some QV)), some (pR (some QC)), some (pR (some QB)), some (pR (some QK)), some (pR (some QM)), some (pI (nI 1)), some (pI (nI j)), u10, u11]) rfl (Nat.le_of_ble_eq_true rfl) ?_
      refine mw_iinc i_100_104 (x := nI j) (v := nI (j + 1)) (ls' := [some (pR (some SC0)), some (pR (some RING)), some (pR (some QW)), some (pR (some QV)), some (pR (some QC)), some (pR (some QB)), some (pR (some QK)), some (pR (some QM)), some (pI (nI 1)), some (pI (nI (j + 1))), u10, u11]) rfl (nI_add _ _) rfl ?_
      refine mw_goto i_100_105 ?_
      exact ih (j + 1) _ I9 _ _ (by omega) (by omega) (by omega) (HQ_s (by omega) hC hQ hK0 hp ht2 hd0 hWj hzk hf z2 z3 z4 z5 z6 ha2 ha4 ha6 e23 e25 e27 hF9 hR9)
set_option maxRecDepth 20000 in
set_option maxHeartbeats 1000000 in
theorem c_st_lp {d : Nat} {Q : QT} {L : Nat} (hd : 28 ≤ d) (hL : L ≤ 260) (q : ∀ K I R, Q (.inl (some (pI (nI 1)))) K I R) : ∀ (n j : Nat) (b : Nat) (K : KM) (I : IM) (R : RM) (u10 u11 : Option PV), 70 - j < n → j ≤ 70 → (1100 * (70 - j) ≤ b) → (∃ σ, WQ L (9 + 2 * j) σ K I R) → Mw d b N_L_holds 108 [some (pR (some SC0)), some (pR (some RING)), some (pR (some QW)), some (pR (some QV)), some (pR (some QC)), some (pR (some QB)), some (pR (some QK)), some (pR (some QM)), some (pI (nI 1)), some (pI (nI j)), u10, u11] [] K I R Q := by
  obtain ⟨d9, rfl⟩ : ∃ d9, d = d9 + 1 := ⟨d - 1, by omega⟩
  intro n
  induction n with
  | zero => intro j b K I R u10 u11 hn; exact absurd hn (Nat.not_lt_zero _)
  | succ n ih =>
    intro j b K I R u10 u11 hn hi hbb hHx
    obtain ⟨σ, hH⟩ := hHx
    refine mw_iload i_100_108 (x := nI j) rfl ?_
    refine mw_const i_100_109 (v := nI 70) (by decide) ?_
    refine mw_ic i_100_110 (p := 70 ≤ j) (nI_leI (by omega) (by omega)) (fun c1 => ?_) (fun c1 => ?_)
    · skip
      refine mw_iload i_100_218 (x := nI 1) rfl ?_
      refine mw_iret i_100_219 (x := nI 1) (fun _ => (by decide)) ?_
      exact q _ _ _
    · skip
      refine mw_iload i_100_111 (x := nI 1) rfl ?_
      refine mw_ifF i_100_112 (show ¬ (nI 1 = 0) by decide) ?_
      refine mw_aload i_100_113 (L := SC0) rfl ?_
      refine mw_const i_100_114 (v := nI 2) (by decide) ?_
      refine mw_iload i_100_115 (x := nI j) rfl ?_
      refine mw_imul i_100_116 (w := nI (2 * j)) (pk_mul _ _) ?_
      refine mw_const i_100_117 (v := nI 32) (by decide) ?_
      refine mw_callS i_100_118 mf_77 (as := [pR (some SC0), pI (nI (2 * j)), pI (nI 32)]) (rest := []) (d' := d9) (b' := b) (ls0 := [some (pR (some SC0)), some (pI (nI (2 * j))), some (pI (nI 32)), none]) rfl rfl rfl (Nat.le_of_ble_eq_true rfl) rfl rfl rfl ?_
      refine c_from hH.2.2.2 hL (by omega) (by decide) (by decide) (fun wy hwy => ?_)
      skip
      refine aft_v ?_
      refine mw_istore i_100_119 (ls' := [some (pR (some SC0)), some (pR (some RING)), some (pR (some QW)), some (pR (some QV)), some (pR (some QC)), some (pR (some QB)), some (pR (some QK)), some (pR (some QM)), some (pI (nI 1)), some (pI (nI j)), some (pI (nI wy)), u11]) rfl (Nat.le_of_ble_eq_true rfl) ?_
      refine mw_aload i_100_120 (L := SC0) rfl ?_
      refine mw_const i_100_121 (v := nI 2) (by decide) ?_
      refine mw_iload i_100_122 (x := nI j) rfl ?_
      refine mw_imul i_100_123 (w := nI (2 * j)) (pk_mul _ _) ?_
      refine mw_const i_100_124 (v := nI 1) (by decide) ?_
      refine mw_iadd i_100_125 (w := nI (2 * j + 1)) (nI_add _ _) ?_
      refine mw_const i_100_126 (v := nI 1000000000) (by decide) ?_
      refine mw_callS i_100_127 mf_77 (as := [pR (some SC0), pI (nI (2 * j + 1)), pI (nI 1000000000)]) (rest := []) (d' := d9) (b' := b) (ls0 := [some (pR (some SC0)), some (pI (nI (2 * j + 1))), some (pI (nI 1000000000)), none]) rfl rfl rfl (Nat.le_of_ble_eq_true rfl) rfl rfl rfl ?_
      refine c_from hH.2.2.2 hL (by omega) (by decide) (by decide) (fun z9 hz9 => ?_)
      have hz9 := hz9
      refine aft_v ?_
      refine mw_istore i_100_128 (ls' := [some (pR (some SC0)), some (pR (some RING)), some (pR (some QW)), some (pR (some QV)), some (pR (some QC)), some (pR (some QB)), some (pR (some QK)), some (pR (some QM)), some (pI (nI 1)), some (pI (nI j)), some (pI (nI wy)), some (pI (nI z9))]) rfl (Nat.le_of_ble_eq_true rfl) ?_
      refine mw_iload i_100_129 (x := nI wy) rfl ?_
      refine mw_const i_100_130 (v := nI 11) (by decide) ?_
      refine mw_ic i_100_131 (p := 11 ≤ wy) (nI_leI (by omega) (by omega)) (fun c2 => ?_) (fun c2 => ?_)
      · skip
        refine mw_iload i_100_141 (x := nI wy) rfl ?_
        refine mw_const i_100_142 (v := nI 15) (by decide) ?_
        refine mw_ic i_100_143 (p := 15 ≤ wy) (nI_leI (by omega) (by omega)) (fun c3 => ?_) (fun c3 => ?_)
        · skip
          refine mw_iload i_100_151 (x := nI wy) rfl ?_
          refine mw_const i_100_152 (v := nI 17) (by decide) ?_
          refine mw_ic i_100_153 (p := 17 ≤ wy) (nI_leI (by omega) (by omega)) (fun c4 => ?_) (fun c4 => ?_)
          · skip
            refine mw_iload i_100_163 (x := nI wy) rfl ?_
            refine mw_const i_100_164 (v := nI 24) (by decide) ?_
            refine mw_ic i_100_165 (p := 24 ≤ wy) (nI_leI (by omega) (by omega)) (fun c5 => ?_) (fun c5 => ?_)
            · skip
              refine mw_aload i_100_184 (L := RING) rfl ?_
              refine mw_aload i_100_185 (L := QW) rfl ?_
              refine mw_aload i_100_186 (L := QV) rfl ?_
              refine mw_aload i_100_187 (L := QB) rfl ?_
              refine mw_aload i_100_188 (L := QK) rfl ?_
              refine mw_aload i_100_189 (L := QM) rfl ?_
              refine mw_iload i_100_190 (x := nI wy) rfl ?_
              refine mw_const i_100_191 (v := nI 29) (by decide) ?_
              refine mw_ic i_100_192 (p := 29 ≤ wy) (nI_leI (by omega) (by omega)) (fun c6 => ?_) (fun c6 => ?_)
              · skip
                refine mw_const i_100_195 (v := nI 0) (by decide) ?_
                obtain ⟨b47, rfl⟩ : ∃ b47, b = b47 + 14 := ⟨b - 14, by omega⟩
                refine mw_callS i_100_196 mf_99 (as := [pR (some RING), pR (some QW), pR (some QV), pR (some QB), pR (some QK), pR (some QM), pI (nI 0)]) (rest := []) (d' := d9) (b' := b47) (ls0 := [some (pR (some RING)), some (pR (some QW)), some (pR (some QV)), some (pR (some QB)), some (pR (some QK)), some (pR (some QM)), some (pI (nI 0)), none, none, none]) rfl rfl rfl (Nat.le_of_ble_eq_true rfl) rfl (by omega) rfl ?_
                refine c_pass (by omega) hH (by omega) (by omega) (fun σ8 K8 I8 R8 hH8 => ?_)
                refine aft_v ?_
                refine mw_istore i_100_197 (ls' := [some (pR (some SC0)), some (pR (some RING)), some (pR (some QW)), some (pR (some QV)), some (pR (some QC)), some (pR (some QB)), some (pR (some QK)), some (pR (some QM)), some (pI (nI 1)), some (pI (nI j)), some (pI (nI wy)), some (pI (nI z9))]) rfl (Nat.le_of_ble_eq_true rfl) ?_
                refine mw_iload i_100_198 (x := nI 1) rfl ?_
                refine mw_ifF i_100_199 (show ¬ (nI 1 = 0) by decide) ?_
                refine mw_aload i_100_200 (L := RING) rfl ?_
                refine mw_aload i_100_201 (L := QW) rfl ?_
                refine mw_aload i_100_202 (L := QV) rfl ?_
                refine mw_aload i_100_203 (L := QC) rfl ?_
                refine mw_aload i_100_204 (L := QB) rfl ?_
                refine mw_aload i_100_205 (L := QK) rfl ?_
                refine mw_aload i_100_206 (L := QM) rfl ?_
                refine mw_iload i_100_207 (x := nI z9) rfl ?_
                refine mw_const i_100_208 (v := nI 3) (by decide) ?_
                refine mw_idiv i_100_209 (by decide) (w := nI (z9 / 3)) (pk_div (by omega) (by omega) (by omega)) ?_
                obtain ⟨b49, rfl⟩ : ∃ b49, b47 = b49 + 1000 := ⟨b47 - 1000, by omega⟩
                refine mw_callS i_100_210 mf_96 (as := [pR (some RING), pR (some QW), pR (some QV), pR (some QC), pR (some QB), pR (some QK), pR (some QM), pI (nI (z9 / 3))]) (rest := []) (d' := d9) (b' := b49) (ls0 := [some (pR (some RING)), some (pR (some QW)), some (pR (some QV)), some (pR (some QC)), some (pR (some QB)), some (pR (some QK)), some (pR (some QM)), some (pI (nI (z9 / 3))), none, none, none, none, none, none, none, none, none, none, none, none]) rfl rfl rfl (Nat.le_of_ble_eq_true rfl) rfl (by omega) rfl ?_
                refine c_isSame (by omega) hH8 (by omega) (by omega) (fun σ10 K10 I10 R10 hH10 => ?_)
                refine aft_v ?_
                refine mw_ifF i_100_211 (show ¬ (nI 1 = 0) by decide) ?_
                refine mw_const i_100_212 (v := nI 1) (by decide) ?_
                refine mw_goto i_100_213 ?_
                refine mw_istore i_100_215 (ls' := [some (pR (some SC0)), some (pR (some RING)), some (pR (some QW)), some (pR (some QV)), some (pR (some QC)), some (pR (some QB)), some (pR (some QK)), some (pR (some QM)), some (pI (nI 1)), some (pI (nI j)), some (pI (nI wy)), some (pI (nI z9))]) rfl (Nat.le_of_ble_eq_true rfl) ?_
                refine mw_iinc i_100_216 (x := nI j) (v := nI (j + 1)) (ls' := [some (pR (some SC0)), some (pR (some RING)), some (pR (some QW)), some (pR (some QV)), some (pR (some QC)), some (pR (some QB)), some (pR (some QK)), some (pR (some QM)), some (pI (nI 1)), some (pI (nI (j + 1))), some (pI (nI wy)), some (pI (nI z9))]) rfl (nI_add _ _) rfl ?_
                refine mw_goto i_100_217 ?_
                exact ih (j + 1) _ _ _ _ _ _ (by omega) (by omega) (by omega) ⟨_, hH10⟩
              · skip
                refine mw_const i_100_193 (v := nI 1) (by decide) ?_
                refine mw_goto i_100_194 ?_
                obtain ⟨b51, rfl⟩ : ∃ b51, b = b51 + 14 := ⟨b - 14, by omega⟩
                refine mw_callS i_100_196 mf_99 (as := [pR (some RING), pR (some QW), pR (some QV), pR (some QB), pR (some QK), pR (some QM), pI (nI 1)]) (rest := []) (d' := d9) (b' := b51) (ls0 := [some (pR (some RING)), some (pR (some QW)), some (pR (some QV)), some (pR (some QB)), some (pR (some QK)), some (pR (some QM)), some (pI (nI 1)), none, none, none]) rfl rfl rfl (Nat.le_of_ble_eq_true rfl) rfl (by omega) rfl ?_
                refine c_play (by omega) hH (by omega) (fun σ12 K12 I12 R12 hH12 => ?_)
                refine aft_v ?_
                refine mw_istore i_100_197 (ls' := [some (pR (some SC0)), some (pR (some RING)), some (pR (some QW)), some (pR (some QV)), some (pR (some QC)), some (pR (some QB)), some (pR (some QK)), some (pR (some QM)), some (pI (nI 1)), some (pI (nI j)), some (pI (nI wy)), some (pI (nI z9))]) rfl (Nat.le_of_ble_eq_true rfl) ?_
                refine mw_iload i_100_198 (x := nI 1) rfl ?_
                refine mw_ifF i_100_199 (show ¬ (nI 1 = 0) by decide) ?_
                refine mw_aload i_100_200 (L := RING) rfl ?_
                refine mw_aload i_100_201 (L := QW) rfl ?_
                refine mw_aload i_100_202 (L := QV) rfl ?_
                refine mw_aload i_100_203 (L := QC) rfl ?_
                refine mw_aload i_100_204 (L := QB) rfl ?_
                refine mw_aload i_100_205 (L := QK) rfl ?_
                refine mw_aload i_100_206 (L := QM) rfl ?_
                refine mw_iload i_100_207 (x := nI z9) rfl ?_
                refine mw_const i_100_208 (v := nI 3) (by decide) ?_
                refine mw_idiv i_100_209 (by decide) (w := nI (z9 / 3)) (pk_div (by omega) (by omega) (by omega)) ?_
                obtain ⟨b53, rfl⟩ : ∃ b53, b51 = b53 + 1000 := ⟨b51 - 1000, by omega⟩
                refine mw_callS i_100_210 mf_96 (as := [pR (some RING), pR (some QW), pR (some QV), pR (some QC), pR (some QB), pR (some QK), pR (some QM), pI (nI (z9 / 3))]) (rest := []) (d' := d9) (b' := b53) (ls0 := [some (pR (some RING)), some (pR (some QW)), some (pR (some QV)), some (pR (some QC)), some (pR (some QB)), some (pR (some QK)), some (pR (some QM)), some (pI (nI (z9 / 3))), none, none, none, none, none, none, none, none, none, none, none, none]) rfl rfl rfl (Nat.le_of_ble_eq_true rfl) rfl (by omega) rfl ?_
                refine c_isSame (by omega) hH12 (by omega) (by omega) (fun σ14 K14 I14 R14 hH14 => ?_)
                refine aft_v ?_
                refine mw_ifF i_100_211 (show ¬ (nI 1 = 0) by decide) ?_
                refine mw_const i_100_212 (v := nI 1) (by decide) ?_
                refine mw_goto i_100_213 ?_
                refine mw_istore i_100_215 (ls' := [some (pR (some SC0)), some (pR (some RING)), some (pR (some QW)), some (pR (some QV)), some (pR (some QC)), some (pR (some QB)), some (pR (some QK)), some (pR (some QM)), some (pI (nI 1)), some (pI (nI j)), some (pI (nI wy)), some (pI (nI z9))]) rfl (Nat.le_of_ble_eq_true rfl) ?_
                refine mw_iinc i_100_216 (x := nI j) (v := nI (j + 1)) (ls' := [some (pR (some SC0)), some (pR (some RING)), some (pR (some QW)), some (pR (some QV)), some (pR (some QC)), some (pR (some QB)), some (pR (some QK)), some (pR (some QM)), some (pI (nI 1)), some (pI (nI (j + 1))), some (pI (nI wy)), some (pI (nI z9))]) rfl (nI_add _ _) rfl ?_
                refine mw_goto i_100_217 ?_
                exact ih (j + 1) _ _ _ _ _ _ (by omega) (by omega) (by omega) ⟨_, hH14⟩
            · skip
              refine mw_aload i_100_166 (L := RING) rfl ?_
              refine mw_aload i_100_167 (L := QW) rfl ?_
              refine mw_aload i_100_168 (L := QV) rfl ?_
              refine mw_aload i_100_169 (L := QC) rfl ?_
              refine mw_aload i_100_170 (L := QK) rfl ?_
              refine mw_aload i_100_171 (L := QM) rfl ?_
              refine mw_iload i_100_172 (x := nI wy) rfl ?_
              refine mw_const i_100_173 (v := nI 19) (by decide) ?_
              refine mw_ic i_100_174 (p := 19 ≤ wy) (nI_leI (by omega) (by omega)) (fun c15 => ?_) (fun c15 => ?_)
              · skip
                obtain rfl | rfl | rfl | rfl | rfl : wy = 19 ∨ wy = 20 ∨ wy = 21 ∨ wy = 22 ∨ wy = 23 := by omega
                · skip
                  refine mw_iload i_100_177 (x := nI 19) rfl ?_
                  refine mw_const i_100_178 (v := nI 19) (by decide) ?_
                  refine mw_isub i_100_179 (w := nI 0) (by decide) ?_
                  refine mw_iload i_100_180 (x := nI z9) rfl ?_
                  obtain ⟨b56, rfl⟩ : ∃ b56, b = b56 + 35 := ⟨b - 35, by omega⟩
                  refine mw_callS i_100_181 mf_98 (as := [pR (some RING), pR (some QW), pR (some QV), pR (some QC), pR (some QK), pR (some QM), pI (nI 0), pI (nI z9)]) (rest := []) (d' := d9) (b' := b56) (ls0 := [some (pR (some RING)), some (pR (some QW)), some (pR (some QV)), some (pR (some QC)), some (pR (some QK)), some (pR (some QM)), some (pI (nI 0)), some (pI (nI z9)), none, none, none, none, none]) rfl rfl rfl (Nat.le_of_ble_eq_true rfl) rfl (by omega) rfl ?_
                  refine c_told0 (by omega) hH (by omega) hz9 (fun σ17 K17 I17 R17 hH17 => ?_)
                  refine aft_v ?_
                  refine mw_istore i_100_182 (ls' := [some (pR (some SC0)), some (pR (some RING)), some (pR (some QW)), some (pR (some QV)), some (pR (some QC)), some (pR (some QB)), some (pR (some QK)), some (pR (some QM)), some (pI (nI 1)), some (pI (nI j)), some (pI (nI 19)), some (pI (nI z9))]) rfl (Nat.le_of_ble_eq_true rfl) ?_
                  refine mw_goto i_100_183 ?_
                  refine mw_iload i_100_198 (x := nI 1) rfl ?_
                  refine mw_ifF i_100_199 (show ¬ (nI 1 = 0) by decide) ?_
                  refine mw_aload i_100_200 (L := RING) rfl ?_
                  refine mw_aload i_100_201 (L := QW) rfl ?_
                  refine mw_aload i_100_202 (L := QV) rfl ?_
                  refine mw_aload i_100_203 (L := QC) rfl ?_
                  refine mw_aload i_100_204 (L := QB) rfl ?_
                  refine mw_aload i_100_205 (L := QK) rfl ?_
                  refine mw_aload i_100_206 (L := QM) rfl ?_
                  refine mw_iload i_100_207 (x := nI z9) rfl ?_
                  refine mw_const i_100_208 (v := nI 3) (by decide) ?_
                  refine mw_idiv i_100_209 (by decide) (w := nI (z9 / 3)) (pk_div (by omega) (by omega) (by omega)) ?_
                  obtain ⟨b58, rfl⟩ : ∃ b58, b56 = b58 + 1000 := ⟨b56 - 1000, by omega⟩
                  refine mw_callS i_100_210 mf_96 (as := [pR (some RING), pR (some QW), pR (some QV), pR (some QC), pR (some QB), pR (some QK), pR (some QM), pI (nI (z9 / 3))]) (rest := []) (d' := d9) (b' := b58) (ls0 := [some (pR (some RING)), some (pR (some QW)), some (pR (some QV)), some (pR (some QC)), some (pR (some QB)), some (pR (some QK)), some (pR (some QM)), some (pI (nI (z9 / 3))), none, none, none, none, none, none, none, none, none, none, none, none]) rfl rfl rfl (Nat.le_of_ble_eq_true rfl) rfl (by omega) rfl ?_
                  refine c_isSame (by omega) hH17 (by omega) (by omega) (fun σ19 K19 I19 R19 hH19 => ?_)
                  refine aft_v ?_
                  refine mw_ifF i_100_211 (show ¬ (nI 1 = 0) by decide) ?_
                  refine mw_const i_100_212 (v := nI 1) (by decide) ?_
                  refine mw_goto i_100_213 ?_
                  refine mw_istore i_100_215 (ls' := [some (pR (some SC0)), some (pR (some RING)), some (pR (some QW)), some (pR (some QV)), some (pR (some QC)), some (pR (some QB)), some (pR (some QK)), some (pR (some QM)), some (pI (nI 1)), some (pI (nI j)), some (pI (nI 19)), some (pI (nI z9))]) rfl (Nat.le_of_ble_eq_true rfl) ?_
                  refine mw_iinc i_100_216 (x := nI j) (v := nI (j + 1)) (ls' := [some (pR (some SC0)), some (pR (some RING)), some (pR (some QW)), some (pR (some QV)), some (pR (some QC)), some (pR (some QB)), some (pR (some QK)), some (pR (some QM)), some (pI (nI 1)), some (pI (nI (j + 1))), some (pI (nI 19)), some (pI (nI z9))]) rfl (nI_add _ _) rfl ?_
                  refine mw_goto i_100_217 ?_
                  exact ih (j + 1) _ _ _ _ _ _ (by omega) (by omega) (by omega) ⟨_, hH19⟩
                · skip
                  refine mw_iload i_100_177 (x := nI 20) rfl ?_
                  refine mw_const i_100_178 (v := nI 19) (by decide) ?_
                  refine mw_isub i_100_179 (w := nI 1) (by decide) ?_
                  refine mw_iload i_100_180 (x := nI z9) rfl ?_
                  obtain ⟨b60, rfl⟩ : ∃ b60, b = b60 + 35 := ⟨b - 35, by omega⟩
                  refine mw_callS i_100_181 mf_98 (as := [pR (some RING), pR (some QW), pR (some QV), pR (some QC), pR (some QK), pR (some QM), pI (nI 1), pI (nI z9)]) (rest := []) (d' := d9) (b' := b60) (ls0 := [some (pR (some RING)), some (pR (some QW)), some (pR (some QV)), some (pR (some QC)), some (pR (some QK)), some (pR (some QM)), some (pI (nI 1)), some (pI (nI z9)), none, none, none, none, none]) rfl rfl rfl (Nat.le_of_ble_eq_true rfl) rfl (by omega) rfl ?_
                  refine c_told1 (by omega) hH (by omega) hz9 (fun σ21 K21 I21 R21 hH21 => ?_)
                  refine aft_v ?_
                  refine mw_istore i_100_182 (ls' := [some (pR (some SC0)), some (pR (some RING)), some (pR (some QW)), some (pR (some QV)), some (pR (some QC)), some (pR (some QB)), some (pR (some QK)), some (pR (some QM)), some (pI (nI 1)), some (pI (nI j)), some (pI (nI 20)), some (pI (nI z9))]) rfl (Nat.le_of_ble_eq_true rfl) ?_
                  refine mw_goto i_100_183 ?_
                  refine mw_iload i_100_198 (x := nI 1) rfl ?_
                  refine mw_ifF i_100_199 (show ¬ (nI 1 = 0) by decide) ?_
                  refine mw_aload i_100_200 (L := RING) rfl ?_
                  refine mw_aload i_100_201 (L := QW) rfl ?_
                  refine mw_aload i_100_202 (L := QV) rfl ?_
                  refine mw_aload i_100_203 (L := QC) rfl ?_
                  refine mw_aload i_100_204 (L := QB) rfl ?_
                  refine mw_aload i_100_205 (L := QK) rfl ?_
                  refine mw_aload i_100_206 (L := QM) rfl ?_
                  refine mw_iload i_100_207 (x := nI z9) rfl ?_
                  refine mw_const i_100_208 (v := nI 3) (by decide) ?_
                  refine mw_idiv i_100_209 (by decide) (w := nI (z9 / 3)) (pk_div (by omega) (by omega) (by omega)) ?_
                  obtain ⟨b62, rfl⟩ : ∃ b62, b60 = b62 + 1000 := ⟨b60 - 1000, by omega⟩
                  refine mw_callS i_100_210 mf_96 (as := [pR (some RING), pR (some QW), pR (some QV), pR (some QC), pR (some QB), pR (some QK), pR (some QM), pI (nI (z9 / 3))]) (rest := []) (d' := d9) (b' := b62) (ls0 := [some (pR (some RING)), some (pR (some QW)), some (pR (some QV)), some (pR (some QC)), some (pR (some QB)), some (pR (some QK)), some (pR (some QM)), some (pI (nI (z9 / 3))), none, none, none, none, none, none, none, none, none, none, none, none]) rfl rfl rfl (Nat.le_of_ble_eq_true rfl) rfl (by omega) rfl ?_
                  refine c_isSame (by omega) hH21 (by omega) (by omega) (fun σ23 K23 I23 R23 hH23 => ?_)
                  refine aft_v ?_
                  refine mw_ifF i_100_211 (show ¬ (nI 1 = 0) by decide) ?_
                  refine mw_const i_100_212 (v := nI 1) (by decide) ?_
                  refine mw_goto i_100_213 ?_
                  refine mw_istore i_100_215 (ls' := [some (pR (some SC0)), some (pR (some RING)), some (pR (some QW)), some (pR (some QV)), some (pR (some QC)), some (pR (some QB)), some (pR (some QK)), some (pR (some QM)), some (pI (nI 1)), some (pI (nI j)), some (pI (nI 20)), some (pI (nI z9))]) rfl (Nat.le_of_ble_eq_true rfl) ?_
                  refine mw_iinc i_100_216 (x := nI j) (v := nI (j + 1)) (ls' := [some (pR (some SC0)), some (pR (some RING)), some (pR (some QW)), some (pR (some QV)), some (pR (some QC)), some (pR (some QB)), some (pR (some QK)), some (pR (some QM)), some (pI (nI 1)), some (pI (nI (j + 1))), some (pI (nI 20)), some (pI (nI z9))]) rfl (nI_add _ _) rfl ?_
                  refine mw_goto i_100_217 ?_
                  exact ih (j + 1) _ _ _ _ _ _ (by omega) (by omega) (by omega) ⟨_, hH23⟩
                · skip
                  refine mw_iload i_100_177 (x := nI 21) rfl ?_
                  refine mw_const i_100_178 (v := nI 19) (by decide) ?_
                  refine mw_isub i_100_179 (w := nI 2) (by decide) ?_
                  refine mw_iload i_100_180 (x := nI z9) rfl ?_
                  obtain ⟨b64, rfl⟩ : ∃ b64, b = b64 + 35 := ⟨b - 35, by omega⟩
                  refine mw_callS i_100_181 mf_98 (as := [pR (some RING), pR (some QW), pR (some QV), pR (some QC), pR (some QK), pR (some QM), pI (nI 2), pI (nI z9)]) (rest := []) (d' := d9) (b' := b64) (ls0 := [some (pR (some RING)), some (pR (some QW)), some (pR (some QV)), some (pR (some QC)), some (pR (some QK)), some (pR (some QM)), some (pI (nI 2)), some (pI (nI z9)), none, none, none, none, none]) rfl rfl rfl (Nat.le_of_ble_eq_true rfl) rfl (by omega) rfl ?_
                  refine c_told2 (by omega) hH (by omega) hz9 (fun σ25 K25 I25 R25 hH25 => ?_)
                  refine aft_v ?_
                  refine mw_istore i_100_182 (ls' := [some (pR (some SC0)), some (pR (some RING)), some (pR (some QW)), some (pR (some QV)), some (pR (some QC)), some (pR (some QB)), some (pR (some QK)), some (pR (some QM)), some (pI (nI 1)), some (pI (nI j)), some (pI (nI 21)), some (pI (nI z9))]) rfl (Nat.le_of_ble_eq_true rfl) ?_
                  refine mw_goto i_100_183 ?_
                  refine mw_iload i_100_198 (x := nI 1) rfl ?_
                  refine mw_ifF i_100_199 (show ¬ (nI 1 = 0) by decide) ?_
                  refine mw_aload i_100_200 (L := RING) rfl ?_
                  refine mw_aload i_100_201 (L := QW) rfl ?_
                  refine mw_aload i_100_202 (L := QV) rfl ?_
                  refine mw_aload i_100_203 (L := QC) rfl ?_
                  refine mw_aload i_100_204 (L := QB) rfl ?_
                  refine mw_aload i_100_205 (L := QK) rfl ?_
                  refine mw_aload i_100_206 (L := QM) rfl ?_
                  refine mw_iload i_100_207 (x := nI z9) rfl ?_
                  refine mw_const i_100_208 (v := nI 3) (by decide) ?_
                  refine mw_idiv i_100_209 (by decide) (w := nI (z9 / 3)) (pk_div (by omega) (by omega) (by omega)) ?_
                  obtain ⟨b66, rfl⟩ : ∃ b66, b64 = b66 + 1000 := ⟨b64 - 1000, by omega⟩
                  refine mw_callS i_100_210 mf_96 (as := [pR (some RING), pR (some QW), pR (some QV), pR (some QC), pR (some QB), pR (some QK), pR (some QM), pI (nI (z9 / 3))]) (rest := []) (d' := d9) (b' := b66) (ls0 := [some (pR (some RING)), some (pR (some QW)), some (pR (some QV)), some (pR (some QC)), some (pR (some QB)), some (pR (some QK)), some (pR (some QM)), some (pI (nI (z9 / 3))), none, none, none, none, none, none, none, none, none, none, none, none]) rfl rfl rfl (Nat.le_of_ble_eq_true rfl) rfl (by omega) rfl ?_
                  refine c_isSame (by omega) hH25 (by omega) (by omega) (fun σ27 K27 I27 R27 hH27 => ?_)
                  refine aft_v ?_
                  refine mw_ifF i_100_211 (show ¬ (nI 1 = 0) by decide) ?_
                  refine mw_const i_100_212 (v := nI 1) (by decide) ?_
                  refine mw_goto i_100_213 ?_
                  refine mw_istore i_100_215 (ls' := [some (pR (some SC0)), some (pR (some RING)), some (pR (some QW)), some (pR (some QV)), some (pR (some QC)), some (pR (some QB)), some (pR (some QK)), some (pR (some QM)), some (pI (nI 1)), some (pI (nI j)), some (pI (nI 21)), some (pI (nI z9))]) rfl (Nat.le_of_ble_eq_true rfl) ?_
                  refine mw_iinc i_100_216 (x := nI j) (v := nI (j + 1)) (ls' := [some (pR (some SC0)), some (pR (some RING)), some (pR (some QW)), some (pR (some QV)), some (pR (some QC)), some (pR (some QB)), some (pR (some QK)), some (pR (some QM)), some (pI (nI 1)), some (pI (nI (j + 1))), some (pI (nI 21)), some (pI (nI z9))]) rfl (nI_add _ _) rfl ?_
                  refine mw_goto i_100_217 ?_
                  exact ih (j + 1) _ _ _ _ _ _ (by omega) (by omega) (by omega) ⟨_, hH27⟩
                · skip
                  refine mw_iload i_100_177 (x := nI 22) rfl ?_
                  refine mw_const i_100_178 (v := nI 19) (by decide) ?_
                  refine mw_isub i_100_179 (w := nI 3) (by decide) ?_
                  refine mw_iload i_100_180 (x := nI z9) rfl ?_
                  obtain ⟨b68, rfl⟩ : ∃ b68, b = b68 + 35 := ⟨b - 35, by omega⟩
                  refine mw_callS i_100_181 mf_98 (as := [pR (some RING), pR (some QW), pR (some QV), pR (some QC), pR (some QK), pR (some QM), pI (nI 3), pI (nI z9)]) (rest := []) (d' := d9) (b' := b68) (ls0 := [some (pR (some RING)), some (pR (some QW)), some (pR (some QV)), some (pR (some QC)), some (pR (some QK)), some (pR (some QM)), some (pI (nI 3)), some (pI (nI z9)), none, none, none, none, none]) rfl rfl rfl (Nat.le_of_ble_eq_true rfl) rfl (by omega) rfl ?_
                  refine c_told3 (by omega) hH (by omega) hz9 (fun σ29 K29 I29 R29 hH29 => ?_)
                  refine aft_v ?_
                  refine mw_istore i_100_182 (ls' := [some (pR (some SC0)), some (pR (some RING)), some (pR (some QW)), some (pR (some QV)), some (pR (some QC)), some (pR (some QB)), some (pR (some QK)), some (pR (some QM)), some (pI (nI 1)), some (pI (nI j)), some (pI (nI 22)), some (pI (nI z9))]) rfl (Nat.le_of_ble_eq_true rfl) ?_
                  refine mw_goto i_100_183 ?_
                  refine mw_iload i_100_198 (x := nI 1) rfl ?_
                  refine mw_ifF i_100_199 (show ¬ (nI 1 = 0) by decide) ?_
                  refine mw_aload i_100_200 (L := RING) rfl ?_
                  refine mw_aload i_100_201 (L := QW) rfl ?_
                  refine mw_aload i_100_202 (L := QV) rfl ?_
                  refine mw_aload i_100_203 (L := QC) rfl ?_
                  refine mw_aload i_100_204 (L := QB) rfl ?_
                  refine mw_aload i_100_205 (L := QK) rfl ?_
                  refine mw_aload i_100_206 (L := QM) rfl ?_
                  refine mw_iload i_100_207 (x := nI z9) rfl ?_
                  refine mw_const i_100_208 (v := nI 3) (by decide) ?_
                  refine mw_idiv i_100_209 (by decide) (w := nI (z9 / 3)) (pk_div (by omega) (by omega) (by omega)) ?_
                  obtain ⟨b70, rfl⟩ : ∃ b70, b68 = b70 + 1000 := ⟨b68 - 1000, by omega⟩
                  refine mw_callS i_100_210 mf_96 (as := [pR (some RING), pR (some QW), pR (some QV), pR (some QC), pR (some QB), pR (some QK), pR (some QM), pI (nI (z9 / 3))]) (rest := []) (d' := d9) (b' := b70) (ls0 := [some (pR (some RING)), some (pR (some QW)), some (pR (some QV)), some (pR (some QC)), some (pR (some QB)), some (pR (some QK)), some (pR (some QM)), some (pI (nI (z9 / 3))), none, none, none, none, none, none, none, none, none, none, none, none]) rfl rfl rfl (Nat.le_of_ble_eq_true rfl) rfl (by omega) rfl ?_
                  refine c_isSame (by omega) hH29 (by omega) (by omega) (fun σ31 K31 I31 R31 hH31 => ?_)
                  refine aft_v ?_
                  refine mw_ifF i_100_211 (show ¬ (nI 1 = 0) by decide) ?_
                  refine mw_const i_100_212 (v := nI 1) (by decide) ?_
                  refine mw_goto i_100_213 ?_
                  refine mw_istore i_100_215 (ls' := [some (pR (some SC0)), some (pR (some RING)), some (pR (some QW)), some (pR (some QV)), some (pR (some QC)), some (pR (some QB)), some (pR (some QK)), some (pR (some QM)), some (pI (nI 1)), some (pI (nI j)), some (pI (nI 22)), some (pI (nI z9))]) rfl (Nat.le_of_ble_eq_true rfl) ?_
                  refine mw_iinc i_100_216 (x := nI j) (v := nI (j + 1)) (ls' := [some (pR (some SC0)), some (pR (some RING)), some (pR (some QW)), some (pR (some QV)), some (pR (some QC)), some (pR (some QB)), some (pR (some QK)), some (pR (some QM)), some (pI (nI 1)), some (pI (nI (j + 1))), some (pI (nI 22)), some (pI (nI z9))]) rfl (nI_add _ _) rfl ?_
                  refine mw_goto i_100_217 ?_
                  exact ih (j + 1) _ _ _ _ _ _ (by omega) (by omega) (by omega) ⟨_, hH31⟩
                · skip
                  refine mw_iload i_100_177 (x := nI 23) rfl ?_
                  refine mw_const i_100_178 (v := nI 19) (by decide) ?_
                  refine mw_isub i_100_179 (w := nI 4) (by decide) ?_
                  refine mw_iload i_100_180 (x := nI z9) rfl ?_
                  obtain ⟨b72, rfl⟩ : ∃ b72, b = b72 + 35 := ⟨b - 35, by omega⟩
                  refine mw_callS i_100_181 mf_98 (as := [pR (some RING), pR (some QW), pR (some QV), pR (some QC), pR (some QK), pR (some QM), pI (nI 4), pI (nI z9)]) (rest := []) (d' := d9) (b' := b72) (ls0 := [some (pR (some RING)), some (pR (some QW)), some (pR (some QV)), some (pR (some QC)), some (pR (some QK)), some (pR (some QM)), some (pI (nI 4)), some (pI (nI z9)), none, none, none, none, none]) rfl rfl rfl (Nat.le_of_ble_eq_true rfl) rfl (by omega) rfl ?_
                  refine c_told4 (by omega) hH (by omega) hz9 (fun σ33 K33 I33 R33 hH33 => ?_)
                  refine aft_v ?_
                  refine mw_istore i_100_182 (ls' := [some (pR (some SC0)), some (pR (some RING)), some (pR (some QW)), some (pR (some QV)), some (pR (some QC)), some (pR (some QB)), some (pR (some QK)), some (pR (some QM)), some (pI (nI 1)), some (pI (nI j)), some (pI (nI 23)), some (pI (nI z9))]) rfl (Nat.le_of_ble_eq_true rfl) ?_
                  refine mw_goto i_100_183 ?_
                  refine mw_iload i_100_198 (x := nI 1) rfl ?_
                  refine mw_ifF i_100_199 (show ¬ (nI 1 = 0) by decide) ?_
                  refine mw_aload i_100_200 (L := RING) rfl ?_
                  refine mw_aload i_100_201 (L := QW) rfl ?_
                  refine mw_aload i_100_202 (L := QV) rfl ?_
                  refine mw_aload i_100_203 (L := QC) rfl ?_
                  refine mw_aload i_100_204 (L := QB) rfl ?_
                  refine mw_aload i_100_205 (L := QK) rfl ?_
                  refine mw_aload i_100_206 (L := QM) rfl ?_
                  refine mw_iload i_100_207 (x := nI z9) rfl ?_
                  refine mw_const i_100_208 (v := nI 3) (by decide) ?_
                  refine mw_idiv i_100_209 (by decide) (w := nI (z9 / 3)) (pk_div (by omega) (by omega) (by omega)) ?_
                  obtain ⟨b74, rfl⟩ : ∃ b74, b72 = b74 + 1000 := ⟨b72 - 1000, by omega⟩
                  refine mw_callS i_100_210 mf_96 (as := [pR (some RING), pR (some QW), pR (some QV), pR (some QC), pR (some QB), pR (some QK), pR (some QM), pI (nI (z9 / 3))]) (rest := []) (d' := d9) (b' := b74) (ls0 := [some (pR (some RING)), some (pR (some QW)), some (pR (some QV)), some (pR (some QC)), some (pR (some QB)), some (pR (some QK)), some (pR (some QM)), some (pI (nI (z9 / 3))), none, none, none, none, none, none, none, none, none, none, none, none]) rfl rfl rfl (Nat.le_of_ble_eq_true rfl) rfl (by omega) rfl ?_
                  refine c_isSame (by omega) hH33 (by omega) (by omega) (fun σ35 K35 I35 R35 hH35 => ?_)
                  refine aft_v ?_
                  refine mw_ifF i_100_211 (show ¬ (nI 1 = 0) by decide) ?_
                  refine mw_const i_100_212 (v := nI 1) (by decide) ?_
                  refine mw_goto i_100_213 ?_
                  refine mw_istore i_100_215 (ls' := [some (pR (some SC0)), some (pR (some RING)), some (pR (some QW)), some (pR (some QV)), some (pR (some QC)), some (pR (some QB)), some (pR (some QK)), some (pR (some QM)), some (pI (nI 1)), some (pI (nI j)), some (pI (nI 23)), some (pI (nI z9))]) rfl (Nat.le_of_ble_eq_true rfl) ?_
                  refine mw_iinc i_100_216 (x := nI j) (v := nI (j + 1)) (ls' := [some (pR (some SC0)), some (pR (some RING)), some (pR (some QW)), some (pR (some QV)), some (pR (some QC)), some (pR (some QB)), some (pR (some QK)), some (pR (some QM)), some (pI (nI 1)), some (pI (nI (j + 1))), some (pI (nI 23)), some (pI (nI z9))]) rfl (nI_add _ _) rfl ?_
                  refine mw_goto i_100_217 ?_
                  exact ih (j + 1) _ _ _ _ _ _ (by omega) (by omega) (by omega) ⟨_, hH35⟩
              · skip
                refine mw_const i_100_175 (v := nI 2) (by decide) ?_
                refine mw_goto i_100_176 ?_
                refine mw_iload i_100_180 (x := nI z9) rfl ?_
                obtain ⟨b76, rfl⟩ : ∃ b76, b = b76 + 35 := ⟨b - 35, by omega⟩
                refine mw_callS i_100_181 mf_98 (as := [pR (some RING), pR (some QW), pR (some QV), pR (some QC), pR (some QK), pR (some QM), pI (nI 2), pI (nI z9)]) (rest := []) (d' := d9) (b' := b76) (ls0 := [some (pR (some RING)), some (pR (some QW)), some (pR (some QV)), some (pR (some QC)), some (pR (some QK)), some (pR (some QM)), some (pI (nI 2)), some (pI (nI z9)), none, none, none, none, none]) rfl rfl rfl (Nat.le_of_ble_eq_true rfl) rfl (by omega) rfl ?_
                refine c_told2 (by omega) hH (by omega) hz9 (fun σ37 K37 I37 R37 hH37 => ?_)
                refine aft_v ?_
                refine mw_istore i_100_182 (ls' := [some (pR (some SC0)), some (pR (some RING)), some (pR (some QW)), some (pR (some QV)), some (pR (some QC)), some (pR (some QB)), some (pR (some QK)), some (pR (some QM)), some (pI (nI 1)), some (pI (nI j)), some (pI (nI wy)), some (pI (nI z9))]) rfl (Nat.le_of_ble_eq_true rfl) ?_
                refine mw_goto i_100_183 ?_
                refine mw_iload i_100_198 (x := nI 1) rfl ?_
                refine mw_ifF i_100_199 (show ¬ (nI 1 = 0) by decide) ?_
                refine mw_aload i_100_200 (L := RING) rfl ?_
                refine mw_aload i_100_201 (L := QW) rfl ?_
                refine mw_aload i_100_202 (L := QV) rfl ?_
                refine mw_aload i_100_203 (L := QC) rfl ?_
                refine mw_aload i_100_204 (L := QB) rfl ?_
                refine mw_aload i_100_205 (L := QK) rfl ?_
                refine mw_aload i_100_206 (L := QM) rfl ?_
                refine mw_iload i_100_207 (x := nI z9) rfl ?_
                refine mw_const i_100_208 (v := nI 3) (by decide) ?_
                refine mw_idiv i_100_209 (by decide) (w := nI (z9 / 3)) (pk_div (by omega) (by omega) (by omega)) ?_
                obtain ⟨b78, rfl⟩ : ∃ b78, b76 = b78 + 1000 := ⟨b76 - 1000, by omega⟩
                refine mw_callS i_100_210 mf_96 (as := [pR (some RING), pR (some QW), pR (some QV), pR (some QC), pR (some QB), pR (some QK), pR (some QM), pI (nI (z9 / 3))]) (rest := []) (d' := d9) (b' := b78) (ls0 := [some (pR (some RING)), some (pR (some QW)), some (pR (some QV)), some (pR (some QC)), some (pR (some QB)), some (pR (some QK)), some (pR (some QM)), some (pI (nI (z9 / 3))), none, none, none, none, none, none, none, none, none, none, none, none]) rfl rfl rfl (Nat.le_of_ble_eq_true rfl) rfl (by omega) rfl ?_
                refine c_isSame (by omega) hH37 (by omega) (by omega) (fun σ39 K39 I39 R39 hH39 => ?_)
                refine aft_v ?_
                refine mw_ifF i_100_211 (show ¬ (nI 1 = 0) by decide) ?_
                refine mw_const i_100_212 (v := nI 1) (by decide) ?_
                refine mw_goto i_100_213 ?_
                refine mw_istore i_100_215 (ls' := [some (pR (some SC0)), some (pR (some RING)), some (pR (some QW)), some (pR (some QV)), some (pR (some QC)), some (pR (some QB)), some (pR (some QK)), some (pR (some QM)), some (pI (nI 1)), some (pI (nI j)), some (pI (nI wy)), some (pI (nI z9))]) rfl (Nat.le_of_ble_eq_true rfl) ?_
                refine mw_iinc i_100_216 (x := nI j) (v := nI (j + 1)) (ls' := [some (pR (some SC0)), some (pR (some RING)), some (pR (some QW)), some (pR (some QV)), some (pR (some QC)), some (pR (some QB)), some (pR (some QK)), some (pR (some QM)), some (pI (nI 1)), some (pI (nI (j + 1))), some (pI (nI wy)), some (pI (nI z9))]) rfl (nI_add _ _) rfl ?_
                refine mw_goto i_100_217 ?_
                exact ih (j + 1) _ _ _ _ _ _ (by omega) (by omega) (by omega) ⟨_, hH39⟩
          · skip
            refine mw_aload i_100_154 (L := RING) rfl ?_
            refine mw_aload i_100_155 (L := QW) rfl ?_
            refine mw_aload i_100_156 (L := QV) rfl ?_
            refine mw_aload i_100_157 (L := QC) rfl ?_
            refine mw_aload i_100_158 (L := QK) rfl ?_
            refine mw_aload i_100_159 (L := QM) rfl ?_
            obtain ⟨b80, rfl⟩ : ∃ b80, b = b80 + 7 := ⟨b - 7, by omega⟩
            refine mw_callS i_100_160 mf_92 (as := [pR (some RING), pR (some QW), pR (some QV), pR (some QC), pR (some QK), pR (some QM)]) (rest := []) (d' := d9) (b' := b80) (ls0 := [some (pR (some RING)), some (pR (some QW)), some (pR (some QV)), some (pR (some QC)), some (pR (some QK)), some (pR (some QM)), none, none, none, none, none, none, none]) rfl rfl rfl (Nat.le_of_ble_eq_true rfl) rfl (by omega) rfl ?_
            refine c_isMended (by omega) hH (by omega) (fun σ41 K41 I41 R41 hH41 => ?_)
            refine aft_v ?_
            refine mw_istore i_100_161 (ls' := [some (pR (some SC0)), some (pR (some RING)), some (pR (some QW)), some (pR (some QV)), some (pR (some QC)), some (pR (some QB)), some (pR (some QK)), some (pR (some QM)), some (pI (nI 1)), some (pI (nI j)), some (pI (nI wy)), some (pI (nI z9))]) rfl (Nat.le_of_ble_eq_true rfl) ?_
            refine mw_goto i_100_162 ?_
            refine mw_iload i_100_198 (x := nI 1) rfl ?_
            refine mw_ifF i_100_199 (show ¬ (nI 1 = 0) by decide) ?_
            refine mw_aload i_100_200 (L := RING) rfl ?_
            refine mw_aload i_100_201 (L := QW) rfl ?_
            refine mw_aload i_100_202 (L := QV) rfl ?_
            refine mw_aload i_100_203 (L := QC) rfl ?_
            refine mw_aload i_100_204 (L := QB) rfl ?_
            refine mw_aload i_100_205 (L := QK) rfl ?_
            refine mw_aload i_100_206 (L := QM) rfl ?_
            refine mw_iload i_100_207 (x := nI z9) rfl ?_
            refine mw_const i_100_208 (v := nI 3) (by decide) ?_
            refine mw_idiv i_100_209 (by decide) (w := nI (z9 / 3)) (pk_div (by omega) (by omega) (by omega)) ?_
            obtain ⟨b82, rfl⟩ : ∃ b82, b80 = b82 + 1000 := ⟨b80 - 1000, by omega⟩
            refine mw_callS i_100_210 mf_96 (as := [pR (some RING), pR (some QW), pR (some QV), pR (some QC), pR (some QB), pR (some QK), pR (some QM), pI (nI (z9 / 3))]) (rest := []) (d' := d9) (b' := b82) (ls0 := [some (pR (some RING)), some (pR (some QW)), some (pR (some QV)), some (pR (some QC)), some (pR (some QB)), some (pR (some QK)), some (pR (some QM)), some (pI (nI (z9 / 3))), none, none, none, none, none, none, none, none, none, none, none, none]) rfl rfl rfl (Nat.le_of_ble_eq_true rfl) rfl (by omega) rfl ?_
            refine c_isSame (by omega) hH41 (by omega) (by omega) (fun σ43 K43 I43 R43 hH43 => ?_)
            refine aft_v ?_
            refine mw_ifF i_100_211 (show ¬ (nI 1 = 0) by decide) ?_
            refine mw_const i_100_212 (v := nI 1) (by decide) ?_
            refine mw_goto i_100_213 ?_
            refine mw_istore i_100_215 (ls' := [some (pR (some SC0)), some (pR (some RING)), some (pR (some QW)), some (pR (some QV)), some (pR (some QC)), some (pR (some QB)), some (pR (some QK)), some (pR (some QM)), some (pI (nI 1)), some (pI (nI j)), some (pI (nI wy)), some (pI (nI z9))]) rfl (Nat.le_of_ble_eq_true rfl) ?_
            refine mw_iinc i_100_216 (x := nI j) (v := nI (j + 1)) (ls' := [some (pR (some SC0)), some (pR (some RING)), some (pR (some QW)), some (pR (some QV)), some (pR (some QC)), some (pR (some QB)), some (pR (some QK)), some (pR (some QM)), some (pI (nI 1)), some (pI (nI (j + 1))), some (pI (nI wy)), some (pI (nI z9))]) rfl (nI_add _ _) rfl ?_
            refine mw_goto i_100_217 ?_
            exact ih (j + 1) _ _ _ _ _ _ (by omega) (by omega) (by omega) ⟨_, hH43⟩
        · skip
          refine mw_aload i_100_144 (L := RING) rfl ?_
          refine mw_aload i_100_145 (L := QW) rfl ?_
          refine mw_aload i_100_146 (L := QM) rfl ?_
          refine mw_iload i_100_147 (x := nI z9) rfl ?_
          obtain ⟨b84, rfl⟩ : ∃ b84, b = b84 + 14 := ⟨b - 14, by omega⟩
          refine mw_callS i_100_148 mf_97 (as := [pR (some RING), pR (some QW), pR (some QM), pI (nI z9)]) (rest := []) (d' := d9) (b' := b84) (ls0 := [some (pR (some RING)), some (pR (some QW)), some (pR (some QM)), some (pI (nI z9)), none, none, none, none, none]) rfl rfl rfl (Nat.le_of_ble_eq_true rfl) rfl (by omega) rfl ?_
          refine c_isHurted (by omega) hH (by omega) hz9 (fun σ45 K45 I45 R45 hH45 => ?_)
          refine aft_v ?_
          refine mw_istore i_100_149 (ls' := [some (pR (some SC0)), some (pR (some RING)), some (pR (some QW)), some (pR (some QV)), some (pR (some QC)), some (pR (some QB)), some (pR (some QK)), some (pR (some QM)), some (pI (nI 1)), some (pI (nI j)), some (pI (nI wy)), some (pI (nI z9))]) rfl (Nat.le_of_ble_eq_true rfl) ?_
          refine mw_goto i_100_150 ?_
          refine mw_iload i_100_198 (x := nI 1) rfl ?_
          refine mw_ifF i_100_199 (show ¬ (nI 1 = 0) by decide) ?_
          refine mw_aload i_100_200 (L := RING) rfl ?_
          refine mw_aload i_100_201 (L := QW) rfl ?_
          refine mw_aload i_100_202 (L := QV) rfl ?_
          refine mw_aload i_100_203 (L := QC) rfl ?_
          refine mw_aload i_100_204 (L := QB) rfl ?_
          refine mw_aload i_100_205 (L := QK) rfl ?_
          refine mw_aload i_100_206 (L := QM) rfl ?_
          refine mw_iload i_100_207 (x := nI z9) rfl ?_
          refine mw_const i_100_208 (v := nI 3) (by decide) ?_
          refine mw_idiv i_100_209 (by decide) (w := nI (z9 / 3)) (pk_div (by omega) (by omega) (by omega)) ?_
          obtain ⟨b86, rfl⟩ : ∃ b86, b84 = b86 + 1000 := ⟨b84 - 1000, by omega⟩
          refine mw_callS i_100_210 mf_96 (as := [pR (some RING), pR (some QW), pR (some QV), pR (some QC), pR (some QB), pR (some QK), pR (some QM), pI (nI (z9 / 3))]) (rest := []) (d' := d9) (b' := b86) (ls0 := [some (pR (some RING)), some (pR (some QW)), some (pR (some QV)), some (pR (some QC)), some (pR (some QB)), some (pR (some QK)), some (pR (some QM)), some (pI (nI (z9 / 3))), none, none, none, none, none, none, none, none, none, none, none, none]) rfl rfl rfl (Nat.le_of_ble_eq_true rfl) rfl (by omega) rfl ?_
          refine c_isSame (by omega) hH45 (by omega) (by omega) (fun σ47 K47 I47 R47 hH47 => ?_)
          refine aft_v ?_
          refine mw_ifF i_100_211 (show ¬ (nI 1 = 0) by decide) ?_
          refine mw_const i_100_212 (v := nI 1) (by decide) ?_
          refine mw_goto i_100_213 ?_
          refine mw_istore i_100_215 (ls' := [some (pR (some SC0)), some (pR (some RING)), some (pR (some QW)), some (pR (some QV)), some (pR (some QC)), some (pR (some QB)), some (pR (some QK)), some (pR (some QM)), some (pI (nI 1)), some (pI (nI j)), some (pI (nI wy)), some (pI (nI z9))]) rfl (Nat.le_of_ble_eq_true rfl) ?_
          refine mw_iinc i_100_216 (x := nI j) (v := nI (j + 1)) (ls' := [some (pR (some SC0)), some (pR (some RING)), some (pR (some QW)), some (pR (some QV)), some (pR (some QC)), some (pR (some QB)), some (pR (some QK)), some (pR (some QM)), some (pI (nI 1)), some (pI (nI (j + 1))), some (pI (nI wy)), some (pI (nI z9))]) rfl (nI_add _ _) rfl ?_
          refine mw_goto i_100_217 ?_
          exact ih (j + 1) _ _ _ _ _ _ (by omega) (by omega) (by omega) ⟨_, hH47⟩
      · skip
        refine mw_aload i_100_132 (L := RING) rfl ?_
        refine mw_aload i_100_133 (L := QW) rfl ?_
        refine mw_aload i_100_134 (L := QC) rfl ?_
        refine mw_aload i_100_135 (L := QK) rfl ?_
        refine mw_aload i_100_136 (L := QM) rfl ?_
        refine mw_iload i_100_137 (x := nI z9) rfl ?_
        obtain ⟨b88, rfl⟩ : ∃ b88, b = b88 + 61 := ⟨b - 61, by omega⟩
        refine mw_callS i_100_138 mf_85 (as := [pR (some RING), pR (some QW), pR (some QC), pR (some QK), pR (some QM), pI (nI z9)]) (rest := []) (d' := d9) (b' := b88) (ls0 := [some (pR (some RING)), some (pR (some QW)), some (pR (some QC)), some (pR (some QK)), some (pR (some QM)), some (pI (nI z9)), none, none, none, none, none, none, none, none, none, none, none]) rfl rfl rfl (Nat.le_of_ble_eq_true rfl) rfl (by omega) rfl ?_
        refine c_isBooked (by omega) hH (by omega) hz9 (fun σ49 K49 I49 R49 hH49 => ?_)
        refine aft_v ?_
        refine mw_istore i_100_139 (ls' := [some (pR (some SC0)), some (pR (some RING)), some (pR (some QW)), some (pR (some QV)), some (pR (some QC)), some (pR (some QB)), some (pR (some QK)), some (pR (some QM)), some (pI (nI 1)), some (pI (nI j)), some (pI (nI wy)), some (pI (nI z9))]) rfl (Nat.le_of_ble_eq_true rfl) ?_
        refine mw_goto i_100_140 ?_
        refine mw_iload i_100_198 (x := nI 1) rfl ?_
        refine mw_ifF i_100_199 (show ¬ (nI 1 = 0) by decide) ?_
        refine mw_aload i_100_200 (L := RING) rfl ?_
        refine mw_aload i_100_201 (L := QW) rfl ?_
        refine mw_aload i_100_202 (L := QV) rfl ?_
        refine mw_aload i_100_203 (L := QC) rfl ?_
        refine mw_aload i_100_204 (L := QB) rfl ?_
        refine mw_aload i_100_205 (L := QK) rfl ?_
        refine mw_aload i_100_206 (L := QM) rfl ?_
        refine mw_iload i_100_207 (x := nI z9) rfl ?_
        refine mw_const i_100_208 (v := nI 3) (by decide) ?_
        refine mw_idiv i_100_209 (by decide) (w := nI (z9 / 3)) (pk_div (by omega) (by omega) (by omega)) ?_
        obtain ⟨b90, rfl⟩ : ∃ b90, b88 = b90 + 1000 := ⟨b88 - 1000, by omega⟩
        refine mw_callS i_100_210 mf_96 (as := [pR (some RING), pR (some QW), pR (some QV), pR (some QC), pR (some QB), pR (some QK), pR (some QM), pI (nI (z9 / 3))]) (rest := []) (d' := d9) (b' := b90) (ls0 := [some (pR (some RING)), some (pR (some QW)), some (pR (some QV)), some (pR (some QC)), some (pR (some QB)), some (pR (some QK)), some (pR (some QM)), some (pI (nI (z9 / 3))), none, none, none, none, none, none, none, none, none, none, none, none]) rfl rfl rfl (Nat.le_of_ble_eq_true rfl) rfl (by omega) rfl ?_
        refine c_isSame (by omega) hH49 (by omega) (by omega) (fun σ51 K51 I51 R51 hH51 => ?_)
        refine aft_v ?_
        refine mw_ifF i_100_211 (show ¬ (nI 1 = 0) by decide) ?_
        refine mw_const i_100_212 (v := nI 1) (by decide) ?_
        refine mw_goto i_100_213 ?_
        refine mw_istore i_100_215 (ls' := [some (pR (some SC0)), some (pR (some RING)), some (pR (some QW)), some (pR (some QV)), some (pR (some QC)), some (pR (some QB)), some (pR (some QK)), some (pR (some QM)), some (pI (nI 1)), some (pI (nI j)), some (pI (nI wy)), some (pI (nI z9))]) rfl (Nat.le_of_ble_eq_true rfl) ?_
        refine mw_iinc i_100_216 (x := nI j) (v := nI (j + 1)) (ls' := [some (pR (some SC0)), some (pR (some RING)), some (pR (some QW)), some (pR (some QV)), some (pR (some QC)), some (pR (some QB)), some (pR (some QK)), some (pR (some QM)), some (pI (nI 1)), some (pI (nI (j + 1))), some (pI (nI wy)), some (pI (nI z9))]) rfl (nI_add _ _) rfl ?_
        refine mw_goto i_100_217 ?_
        exact ih (j + 1) _ _ _ _ _ _ (by omega) (by omega) (by omega) ⟨_, hH51⟩
set_option maxRecDepth 20000 in
set_option maxHeartbeats 1000000 in
theorem c_holds {d b : Nat} {K : KM} {I : IM} {R : RM} {Q : QT} {L : Nat} (hd : 30 ≤ d) (hL : L ≤ 260) (hk00 : K SC0 = some (14, L)) (hkn : ∀ q, q ≠ SC0 → K q = none) (q : ∀ K I R, Q (.inl (some (pI (nI 1)))) K I R) : Mw d (b + 100000) N_L_holds 0 [some (pR (some SC0)), none, none, none, none, none, none, none, none, none, none, none] [] K I R Q := by
  obtain ⟨d9, rfl⟩ : ∃ d9, d = d9 + 1 := ⟨d - 1, by omega⟩
  obtain ⟨K21, eK21⟩ : ∃ K21, K21 = setK K RING (5, 0) := ⟨_, rfl⟩
  obtain ⟨I21, eI21⟩ : ∃ I21, I21 = setI I RING (fun _ => 0) := ⟨_, rfl⟩
  obtain ⟨R21, eR21⟩ : ∃ R21, R21 = setR R RING (fun _ => none) := ⟨_, rfl⟩
  refine mw_new i_100_0 (RING) (hkn _ (by simp)) (b' := b + 99990) (by first | rfl | omega) eK21.symm eI21.symm eR21.symm ?_
  refine mw_dup i_100_1 trivial ?_
  have hk0 : K21 RING = some (5, 0) := by rw [eK21, setK_at]
  have hi0 : I21 RING = fun _ => 0 := by rw [eI21, setI_at]
  have hfr : ∀ L : Lb, 5 ≤ L.1 → K21 L = none := fun L h5 => by rw [eK21, setK_ne (fun e => by subst e; exact absurd h5 (by decide))]; exact hkn _ (fun e => by subst e; exact absurd h5 (by decide))
  refine mw_callI i_100_2 mf_32 (as := []) (rest := [pR (some RING)]) (d' := d9) (b' := b + 93990) (ls0 := [some (pR (some RING)), none]) rfl rfl rfl (Nat.le_of_ble_eq_true rfl) hk0 rfl (by omega) rfl ?_
  refine k_Rinit (b := 0) (by omega) hk0 hi0 hfr (fun K1 I1 R1 hRS hWP hTP => ?_)
  have hC0 := CW_0 hRS hWP hTP
  have hs0 : K1 SC0 = some (14, L) := by rw [(hRS.1 SC0 (by decide)).1, eK21, setK_ne (by decide)]; exact hk00
  refine ⟨⟨_, rfl⟩, aft_n ?_⟩
  refine mw_astore i_100_3 (ls' := [some (pR (some SC0)), some (pR (some RING)), none, none, none, none, none, none, none, none, none, none]) rfl (Nat.le_of_ble_eq_true rfl) ?_
  refine mw_const i_100_4 (v := nI 63) (by decide) ?_
  obtain ⟨K22, eK22⟩ : ∃ K22, K22 = setK K1 QW (7, 63) := ⟨_, rfl⟩
  obtain ⟨I22, eI22⟩ : ∃ I22, I22 = setI I1 QW (fun _ => 0) := ⟨_, rfl⟩
  obtain ⟨R22, eR22⟩ : ∃ R22, R22 = setR R1 QW (fun _ => none) := ⟨_, rfl⟩
  refine mw_newa i_100_5 (QW) (by rw [(hRS.1 QW (by decide)).1, eK21, setK_ne (by decide)]; exact hkn _ (by decide)) (by decide) (b' := b + 93926) (by first | rfl | omega) eK22.symm eI22.symm eR22.symm ?_
  refine mw_astore i_100_6 (ls' := [some (pR (some SC0)), some (pR (some RING)), some (pR (some QW)), none, none, none, none, none, none, none, none, none]) rfl (Nat.le_of_ble_eq_true rfl) ?_
  refine mw_const i_100_7 (v := nI 28) (by decide) ?_
  obtain ⟨K23, eK23⟩ : ∃ K23, K23 = setK K22 QV (7, 28) := ⟨_, rfl⟩
  obtain ⟨I23, eI23⟩ : ∃ I23, I23 = setI I22 QV (fun _ => 0) := ⟨_, rfl⟩
  obtain ⟨R23, eR23⟩ : ∃ R23, R23 = setR R22 QV (fun _ => none) := ⟨_, rfl⟩
  refine mw_newa i_100_8 (QV) (by rw [eK22, setK_ne (by decide), (hRS.1 QV (by decide)).1, eK21, setK_ne (by decide)]; exact hkn _ (by decide)) (by decide) (b' := b + 93897) (by first | rfl | omega) eK23.symm eI23.symm eR23.symm ?_
  refine mw_astore i_100_9 (ls' := [some (pR (some SC0)), some (pR (some RING)), some (pR (some QW)), some (pR (some QV)), none, none, none, none, none, none, none, none]) rfl (Nat.le_of_ble_eq_true rfl) ?_
  refine mw_const i_100_10 (v := nI 49) (by decide) ?_
  obtain ⟨K24, eK24⟩ : ∃ K24, K24 = setK K23 QC (7, 49) := ⟨_, rfl⟩
  obtain ⟨I24, eI24⟩ : ∃ I24, I24 = setI I23 QC (fun _ => 0) := ⟨_, rfl⟩
  obtain ⟨R24, eR24⟩ : ∃ R24, R24 = setR R23 QC (fun _ => none) := ⟨_, rfl⟩
  refine mw_newa i_100_11 (QC) (by rw [eK23, setK_ne (by decide), eK22, setK_ne (by decide), (hRS.1 QC (by decide)).1, eK21, setK_ne (by decide)]; exact hkn _ (by decide)) (by decide) (b' := b + 93847) (by first | rfl | omega) eK24.symm eI24.symm eR24.symm ?_
  refine mw_astore i_100_12 (ls' := [some (pR (some SC0)), some (pR (some RING)), some (pR (some QW)), some (pR (some QV)), some (pR (some QC)), none, none, none, none, none, none, none]) rfl (Nat.le_of_ble_eq_true rfl) ?_
  refine mw_const i_100_13 (v := nI 49) (by decide) ?_
  obtain ⟨K25, eK25⟩ : ∃ K25, K25 = setK K24 QB (7, 49) := ⟨_, rfl⟩
  obtain ⟨I25, eI25⟩ : ∃ I25, I25 = setI I24 QB (fun _ => 0) := ⟨_, rfl⟩
  obtain ⟨R25, eR25⟩ : ∃ R25, R25 = setR R24 QB (fun _ => none) := ⟨_, rfl⟩
  refine mw_newa i_100_14 (QB) (by rw [eK24, setK_ne (by decide), eK23, setK_ne (by decide), eK22, setK_ne (by decide), (hRS.1 QB (by decide)).1, eK21, setK_ne (by decide)]; exact hkn _ (by decide)) (by decide) (b' := b + 93797) (by first | rfl | omega) eK25.symm eI25.symm eR25.symm ?_
  refine mw_astore i_100_15 (ls' := [some (pR (some SC0)), some (pR (some RING)), some (pR (some QW)), some (pR (some QV)), some (pR (some QC)), some (pR (some QB)), none, none, none, none, none, none]) rfl (Nat.le_of_ble_eq_true rfl) ?_
  refine mw_const i_100_16 (v := nI 54) (by decide) ?_
  obtain ⟨K26, eK26⟩ : ∃ K26, K26 = setK K25 QK (7, 54) := ⟨_, rfl⟩
  obtain ⟨I26, eI26⟩ : ∃ I26, I26 = setI I25 QK (fun _ => 0) := ⟨_, rfl⟩
  obtain ⟨R26, eR26⟩ : ∃ R26, R26 = setR R25 QK (fun _ => none) := ⟨_, rfl⟩
  refine mw_newa i_100_17 (QK) (by rw [eK25, setK_ne (by decide), eK24, setK_ne (by decide), eK23, setK_ne (by decide), eK22, setK_ne (by decide), (hRS.1 QK (by decide)).1, eK21, setK_ne (by decide)]; exact hkn _ (by decide)) (by decide) (b' := b + 93742) (by first | rfl | omega) eK26.symm eI26.symm eR26.symm ?_
  refine mw_astore i_100_18 (ls' := [some (pR (some SC0)), some (pR (some RING)), some (pR (some QW)), some (pR (some QV)), some (pR (some QC)), some (pR (some QB)), some (pR (some QK)), none, none, none, none, none]) rfl (Nat.le_of_ble_eq_true rfl) ?_
  refine mw_const i_100_19 (v := nI 18) (by decide) ?_
  obtain ⟨K27, eK27⟩ : ∃ K27, K27 = setK K26 QM (7, 18) := ⟨_, rfl⟩
  obtain ⟨I27, eI27⟩ : ∃ I27, I27 = setI I26 QM (fun _ => 0) := ⟨_, rfl⟩
  obtain ⟨R27, eR27⟩ : ∃ R27, R27 = setR R26 QM (fun _ => none) := ⟨_, rfl⟩
  refine mw_newa i_100_20 (QM) (by rw [eK26, setK_ne (by decide), eK25, setK_ne (by decide), eK24, setK_ne (by decide), eK23, setK_ne (by decide), eK22, setK_ne (by decide), (hRS.1 QM (by decide)).1, eK21, setK_ne (by decide)]; exact hkn _ (by decide)) (by decide) (b' := b + 93723) (by first | rfl | omega) eK27.symm eI27.symm eR27.symm ?_
  refine mw_astore i_100_21 (ls' := [some (pR (some SC0)), some (pR (some RING)), some (pR (some QW)), some (pR (some QV)), some (pR (some QC)), some (pR (some QB)), some (pR (some QK)), some (pR (some QM)), none, none, none, none]) rfl (Nat.le_of_ble_eq_true rfl) ?_
  have hall : ∀ M : Lb, 4 ≤ M.1 → K27 M = K1 M ∧ I27 M = I1 M ∧ R27 M = R1 M := fun M h => by
    have hne : ∀ k : Nat, M ≠ (3, k, 0) := fun k e => by subst e; exact absurd h (by show ¬ 4 ≤ 3; decide)
    rw [eK27, setK_ne (hne _), eK26, setK_ne (hne _), eK25, setK_ne (hne _), eK24, setK_ne (hne _), eK23, setK_ne (hne _), eK22, setK_ne (hne _)]
    rw [eI27, setI_ne (hne _), eI26, setI_ne (hne _), eI25, setI_ne (hne _), eI24, setI_ne (hne _), eI23, setI_ne (hne _), eI22, setI_ne (hne _)]
    rw [eR27, setR_ne (hne _), eR26, setR_ne (hne _), eR25, setR_ne (hne _), eR24, setR_ne (hne _), eR23, setR_ne (hne _), eR22, setR_ne (hne _)]
    exact ⟨rfl, rfl, rfl⟩
  have hC8 := CW_hi hC0 hall
  have hK08 : K27 SC0 = some (14, L) := by rw [eK27, setK_ne (by decide), eK26, setK_ne (by decide), eK25, setK_ne (by decide), eK24, setK_ne (by decide), eK23, setK_ne (by decide), eK22, setK_ne (by decide)]; exact hs0
  have hQ8 : KQ K27 := ⟨by rw [eK27, setK_ne (by decide), eK26, setK_ne (by decide), eK25, setK_ne (by decide), eK24, setK_ne (by decide), eK23, setK_ne (by decide), eK22, setK_at], by rw [eK27, setK_ne (by decide), eK26, setK_ne (by decide), eK25, setK_ne (by decide), eK24, setK_ne (by decide), eK23, setK_at], by rw [eK27, setK_ne (by decide), eK26, setK_ne (by decide), eK25, setK_ne (by decide), eK24, setK_at], by rw [eK27, setK_ne (by decide), eK26, setK_ne (by decide), eK25, setK_at], by rw [eK27, setK_ne (by decide), eK26, setK_at], by rw [eK27, setK_at]⟩
  have y0 : I27 QW = fun _ => 0 := by rw [eI27, setI_ne (by decide), eI26, setI_ne (by decide), eI25, setI_ne (by decide), eI24, setI_ne (by decide), eI23, setI_ne (by decide), eI22, setI_at]
  have y1 : I27 QV = fun _ => 0 := by rw [eI27, setI_ne (by decide), eI26, setI_ne (by decide), eI25, setI_ne (by decide), eI24, setI_ne (by decide), eI23, setI_at]
  have y2 : I27 QC = fun _ => 0 := by rw [eI27, setI_ne (by decide), eI26, setI_ne (by decide), eI25, setI_ne (by decide), eI24, setI_at]
  have y3 : I27 QB = fun _ => 0 := by rw [eI27, setI_ne (by decide), eI26, setI_ne (by decide), eI25, setI_at]
  have y4 : I27 QK = fun _ => 0 := by rw [eI27, setI_ne (by decide), eI26, setI_at]
  have y5 : I27 QM = fun _ => 0 := by rw [eI27, setI_at]
  refine mw_aload i_100_22 (L := RING) rfl ?_
  refine mw_callV i_100_23 mf_34 (as := []) (rest := []) (d' := d9) (b' := b + 93716) (ls0 := [some (pR (some RING))]) rfl rfl rfl (Nat.le_of_ble_eq_true rfl) hC8.1.1.1.1 rfl (by omega) rfl ?_
  refine k_title (by omega) hC8 (by omega) (by omega) (fun h => absurd (show tn sg0 < 4 by decide) h) (fun _ I91 hF91 hR91 v hv => ?_)
  rw [hv, show tn sg0 = 0 from rfl]
  have hC9 : CW 1 (tiS sg0) K27 I91 R27 := ⟨hC8.1, hR91, IV_ti IV_0 (by decide)⟩
  refine aft_v ?_
  refine mw_ifF i_100_24 (show ¬ (¬ nI 0 = 0) by decide) ?_
  refine mw_aload i_100_25 (L := RING) rfl ?_
  refine mw_callV i_100_26 mf_34 (as := []) (rest := []) (d' := d9) (b' := b + 93709) (ls0 := [some (pR (some RING))]) rfl rfl rfl (Nat.le_of_ble_eq_true rfl) hC8.1.1.1.1 rfl (by omega) rfl ?_
  refine k_title (by omega) hC9 (by omega) (by omega) (fun h => absurd (show tn (tiS sg0) < 4 by decide) h) (fun _ I92 hF92 hR92 v9 hv9 => ?_)
  rw [hv9, show tn (tiS sg0) = 1 from rfl]
  have hC10 : CW 2 (tiS (tiS sg0)) K27 I92 R27 := ⟨hC8.1, hR92, IV_ti (IV_ti IV_0 (by decide)) (by decide)⟩
  refine aft_v ?_
  refine mw_const i_100_27 (v := nI 1) (by decide) ?_
  refine mw_icF i_100_28 (show ¬ (¬ nI 1 = nI 1) by decide) ?_
  refine mw_const i_100_29 (v := nI 1) (by decide) ?_
  refine mw_goto i_100_30 ?_
  refine mw_istore i_100_32 (ls' := [some (pR (some SC0)), some (pR (some RING)), some (pR (some QW)), some (pR (some QV)), some (pR (some QC)), some (pR (some QB)), some (pR (some QK)), some (pR (some QM)), some (pI (nI 1)), none, none, none]) rfl (Nat.le_of_ble_eq_true rfl) ?_
  refine mw_const i_100_33 (v := nI 0) (by decide) ?_
  refine mw_istore i_100_34 (ls' := [some (pR (some SC0)), some (pR (some RING)), some (pR (some QW)), some (pR (some QV)), some (pR (some QC)), some (pR (some QB)), some (pR (some QK)), some (pR (some QM)), some (pI (nI 1)), some (pI (nI 0)), none, none]) rfl (Nat.le_of_ble_eq_true rfl) ?_
  refine c_wr_lp (by omega) hL (fun b7 I7 u9 u10 u11 hb7 hH7 => ?_) 8 0 _ _ _ _ (by omega) (by omega) (by omega) (HQ_0 hC10 hQ8 hK08 (by rw [hF92 QW (by decide), hF91 QW (by decide)]; exact y0) (by rw [hF92 QV (by decide), hF91 QV (by decide)]; exact y1) (by rw [hF92 QC (by decide), hF91 QC (by decide)]; exact y2) (by rw [hF92 QB (by decide), hF91 QB (by decide)]; exact y3) (by rw [hF92 QK (by decide), hF91 QK (by decide)]; exact y4) (by rw [hF92 QM (by decide), hF91 QM (by decide)]; exact y5))
  refine mw_const i_100_106 (v := nI 0) (by decide) ?_
  refine mw_istore i_100_107 (ls' := [some (pR (some SC0)), some (pR (some RING)), some (pR (some QW)), some (pR (some QV)), some (pR (some QC)), some (pR (some QB)), some (pR (some QK)), some (pR (some QM)), some (pI (nI 1)), some (pI (nI 0)), u10, u11]) rfl (Nat.le_of_ble_eq_true rfl) ?_
  exact c_st_lp (by omega) hL q 71 0 _ _ _ _ _ _ (by omega) (by omega) (by omega) (HQ_W hH7)
set_option maxRecDepth 20000 in
set_option maxHeartbeats 1000000 in
theorem c_isHeld {d b : Nat} {K : KM} {I : IM} {R : RM} {Q : QT} {L : Nat} (hd : 40 ≤ d) (hL : L ≤ 260) (hk00 : K SC0 = some (14, L)) (hkn : ∀ q, q ≠ SC0 → K q = none) (q : ∀ K I R, Q (.inl (some (pI (nI 1)))) K I R) : Mw d (b + 100000) N_L_isHeld 0 [some (pR (some SC0)), none] [] K I R Q := by
  obtain ⟨d9, rfl⟩ : ∃ d9, d = d9 + 1 := ⟨d - 1, by omega⟩
  refine mw_aload i_101_0 (L := SC0) rfl ?_
  refine mw_callS i_101_1 mf_100 (as := [pR (some SC0)]) (rest := []) (d' := d9) (b' := b) (ls0 := [some (pR (some SC0)), none, none, none, none, none, none, none, none, none, none, none]) rfl rfl rfl (Nat.le_of_ble_eq_true rfl) rfl (by omega) rfl ?_
  refine c_holds (b := 0) (by omega) hL hk00 hkn (fun K1 I1 R1 => ?_)
  refine aft_v ?_
  refine mw_iret i_101_2 (x := nI 1) (fun _ => (by decide)) ?_
  exact q _ _ _
set_option maxRecDepth 20000 in
set_option maxHeartbeats 1000000 in
theorem c_law {d b : Nat} {K : KM} {I : IM} {R : RM} {Q : QT} {L : Nat} (hd : 50 ≤ d) (hL : L ≤ 260) (hk00 : K SC0 = some (14, L)) (hkn : ∀ q, q ≠ SC0 → K q = none) (q : ∀ K I R, Q (.inl (some (pI (nI 1)))) K I R) : Mw d (b + 100000) N_L_law 0 [some (pR (some SC0))] [] K I R Q := by
  obtain ⟨d9, rfl⟩ : ∃ d9, d = d9 + 1 := ⟨d - 1, by omega⟩
  refine mw_aload i_102_0 (L := SC0) rfl ?_
  refine mw_callS i_102_1 mf_101 (as := [pR (some SC0)]) (rest := []) (d' := d9) (b' := b) (ls0 := [some (pR (some SC0)), none]) rfl rfl rfl (Nat.le_of_ble_eq_true rfl) rfl (by omega) rfl ?_
  refine c_isHeld (b := 0) (by omega) hL hk00 hkn (fun K1 I1 R1 => ?_)
  refine aft_v ?_
  refine mw_iret i_102_2 (x := nI 1) (fun _ => (by decide)) ?_
  exact q _ _ _
