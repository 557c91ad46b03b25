/-! the class books -/
theorem Ex_congr {p q : Nat → Prop} {n : Nat} (h : ∀ k, k < n → (p k ↔ q k)) : Ex p n ↔ Ex q n := ⟨fun ⟨j, hj, a⟩ => ⟨j, hj, (h j hj).mp a⟩, fun ⟨j, hj, a⟩ => ⟨j, hj, (h j hj).mpr a⟩⟩
def onC (σ : ST) (x : Nat) (v : Int32) : Prop := Ex (fun j => σ 19 (36 * x + 6 * j) = v ∨ σ 19 (36 * x + 6 * j + 1) = v) (mn σ x)
def hTi (σ : ST) (x : Nat) (ti : Int32) : Prop := Ex (fun j => ¬ ti = (-1) ∧ σ 19 (36 * x + 6 * j + 4) = ti) (mn σ x)
def rom (σ : ST) (x t : Nat) (mi : Int32) : Prop := σ 22 x = nI 0 ∧ mn σ x < 6 ∧ smI (fun j => σ 19 (36 * x + 6 * j + 3)) (mn σ x) + mi ≤ nI 120 ∧ (mn σ x = 0 ∨ σ 21 x = nI t)
def brd (σ : ST) (lo wi : Nat) (day : Int32) : Prop := day < σ 11 (10 * lo + wi) ∨ day < σ 12 lo
def stk (σ : ST) (ti : Int32) (f s : Nat) : Prop := ti = (-1) ∨ ∃ t, t < 4 ∧ ti = nI t ∧ (chO σ t = (-1) ∨ chO σ t = nI f ∨ chO σ t = nI s)
def bkA (σ : ST) (x t f s : Nat) (mi ti : Int32) : Prop := rom σ x t mi ∧ ¬ onC σ x (nI f) ∧ ¬ onC σ x (nI s) ∧ ¬ hTi σ x ti
def bkB (σ : ST) (x f s : Nat) (pb : Prop) (ti : Int32) : Prop := ¬ nI x < σ 6 f ∧ ¬ nI x < σ 6 s ∧ stk σ ti f s ∧ (pb → ¬ brd σ s f (nI x)) ∧ (¬ pb → ¬ brd σ f s (nI x))
theorem onC_iff {n : Nat} {σ : ST} {K : KM} {I : IM} {R : RM} (h : CW n σ K I R) {x : Nat} (hx : x < 1000) (v : Int32) : Ex (fun k => I (MT (cix R x) (pm R (cix R x) k)) 0 = v ∨ I (MT (cix R x) (pm R (cix R x) k)) 1 = v) (mn σ x) ↔ onC σ x v := Ex_congr (fun k hk => by
  have := (CW_c h hx).2.2.2.2.2 k hk
  rw [this.1, this.2.1])
theorem hTi_iff {n : Nat} {σ : ST} {K : KM} {I : IM} {R : RM} (h : CW n σ K I R) {x : Nat} (hx : x < 1000) (ti : Int32) : Ex (fun k => ¬ ti = (-1) ∧ I (MT (cix R x) (pm R (cix R x) k)) 4 = ti) (mn σ x) ↔ hTi σ x ti := Ex_congr (fun k hk => by
  have := (CW_c h hx).2.2.2.2.2 k hk
  rw [this.2.2.2.2.1])
theorem rom_iff {n : Nat} {σ : ST} {K : KM} {I : IM} {R : RM} (h : CW n σ K I R) {x : Nat} (hx : x < 1000) (t : Nat) (mi : Int32) : (I (CA (cix R x)) 3 = nI 0 ∧ mn σ x < 6 ∧ smI (fun k => I (MT (cix R x) (pm R (cix R x) k)) 3) (mn σ x) + mi ≤ nI 120 ∧ (nI (mn σ x) = nI 0 ∨ I (CA (cix R x)) 1 = nI t)) ↔ rom σ x t mi := by
  obtain ⟨c1, c2, c3, c4, c5, c6⟩ := CW_c h hx
  have e1 : smI (fun k => I (MT (cix R x) (pm R (cix R x) k)) 3) (mn σ x) = smI (fun j => σ 19 (36 * x + 6 * j + 3)) (mn σ x) := smI_congr (fun k hk => (c6 k hk).2.2.2.1)
  have e2 : (nI (mn σ x) = nI 0 ∨ I (CA (cix R x)) 1 = nI t) ↔ (mn σ x = 0 ∨ σ 21 x = nI t) := by
    by_cases e : mn σ x = 0
    · exact ⟨fun _ => Or.inl e, fun _ => Or.inl (by rw [e])⟩
    · have h5 := c5 e
      rw [h5.1, h5.2, nI_eq (by omega) (by omega)]
  unfold rom
  rw [c4, e1, e2]
theorem le_lt1 {a b : Int32} {s : Nat} (hs : s ≤ 1000) (e : b + nI 1 = nI s) : a ≤ b ↔ a < nI s := by
  have e2 : b = nI s - nI 1 := by rw [← e]; exact (Int32.add_sub_cancel _ _).symm
  have e3 := pk_sub_toInt (a := s) (b := 1) (by omega) (by decide)
  rw [e2, Int32.le_iff_toInt_le, Int32.lt_iff_toInt_lt, e3, nI_toInt (by omega)]
  omega
theorem brd_iff {n : Nat} {σ : ST} {K : KM} {I : IM} {R : RM} (h : CW n σ K I R) {lo wi : Nat} (hl : lo < 10) (hw : wi < 10) (x : Int32) : (x ≤ I (CD lo) wi ∨ x < I (WR lo) 12) ↔ brd σ lo wi x := by
  obtain ⟨s, hs, e⟩ := (h.2.2.2.2.2.1 lo hl).2.2.2.2.2.2.1 wi hw
  have r := RC_rd h.2.1 hl
  unfold brd
  rw [e, r.2.2.2.2.2.2.2.2.2.1, le_lt1 hs ((r.2.2.2.2.2.2.2.2.2.2.2.1 wi hw).trans e)]
theorem k_stk {d b n : Nat} {K : KM} {I : IM} {R : RM} {Q : QT} {σ : ST} {ti : Int32} {f s : Nat} (h : CW n σ K I R) (hti : ti = (-1) ∨ isN ti (tn σ)) (q : Q (.inl (some (pI (bI (stk σ ti f s))))) K I R) : Mw d b N_X5_isAtStake 0 [some (pR (some RING)), some (pI ti), some (pI (nI f)), some (pI (nI s)), none] [] K I R Q := by
  rcases hti with rfl | ⟨t, ht, rfl⟩
  · refine k_stake0 ?_
    rw [show bI True = bI (stk σ (-1) f s) from bI_congr ⟨fun _ => Or.inl rfl, fun _ => trivial⟩]
    exact q
  · have ht4 := CW_tt h ht
    refine k_stake h.1.1 ht4 ?_
    rw [(h.2.1.2.2.2.1 t ht4).2.1, show bI (chO σ t = (-1) ∨ chO σ t = nI f ∨ chO σ t = nI s) = bI (stk σ (nI t) f s) from bI_congr ⟨fun q => Or.inr ⟨t, ht4, rfl, q⟩, fun q => ?_⟩]
    · exact q
    · rcases q with q | ⟨t2, h2, e, q⟩
      · exact absurd q (nI_nm1 (by omega))
      · rw [nI_inj e (by omega) (by omega)]; exact q
/-- the class may make a card; what the reference and the law own stays -/
def FrKR (K K' : KM) (R R' : RM) : Prop := ∀ L : Lb, L.1 < 4 → K' L = K L ∧ R' L = R L
theorem FrKR_rfl {K : KM} {R : RM} : FrKR K K R R := fun _ _ => ⟨rfl, rfl⟩
theorem CS0_eq {K K' : KM} {R R' : RM} (h : CS0 K R) (hK : ∀ L : Lb, L.1 < 19 → K' L = K L) (hR : ∀ L : Lb, L.1 < 19 → L ≠ CRD → R' L = R L) : CS0 K' R' := by
  obtain ⟨⟨a0, a1, a2, a3, a4, a5, a6⟩, ⟨b0, b1, b2, b3, b4⟩, c, t, m⟩ := h
  have r4 := hR RING (by decide) (by simp)
  refine ⟨⟨?_, ?_, ?_, ?_, ?_, ?_, ?_⟩, ⟨?_, ?_, ?_, ?_, ?_⟩, fun w hw => ?_, fun w hw => ?_, fun w hw => ?_⟩
  · rw [hK RING (by decide)]; exact a0
  · rw [r4]; exact a1
  · rw [r4]; exact a2
  · rw [r4]; exact a3
  · rw [r4]; exact a4
  · rw [r4]; exact a5
  · rw [r4]; exact a6
  · rw [hK ROS (by decide)]; exact b0
  · rw [hK TIT (by decide)]; exact b1
  · rw [hK CRD (by decide)]; exact b2
  · rw [hK GAT (by decide)]; exact b3
  · rw [hK MEN (by decide)]; exact b4
  · rw [hR ROS (by decide) (by simp), hK (WR w) (by show 12 < 19; decide), hR (WR w) (by show 12 < 19; decide) (by simp), hK (LV w) (by show 13 < 19; decide), hK (CD w) (by show 14 < 19; decide), hK (WA w) (by show 15 < 19; decide)]; exact c w hw
  · rw [hR TIT (by decide) (by simp), hK (TT w) (by show 16 < 19; decide), hR (TT w) (by show 16 < 19; decide) (by simp), hK (TH w) (by show 17 < 19; decide), hK (TD w) (by show 18 < 19; decide)]; exact t w hw
  · rw [hR MEN (by decide) (by simp), hK (MN w) (by show 10 < 19; decide)]; exact m w hw
theorem COp_eq {K K' : KM} {R R' : RM} {c : Nat} {p : Nat → Nat} (h : COp K R c p) (h1 : K' (CA c) = K (CA c)) (h2 : R' (CA c) = R (CA c)) (h3 : K' (MM c) = K (MM c)) (h4 : R' (MM c) = R (MM c)) (h5 : ∀ j, K' (MT c j) = K (MT c j)) : COp K' R' c p := by
  unfold COp at *
  rw [h1, h2, h3, h4]
  obtain ⟨a, b, c2, d, e, f⟩ := h
  exact ⟨a, b, c2, fun j hj => by rw [h5]; exact d j hj, e, f⟩
theorem CO_eq {K K' : KM} {R R' : RM} {c : Nat} (h : CO K R c) (h1 : K' (CA c) = K (CA c)) (h2 : R' (CA c) = R (CA c)) (h3 : K' (MM c) = K (MM c)) (h4 : R' (MM c) = R (MM c)) (h5 : ∀ j, K' (MT c j) = K (MT c j)) : CO K' R' c := by
  have e : pm R' c = pm R c := by funext j; unfold pm; rw [h4]
  unfold CO
  rw [e]
  exact COp_eq h h1 h2 h3 h4 h5
theorem CO_of {K : KM} {R : RM} {c : Nat} {p : Nat → Nat} (h : COp K R c p) : CO K R c := by
  obtain ⟨a, b, c2, d, e, f⟩ := h
  have ep : ∀ j, j < 6 → pm R c j = p j := fun j hj => by unfold pm; rw [(e j hj).2]
  exact ⟨a, b, c2, d, fun j hj => by rw [ep j hj]; exact e j hj, fun i j hi hj q => f i j hi hj (by rw [← ep i hi, ← ep j hj]; exact q)⟩
theorem CB_ok {n x : Nat} {σ : ST} {K K' : KM} {I I' : IM} {R R' : RM} (hW : CW n σ K I R) (hx : x < 1000) (hn : R CRD x = none) (h : CB x K I R K' I' R') : CSX K' R' ∧ RC σ I' R' ∧ FrC I I' ∧ FrKR K K' R R' ∧ R' CRD x = some (CA x) := by
  obtain ⟨h1, h2, h3, h4, h5, h6⟩ := h
  have n19 : ∀ L : Lb, L.1 < 19 → NC x L ∧ L ≠ CA x := fun L hL => ⟨NC_lt (by omega), fun e => by subst e; exact absurd hL (by show ¬ 19 < 19; decide)⟩
  have hK19 : ∀ L : Lb, L.1 < 19 → K' L = K L := fun L hL => (h1 L (n19 L hL).1 (n19 L hL).2).1
  have hI19 : ∀ L : Lb, L.1 < 19 → I' L = I L := fun L hL => (h1 L (n19 L hL).1 (n19 L hL).2).2
  have hR19 : ∀ L : Lb, L.1 < 19 → L ≠ CRD → R' L = R L := fun L hL h9 => h2 L (n19 L hL).1 (n19 L hL).2 h9
  have ncM : ∀ c, c ≠ x → NC x (MM c) := fun c hc => ⟨fun e => hc e.2, fun e => absurd (show (20 : Nat) = 21 from e.1) (by decide)⟩
  have ncT : ∀ c j, c ≠ x → NC x (MT c j) := fun c j hc => ⟨fun e => absurd (show (21 : Nat) = 20 from e.1) (by decide), fun e => hc e.2⟩
  have kC : ∀ c, c ≠ x → K' (CA c) = K (CA c) ∧ I' (CA c) = I (CA c) := fun c hc => h1 (CA c) NC_CA (by simp [hc])
  have kM : ∀ c, c ≠ x → K' (MM c) = K (MM c) ∧ I' (MM c) = I (MM c) := fun c hc => h1 (MM c) (ncM c hc) (by simp)
  have kT : ∀ c j, c ≠ x → K' (MT c j) = K (MT c j) ∧ I' (MT c j) = I (MT c j) := fun c j hc => h1 (MT c j) (ncT c j hc) (by simp)
  have rC : ∀ c, c ≠ x → R' (CA c) = R (CA c) := fun c hc => h2 (CA c) NC_CA (by simp [hc]) (by simp)
  have rM : ∀ c, c ≠ x → R' (MM c) = R (MM c) := fun c hc => h2 (MM c) (ncM c hc) (by simp) (by simp)
  have co : ∀ c, c ≠ x → CO K R c → CO K' R' c := fun c hc q => CO_eq q (kC c hc).1 (rC c hc) (kM c hc).1 (rM c hc) (fun j => (kT c j hc).1)
  refine ⟨⟨CS0_eq hW.1.1 hK19 hR19, co 1000 (by omega) hW.1.2.1, fun c hc => ?_⟩, ?_, fun L hL => hI19 L (by omega), fun L hL => ⟨hK19 L (by omega), hR19 L (by omega) (fun e => by subst e; exact absurd hL (by decide))⟩, h4⟩
  · by_cases e : c = x
    · subst e
      exact Or.inr ⟨h4, CO_of h5⟩
    · rcases hW.1.2.2 c hc with ⟨a1, a2, a3, a4⟩ | ⟨a1, a2⟩
      · exact Or.inl ⟨(h3 c e).trans a1, (kC c e).1.trans a2, (kM c e).1.trans a3, fun j => (kT c j e).1.trans (a4 j)⟩
      · exact Or.inr ⟨(h3 c e).trans a1, co c e a2⟩
  · refine RC_C hW.2.1 hI19 (fun k _ => rfl) (by rw [(kC 1000 (by omega)).2]; exact hW.2.1.2.2.2.2.1) (fun c hc => ?_)
    have hrc := hW.2.1.2.2.2.2.2 c hc
    by_cases e : c = x
    · subst e
      rcases hrc with ⟨a1, a2, a3⟩ | ⟨a1, -⟩
      · have e2 : mn σ c = 0 := by unfold mn; rw [a2]; rfl
        exact Or.inr ⟨h4, by rw [h6, a2]; rfl, by rw [h6, a3]; rfl, fun q => absurd e2 q, fun j hj => absurd hj (by omega)⟩
      · rw [hn] at a1; cases a1
    · exact RCc_eq2 hrc (hW.2.2.2.2.2.2.2.1 c hc).2.1 (h3 c e) (rM c e) (kC c e).2 (fun j => (kT c j e).2) rfl rfl rfl (fun _ _ => rfl)
theorem k_ctb {d b n x : Nat} {K : KM} {I : IM} {R : RM} {Q : QT} {σ : ST} (hd : 3 ≤ d) (hW : CW n σ K I R) (hx : x < 1000) (q : ∀ K' I' R', CSX K' R' → RC σ I' R' → FrC I I' → FrKR K K' R R' → R' CRD x = some (CA x) → Q (.inl (some (pR (some (CA x))))) K' I' R') : Mw d (b + 54) N_X5_cardToBook 0 [some (pR (some RING)), some (pI (nI x))] [] K I R Q := by
  rcases hW.1.2.2 x hx with ⟨h1, h2, h3, h4⟩ | ⟨h1, h2⟩
  · refine k_ctb_n hd hW.1.1 hx h1 h2 h3 h4 (fun K' I' R' h => ?_)
    obtain ⟨a, b, c, d, e⟩ := CB_ok hW hx h1 h
    exact q K' I' R' a b c d e
  · exact k_ctb_y hW.1.1 hx h1 (q K I R hW.1 hW.2.1 FrC_rfl FrKR_rfl h1)
