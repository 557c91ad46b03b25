theorem z_castw : Cond.castable (pg_ex 1) (pg_ex 1) ∈ lw_tbl ∧ Cond.castable (pg_ex 2) (pg_ex 2) ∈ lw_tbl ∧ Cond.castable (pg_ex 3) (pg_ex 3) ∈ lw_tbl := ⟨List.mem_of_getElem? (i := 372) (by decide +kernel), List.mem_of_getElem? (i := 292) (by decide +kernel), List.mem_of_getElem? (i := 424) (by decide +kernel)⟩

/-! throws and calls -/
theorem va_at_grow {D : va_G} {cl : List vw_C} {q : Nat × va_E} {H H1 : Heap} (hk : ∀ a : Nat, a < H.size → H1[a]? = H[a]?) (h : va_at D cl q H) : va_at D cl q H1 := by
  obtain ⟨a, e⟩ := q
  cases e with
  | inl x =>
    have h : H[a]? = some (vp_cell x.1 x.2) := h
    show H1[a]? = some (vp_cell x.1 x.2)
    rw [hk a (Array.getElem?_eq_some_iff.mp h).1]
    exact h
  | inr o =>
    obtain ⟨r, hr, cell, hc, h2⟩ := h
    exact ⟨r, hr, cell, by rw [hk a (Array.getElem?_eq_some_iff.mp hc).1]; exact hc, h2⟩
theorem hp_grow {base : Nat} {D : va_G} {am : Lb → Nat} {K : KM} {I : IM} {R : RM} {s : State} {H H1 : Heap} (hk : ∀ a : Nat, a < H.size → H1[a]? = H[a]?) (h : hp base D am K I R s H) : hp base D am K I R s H1 := by
  obtain ⟨tys, Ls, f, h1, h2, h3, h4, h5, h6, h7⟩ := h
  refine ⟨tys, Ls, f, h1, fun k q hq => va_at_grow hk (h2 k q hq), h3, h4, fun L n hL => ?_, h6, h7⟩
  obtain ⟨⟨scr, g1, g2⟩, g3⟩ := h5 L n hL
  exact ⟨⟨scr, by rw [hk _ (Array.getElem?_eq_some_iff.mp g1).1]; exact g1, g2⟩, g3⟩
def thW (e : Nat) : List Cond := vx_atS RX5 (if e = 1 then 53 else if e = 2 then 64 else 87) (pg_ex e) thn
set_option maxRecDepth 100000 in
theorem thW_ok : [1, 2, 3].all (fun e => (thW e).all (fun w => decide (w ∈ lw_tbl) && okw w && vx_ot w) && Bundle.fit (pg_ex e)) = true := by decide +kernel
theorem thn_ok : thn.all Bundle.fit = true := by decide +kernel
theorem hh_of (y : Nat) : pg_hh y = (pg_hx y).map (fun h => (h.1, h.2.1, h.2.2.2.2.1, h.2.2.2.2.2.1)) ∧ ∀ h ∈ pg_hx y, isw h.2.2.2.2.2.2 (.classLink (pg_own y) h.2.2.2.2.2.1 (pg_ex h.2.2.2.1)) = true ∧ pg_pc y h.2.2.1 = h.2.2.2.2.1 ∧ h.2.2.2.2.2.1 ≠ 0 ∧ (h.2.2.2.1 = 1 ∨ h.2.2.2.1 = 2 ∨ h.2.2.2.1 = 3) := by
  by_cases hy : y < 103
  · have h := List.all_eq_true.mp chkH_all y (List.mem_range.mpr hy)
    unfold chkH at h
    simp only [Bool.and_eq_true, Bool.or_eq_true, decide_eq_true_eq, List.all_eq_true] at h
    refine ⟨h.1, fun q hq => ?_⟩
    obtain ⟨⟨⟨a, b⟩, c⟩, d⟩ := h.2 q hq
    exact ⟨a, b, c, by rcases d with (d | d) | d <;> simp [d]⟩
  · have e1 : pg_ms[y]? = none := List.getElem?_eq_none (Nat.le_of_not_lt hy)
    have e2 : pg_hs[y]? = none := List.getElem?_eq_none (Nat.le_of_not_lt hy)
    have e3 : pg_hx y = [] := by simp [pg_hx, e2]
    refine ⟨by simp [pg_hh, e1, e3, pg_m0], fun h hh => by rw [e3] at hh; cases hh⟩
def PcF (base : Nat) (D : va_G) (am : Lb → Nat) (K : KM) (I : IM) (R : RM) (as : List PV) : Array Value → State → Prop := fun av U => sfp base U U.heap ∧ hp base D am K I R U U.heap ∧ ∃ as' : List Value, av = as'.toArray ∧ sr am K as as'
theorem blindF {base : Nat} {D : va_G} {am : Lb → Nat} {K : KM} {I : IM} {R : RM} {as : List PV} : FrameBlind (PcF base D am K I R as) := by
  intro a U g mk h
  obtain ⟨h1, h2, h3⟩ := h
  exact ⟨sfp_warm (s := U) (U := U.calling g mk a) (State.WarmedH.refl U) (Nat.le_refl _) (fun _ _ _ => rfl) h1, hp_moved (s := U) (U := U.calling g mk a) (State.WarmedH.refl U).alike h2, h3⟩
theorem chkC_at {a : Nat} (h : chkC a = true) : isw (pg_qs.getD a pg_q0).2.2.2.1 (pg_cw a) = true ∧ isw (pg_qs.getD a pg_q0).2.2.2.2.1 (if pg_sta a then .static (pg_nm a) else .instanceMethod (pg_nm a)) = true ∧ isw (pg_qs.getD a pg_q0).2.2.2.2.2.1 (.initialized (pg_own a)) = true ∧ ((pg_nm a).cls ≠ "java/lang/invoke/MethodHandle" ∧ (pg_nm a).cls ≠ "java/lang/invoke/VarHandle") ∧ (parseMethodDescriptor (pg_nm a).desc).map (fun d => d.parameters.length) = some (if pg_sta a then pg_na a else pg_na a - 1) ∧ plainName (pg_nm a).cls = true ∧ pg_pc a 0 = 0 ∧ pg_na a ≤ pg_ml a ∧ pg_ml a ≤ 40 ∧ pg_own a ≠ "java/lang/Math" ∧ (pg_sta a = true ∨ 1 ≤ pg_na a) := by
  unfold chkC at h
  simp only [Bool.and_eq_true, Bool.or_eq_true, decide_eq_true_eq] at h
  obtain ⟨⟨⟨⟨⟨⟨⟨⟨⟨⟨⟨⟨h1, h2⟩, h3⟩, h4⟩, h5⟩, h6⟩, h7⟩, h8⟩, h9⟩, h10⟩, -⟩, h12⟩, h13⟩ := h
  exact ⟨h1, h2, h3, ⟨h4, h5⟩, h6, h7, h8, h9, h10, h12, h13⟩
set_option maxHeartbeats 1000000 in
/-- what the pure machine does at a method's entry is a contract of the method -/
theorem snd_met {l : Launch} {base : Nat} {D : va_G} {a d' : Nat} {K : KM} {I : IM} {R : RM} {as : List PV} {P : QT} (HX : Snd l base D d' (pg_cst a) a 0 (entls a as) [] K I R P) (hck : chkC a = true) (hna : as.length = pg_na a) (hc1 : ∀ v ∈ as, isC1 v) (am : Lb → Nat) :
    vx_Met l (pg_nm a) [pg_cw a] { frames := d', cells := pg_cst a, slots := pg_cst a, locals := 80 * d' } (PcF base D am K I R as) (QcF base D am K P) (XcF base D am K P) (pg_cst a) (pg_cst a) (ab base) := by
  obtain ⟨k1, k2, k3, k4, k5, k6, k7, k8, k9, k10, k11⟩ := chkC_at hck
  have hgo : ∀ (p : Program) (e : Env) (s : State) (m : MethodId) (args : Array Value) (below : List Frame) (meth : Method) (c : Code) (s₁ : State), BodyLoose p l (pg_nm a) (headSpec [pg_cw a] { frames := d', cells := pg_cst a, slots := pg_cst a, locals := 80 * d' }) (pg_by a) (pg_ml a) (pg_rt a) e s m args below meth c s₁ → c.maxLocals = pg_ml a → c.exceptionTable.toList = tableOf (pg_hh a) → PcF base D am K I R as args s →
      W p l e (headSpec [pg_cw a] { frames := d', cells := pg_cst a, slots := pg_cst a, locals := 80 * d' }).room s m args below meth c s.heap [] 0 0 (vx_MQ below (QcF base D am K P) (XcF base D am K P) args s (pg_cst a) (pg_cst a) (ab base)) (entryFrame m args (pg_ml a)) := by
    intro p e s m args below meth c s₁ B hml htab hP
    obtain ⟨hsf, hh, as', rfl, hsr⟩ := hP
    rw [lg_entry_eq]
    have hcx : Cx p s m meth c a := ⟨B.exec, B.bytes, B.returns, hml, findClass_of_methodNamed B.named, B.notSynchronized, (name_of_methodNamed B.named B.method).1, htab⟩
    have := HX p e { frames := d', cells := pg_cst a, slots := pg_cst a, locals := 80 * d' } s m as'.toArray below meth c s.heap [] 0 0 _ [] am am K hcx hsf k10 (Nat.le_refl _) (Nat.le_refl _) (Nat.le_of_eq (Nat.zero_add _)) (Nat.le_of_eq (Nat.zero_add _)) hh va_S.rf (lr_entry hsr hc1 (by rw [hna]; exact k8)) trivial ext_rfl
    rw [k7] at this
    exact this
  by_cases hhe : pg_hh a = []
  · refine vx_ofW (cc := pg_by a) (maxL := pg_ml a) (ret := pg_rt a) (ws' := []) k6 (by unfold pg_cw; rw [if_pos hhe]) (fun p e s m args below meth c s₁ B hml hno hP => hgo p e s m args below meth c s₁ B hml ?_ hP)
    rw [hhe]
    cases hq : c.exceptionTable.toList with
    | nil => rfl
    | cons x r => exact (hno x (by rw [hq]; exact List.mem_cons_self)).elim
  · refine vx_ofWH (cc := pg_by a) (maxL := pg_ml a) (ret := pg_rt a) (hh := pg_hh a) (ws' := []) k6 (by unfold pg_cw; rw [if_neg hhe]) (fun p e s m args below meth c s₁ B hml hP => hgo p e s m args below meth c s₁ B hml ?_ hP)
    refine vx_table (x := pg_nm a) (bytes := pg_by a) (maxL' := pg_ml a) (ret' := pg_rt a) B ?_
    have := atoms_spec (ws := [pg_cw a]) B.pre (pg_cw a) List.mem_cons_self
    unfold pg_cw at this
    rw [if_neg hhe] at this
    exact this
section ZC
variable {p : Program} {l : Launch} {e : Env} {R : Room} {s : State} {m : MethodId} {args : Array Value} {below : List Frame} {meth : Method} {c : Code} {H : Heap} {locs : List Loc} {cells slots : Nat} {Q : State → Prop}
/-- behind a call that returns or throws -/
theorem z_call {pc : Nat} {ls : Array Slot} {rest st0 : List Value} {base mc ms : Nat} {Qa : State → Outcome → State → Prop} {XC : String → State → State → Prop} (hr : vx_Run p l e R s m args below meth c H locs cells slots mc ms (F0 m pc ls st0) rest Qa XC (ab base)) (hS : va_S (ab base) s.heap H locs)
    (hQF : ∀ st o t, Qa st o t → va_F (ab base) st t) (hXF : ∀ E st t, XC E st t → va_F (ab base) st t)
    (kx : ∀ (E : String) (ce : Cell) (q9 : Addr) (st t : State) (H1 : Heap) (locs1 : List Loc), st.heap = H → t.heap = H1 → s.vm.Alike t.vm → XC E st t → va_S (ab base) s.heap H1 locs1 → H1[q9]? = some ce → ce.vm = .none → s.vm.findClass E = some ce.cls → vx_W p l e R s m args below meth c H1 locs1 (cells + mc) (slots + ms) Q (F0 m pc ls rest) q9)
    (kk : ∀ (v : Option Value) (st t : State) (H1 : Heap) (locs1 : List Loc), st.heap = H → t.heap = H1 → s.vm.Alike t.vm → Qa st (.returned v) t → va_S (ab base) s.heap H1 locs1 → W p l e R s m args below meth c H1 locs1 (cells + mc) (slots + ms) Q (F0 m (pc + 3) ls (v.toList ++ rest))) : W p l e R s m args below meth c H locs cells slots Q (F0 m pc ls st0) := by
  intro T hT X
  rcases hr T hT X with ⟨v, st₀, t, T', L, h0, X', hL, e1, e2, hq, st⟩ | ⟨q, st₀, t, T', L, E, ce, h0, X', hL, e1, e2, hx, hce, hcv, hcl, st⟩
  · obtain ⟨k1, k2, k3⟩ := vx_keep h0 e1 hS (fun _ _ z => z) (fun _ z => z) hL (hQF _ _ _ hq)
    obtain ⟨t2, a1, b1⟩ := kk v st₀ t T'.heap (locs ++ L) h0 e1.symm (by rw [← e2]; exact X'.warmed.alike) hq k3 T' rfl X'
    exact ⟨t2, st t2 a1, b1⟩
  · obtain ⟨k1, k2, k3⟩ := vx_keep h0 e1 hS (fun _ _ z => z) (fun _ z => z) hL (hXF _ _ _ hx)
    obtain ⟨t2, a1, b1⟩ := kx E ce q st₀ t T'.heap (locs ++ L) h0 e1.symm (by rw [← e2]; exact X'.warmed.alike) hx k3 (by rw [e1]; exact hce) hcv hcl T' rfl X'
    exact ⟨t2, st.trans a1, b1⟩
end ZC
def mkE (h : Nat × Nat × Nat × Nat × Nat × Nat × Nat) : ExceptionTableEntry := ⟨h.1, h.2.1, h.2.2.2.2.1, h.2.2.2.2.2.1⟩
theorem pg_ex_ne {e f : Nat} (he : 1 ≤ e ∧ e ≤ 3) (hf : f = 1 ∨ f = 2 ∨ f = 3) (h : f ≠ e) : pg_ex e ≠ pg_ex f := by
  have : e = 1 ∨ e = 2 ∨ e = 3 := by omega
  rcases this with rfl | rfl | rfl <;> rcases hf with rfl | rfl | rfl <;> first | exact absurd rfl h | decide
set_option maxHeartbeats 1000000 in
/-- behind a call: what the pure machine says of it carries over -/
theorem z_aft {l : Launch} {base : Nat} {D : va_G} {d b' y i a : Nat} {ls : List (Option PV)} {rest : List PV} {Q P : QT} {K : KM}
    (h2 : ∀ r K' I' R', P r K' I' R' → aft (Snd l base D) d b' y i ls rest Q r K' I' R')
    {p : Program} {e : Env} {rm : Room} {s : State} {m : MethodId} {args : Array Value} {below : List Frame} {meth : Method} {cc : Code} {H : Heap} {locs : List Loc} {cells slots : Nat} {lsA : Array Slot} {restA st0 : List Value} {am am0 : Lb → Nat} {K0 : KM} {av : Array Value}
    (hcx : Cx p s m meth cc y) (hsf : sfp base s s.heap) (hma : pg_own y ≠ "java/lang/Math") (hdf : d ≤ rm.frames) (hdl : 80 * d ≤ rm.locals) (hcb : cells + pg_cst a + b' ≤ rm.cells) (hsb : slots + pg_cst a + b' ≤ rm.slots)
    (hS : va_S (ab base) s.heap H locs) (hl : lr am K ls lsA (pg_ml y)) (hs : sr am K rest restA) (he : ext am0 K0 am K) (hn : pg_pc y (i + 1) = pg_pc y i + 3)
    (hr : vx_Run p l e rm s m args below meth cc H locs cells slots (pg_cst a) (pg_cst a) (F0 m (pg_pc y i) lsA st0) restA (QcF base D am K P av) (XcF base D am K P) (ab base)) :
    W p l e rm s m args below meth cc H locs cells slots (vx_MQ below (QcF base D am0 K0 Q) (XcF base D am0 K0 Q) args s rm.cells rm.slots (ab base)) (F0 m (pg_pc y i) lsA st0) := by
  refine z_call hr hS (fun st o t hq => ?_) (fun E st t hx => ?_) (fun E ce q9 st t H1 locs1 hst ht hvm hx hS1 hce hcv hcl => ?_) (fun v st t H1 locs1 hst ht hvm hq hS1 => ?_)
  · obtain ⟨r, K', I', R', am', -, -, -, -, hF⟩ := hq
    exact hF
  · obtain ⟨r, K', I', R', am', -, -, -, -, hF⟩ := hx
    exact hF
  · obtain ⟨e9, K', I', R', am', hP, ⟨rfl, he9⟩, hh1, hx1, hF⟩ := hx
    have hh2 : hp base D am' K' I' R' s H1 := by rw [← ht]; exact hp_moved hvm.symm hh1
    have h3 := h2 _ _ _ _ hP
    unfold aft at h3
    dsimp only at h3
    split at h3
    · rename_i h hf
      unfold hfind at hf
      split at hf
      · rename_i x hfx
        cases hf
        obtain ⟨hpx, as1, bs1, hsp, hpre⟩ := List.find?_eq_some_iff_append.mp hfx
        simp only [Bool.and_eq_true, decide_eq_true_eq] at hpx
        obtain ⟨⟨c1, c2⟩, c3⟩ := hpx
        obtain ⟨hmap, hall⟩ := hh_of y
        obtain ⟨w1, w2, w3, w4⟩ := hall x (by rw [hsp]; exact List.mem_append_right _ List.mem_cons_self)
        have htb : cc.exceptionTable.toList = tableOf (pg_hh y) := hcx.2.2.2.2.2.2.2
        have hown := hcx.2.2.2.2.1
        have htb2 : cc.exceptionTable.toList = as1.map mkE ++ mkE x :: bs1.map mkE := by
          rw [htb, hmap, hsp, tableOf, List.map_map, List.map_append, List.map_cons]
          rfl
        refine vx_catch (name := pg_ex x.2.2.2.1) hown (as1.map mkE) (mkE x) (bs1.map mkE) htb2 (fun z hz => ?_) ?_ w3 (sfp_word hsf w1) ?_ hce hcv hcl ?_
        · obtain ⟨z2, hz2, rfl⟩ := List.mem_map.mp hz
          obtain ⟨v1, v2, v3, v4⟩ := hall z2 (by rw [hsp]; exact List.mem_append_left _ hz2)
          have hn2 := hpre z2 hz2
          by_cases hcov : z2.1 ≤ pg_pc y i ∧ pg_pc y i < z2.2.1
          · refine Or.inr ⟨v3, pg_ex z2.2.2.2.1, sfp_word hsf v1, ?_⟩
            refine hsf.2.2.2.1 _ _ (pg_ex_ne he9 v4 (fun q => ?_))
            simp [hcov.1, hcov.2, q] at hn2
          · refine Or.inl ?_
            show (decide (z2.1 ≤ pg_pc y i) && decide (pg_pc y i < z2.2.1)) = false
            by_cases q1 : z2.1 ≤ pg_pc y i
            · rw [decide_eq_false (fun q2 => hcov ⟨q1, q2⟩), Bool.and_false]
            · rw [decide_eq_false q1, Bool.false_and]
        · show (decide (x.1 ≤ pg_pc y i) && decide (pg_pc y i < x.2.1)) = true
          rw [decide_eq_true c1, decide_eq_true c2]; rfl
        · have hE : pg_ex x.2.2.2.1 = pg_ex e9 := by rw [c3]
          rw [hE]
          have hcw : ∀ f : Nat, f = 1 ∨ f = 2 ∨ f = 3 → Cond.castable (pg_ex f) (pg_ex f) ∈ lw_tbl := by
            intro f hf
            rcases hf with rfl | rfl | rfl
            · exact z_castw.1
            · exact z_castw.2.1
            · exact z_castw.2.2
          have hm := hcw e9 (by omega)
          exact okw_use (by rfl) (hsf.1 _ hm (by rfl))
        · show W p l e rm s m args below meth cc H1 locs1 (cells + pg_cst a) (slots + pg_cst a) _ (F0 m x.2.2.2.2.1 lsA [.ref q9])
          rw [← w2]
          exact h3 p e rm s m args below meth cc H1 locs1 _ _ lsA _ am' am0 K0 hcx hsf hma hdf hdl hcb hsb hh2 hS1 (lr_ext hx1 hl) ⟨⟨q9, rfl⟩, trivial⟩ (ext_tr he hx1)
      · cases hf
    · obtain ⟨hx0, hQ⟩ := h3
      have htb : cc.exceptionTable.toList = tableOf (pg_hh y) := hcx.2.2.2.2.2.2.2
      rw [(hh_of y).1, hx0] at htb
      refine vx_out (fun x hx => by rw [htb] at hx; cases hx) hcx.2.2.2.2.2.1 hce hcv hcl (fun t2 ht2 hvm2 => ⟨e9, K', I', R', am', hQ, ⟨rfl, he9⟩, by rw [ht2]; exact hp_moved hvm2 hh2, ext_tr he hx1, by rw [ht2]; exact hS1.1, fun q q1 q2 => by rw [ht2]; exact hS1.2.1 q q1 q2⟩) hS1.2.2 (by omega) (by omega)
  · obtain ⟨r, K', I', R', am', hP, ho, hh1, hx1, hF⟩ := hq
    have hh2 : hp base D am' K' I' R' s H1 := by rw [← ht]; exact hp_moved hvm.symm hh1
    have h3 := h2 _ _ _ _ hP
    rw [← hn]
    cases r with
    | none =>
      have ho : Outcome.returned v = .returned none := ho
      cases ho
      exact (show Snd l base D d b' y (i + 1) ls rest K' I' R' Q from h3) p e rm s m args below meth cc H1 locs1 _ _ lsA _ am' am0 K0 hcx hsf hma hdf hdl hcb hsb hh2 hS1 (lr_ext hx1 hl) (sr_ext hx1 hs) (ext_tr he hx1)
    | some w =>
      obtain ⟨v', ho, hv⟩ := ho
      cases ho
      exact (show Snd l base D d b' y (i + 1) ls (w :: rest) K' I' R' Q from h3) p e rm s m args below meth cc H1 locs1 _ _ lsA _ am' am0 K0 hcx hsf hma hdf hdl hcb hsb hh2 hS1 (lr_ext hx1 hl) ⟨hv, sr_ext hx1 hs⟩ (ext_tr he hx1)

theorem sr_cat1 {am : Lb → Nat} {K : KM} : ∀ {st : List PV} {st' : List Value}, sr am K st st' → (∀ v ∈ st, isC1 v) → (st'.map fun v => v.category).sum = st.length
  | [], [], _, _ => rfl
  | v :: r, v' :: r', hs, hc => by
    have h1 := vr_c1 hs.1 (hc v List.mem_cons_self)
    have h2 := sr_cat1 hs.2 (fun w hw => hc w (List.mem_cons_of_mem _ hw))
    simp only [List.map_cons, List.sum_cons, List.length_cons]
    omega
  | [], _ :: _, hs, _ => hs.elim
  | _ :: _, [], hs, _ => hs.elim

set_option maxHeartbeats 1000000 in
theorem sd_40 {l : Launch} {base : Nat} {D : va_G} {d b y i : Nat} {ls : List (Option PV)} {st : List PV} {K : KM} {I : IM} {R : RM} {Q : QT} {a c : Nat} {z : Int} (HC : chkB y i 40 a c z (pg_wd y i) = true) (h9 : stC (Snd l base D) 40 a c z d b y i ls st K I R Q) : Snd l base D d b y i ls st K I R Q := by
  intro p e rm s m args below meth cc H locs cells slots lsA stA am am0 K0 hcx hsf hma hdf hdl hcb hsb hh hS hl hs he
  obtain ⟨hx, hb, hr, hml, hown, hlk, hnm, htb⟩ := id hcx
  obtain ⟨as, rest, d', b', P, rfl, hna, hc1, hrl, rfl, rfl, h1, h2⟩ := (show ∃ as rest d' b' P, st = as.reverse ++ rest ∧ as.length = pg_na a ∧ (∀ v ∈ as, isC1 v) ∧ (rest.length ≤ 4 ∨ rest.length ≤ 8 ∧ ∀ v ∈ rest, isC1 v) ∧ d = d' + 1 ∧ b = b' + pg_cst a ∧ Snd l base D d' (pg_cst a) a 0 (entls a as) [] K I R P ∧ ∀ r K' I' R', P r K' I' R' → aft (Snd l base D) (d' + 1) b' y i ls rest Q r K' I' R' from by
    obtain ⟨as, rest, d', b', P, e1, e2, e2c, e3, e4, e5, e6, e7⟩ := h9
    exact ⟨as, rest, d', b', P, e1, e2, e2c, e3, e4, e5, e6, by rw [← e4]; exact e7⟩)
  have HC : (dc y i (.invokestatic z.toNat) 3 && chkC a && pg_sta a && isw ((pg_wd y i).getD 0 0) (.methodLink (pg_own y) z.toNat (pg_nm a))) = true := HC
  simp only [Bool.and_eq_true] at HC
  obtain ⟨⟨⟨h0, hck⟩, hst⟩, hw⟩ := HC
  obtain ⟨hd, hn⟩ := dc_at h0
  obtain ⟨k1, k2, k3, k4, k5, k6, k7, k8, k9, k10, k11⟩ := chkC_at hck
  rw [hst, if_pos rfl] at k2 k5
  obtain ⟨asA, restA, rfl, hsa, hsr⟩ := sr_un hs
  have hlen2 := sr_len hsa
  have hcat : 2 * (F0 m (pg_pc y i) lsA ([] : List Value)).monitorRoom + (restA.map fun v => v.category).sum ≤ 8 := by
    show 2 * 0 + _ ≤ 8
    rcases hrl with hrl | ⟨hrl, hr1⟩
    · have := sr_cat hsr
      omega
    · have := sr_cat1 hsr hr1
      omega
  have hlz := hl.2.choose_spec.1.1
  have hcwd : (pg_cw a).before args s = true := sfp_word hsf k1
  have hcwU : ∀ w ∈ [pg_cw a], ∀ (a' : Array Value) (U : State), s.WarmedH U.vm → w.before a' U = true := fun w hw a' U hW => by
    rw [List.mem_singleton] at hw
    subst hw
    have ho : okw (pg_cw a) = true := by
      unfold isw at k1
      rw [Bool.and_eq_true] at k1
      exact k1.2
    exact okw_use ho (okw_warm ho hW (okw_use ho hcwd))
  have hsig : ∀ sig, parseMethodDescriptor (pg_nm a).desc = some sig → as.length = sig.parameters.length := fun sig hsg => by
    rw [hsg, Option.map_some] at k5
    have := Option.some.inj k5
    rw [this]
    exact hna
  have hlo0 : 8 + (pg_ml a + 11) + 80 * d' ≤ rm.locals := by omega
  have hfix : CallFix p m cc (pg_by y) (pg_ml y) s args [] (pg_own y) := ⟨hx, hb, hml, hown, fun w hw => nomatch hw⟩
  have hpre : PreS s H (PcF base D am K I R as) asA := ⟨blindF, fun U hU hW => ⟨sfp_warm hW (by rw [hU]; exact hS.1) (fun q q1 q2 => by rw [hU]; exact hS.2.1 q q1 q2) hsf, by rw [hU]; exact hp_moved hW.alike hh, asA, rfl, hsa⟩⟩
  refine z_aft (a := a) (d := d' + 1) h2 hcx hsf hma hdf hdl (by omega) (by omega) hS hl hsr he hn (av := asA.toArray) (st0 := asA.reverse ++ restA) ?_
  by_cases hhe : pg_hh a = []
  · have ecw : pg_cw a = .code (pg_nm a) (pg_by a) (pg_ml a) (pg_rt a) := by unfold pg_cw; rw [if_pos hhe]
    exact vx_runS (n := as.length) hfix (snd_met h1 hck hna hc1 am) ⟨⟨rfl, rfl, hdf, hlo0, hcwU, by rw [ecw]; exact List.mem_cons_self, by rw [← ecw]; exact hcwd, sfp_word hsf k3, k4, hsig, sfp_word hsf hw⟩, sfp_word hsf k2⟩ hpre rfl hlen2 hlz rfl hcat hd ⟨by omega, by omega⟩
  · have ecw : pg_cw a = .codeWith (pg_nm a) (pg_by a) (pg_ml a) (pg_rt a) (pg_hh a) := by unfold pg_cw; rw [if_neg hhe]
    exact vx_runSX (n := as.length) hfix (snd_met h1 hck hna hc1 am) ⟨⟨rfl, rfl, hdf, hlo0, hcwU, by rw [ecw]; exact List.mem_cons_self⟩, by rw [← ecw]; exact hcwd, sfp_word hsf k3, k4, hsig, sfp_word hsf hw, sfp_word hsf k2⟩ hpre rfl hlen2 hlz rfl hcat hd ⟨by omega, by omega⟩

set_option maxHeartbeats 1000000 in
theorem sd_41 {l : Launch} {base : Nat} {D : va_G} {d b y i : Nat} {ls : List (Option PV)} {st : List PV} {K : KM} {I : IM} {R : RM} {Q : QT} {a c : Nat} {z : Int} (HC : chkB y i 41 a c z (pg_wd y i) = true) (h9 : stC (Snd l base D) 41 a c z d b y i ls st K I R Q) : Snd l base D d b y i ls st K I R Q := by
  intro p e rm s m args below meth cc H locs cells slots lsA stA am am0 K0 hcx hsf hma hdf hdl hcb hsb hh hS hl hs he
  obtain ⟨hx, hb, hr, hml, hown, hlk, hnm, htb⟩ := id hcx
  obtain ⟨L, as, rest, d', b', n, P, rfl, hna, hc1, hrl, hK, rfl, rfl, h1, h2⟩ := (show ∃ L as rest d' b' n P, st = as.reverse ++ pR (some L) :: rest ∧ as.length + 1 = pg_na a ∧ (∀ v ∈ as, isC1 v) ∧ rest.length ≤ 4 ∧ K L = some (pg_cl a, n) ∧ d = d' + 1 ∧ b = b' + pg_cst a ∧ Snd l base D d' (pg_cst a) a 0 (entls a (pR (some L) :: as)) [] K I R P ∧ ∀ r K' I' R', P r K' I' R' → aft (Snd l base D) (d' + 1) b' y i ls rest Q r K' I' R' from by
    obtain ⟨L, as, rest, d', b', n, P, e1, e2, e2c, e3, e4, e5, e6, e7, e8⟩ := h9
    exact ⟨L, as, rest, d', b', n, P, e1, e2, e2c, e3, e4, e5, e6, e7, by rw [← e5]; exact e8⟩)
  have HC : (dc y i (.invokevirtual z.toNat) 3 && chkC a && !(pg_sta a) && decide (pg_hh a = []) && decide (pg_cl a < 6) && decide (pg_own a = clC (pg_cl a)) && isw ((pg_wd y i).getD 0 0) (.methodLink (pg_own y) z.toNat (pg_nm a)) && isw (pg_qs.getD a pg_q0).2.2.2.2.2.2 (.selects (pg_own a) (pg_nm a) (pg_nm a))) = true := HC
  simp only [Bool.and_eq_true, decide_eq_true_eq, Bool.not_eq_true'] at HC
  obtain ⟨⟨⟨⟨⟨⟨⟨h0, hck⟩, hst⟩, hhe⟩, hcl7⟩, hoc⟩, hw⟩, hsel⟩ := HC
  obtain ⟨hd, hn⟩ := dc_at h0
  obtain ⟨k1, k2, k3, k4, k5, k6, k7, k8, k9, k10, k11⟩ := chkC_at hck
  rw [hst, if_neg (by exact Bool.false_ne_true)] at k2 k5
  obtain ⟨asA, c2, rfl, hsa, hs2⟩ := sr_un hs
  obtain ⟨restA, rfl, hkL, hsr⟩ := sr_r hs2
  have hlen2 := sr_len hsa
  have hcat : 2 * (F0 m (pg_pc y i) lsA ([] : List Value)).monitorRoom + (restA.map fun v => v.category).sum ≤ 8 := by
    have := sr_cat hsr
    show 2 * 0 + _ ≤ 8
    omega
  have hlz := hl.2.choose_spec.1.1
  have hcwd : (pg_cw a).before args s = true := sfp_word hsf k1
  have hcwU : ∀ w ∈ [pg_cw a], ∀ (a' : Array Value) (U : State), s.WarmedH U.vm → w.before a' U = true := fun w hw a' U hW => by
    rw [List.mem_singleton] at hw
    subst hw
    have ho : okw (pg_cw a) = true := by
      unfold isw at k1
      rw [Bool.and_eq_true] at k1
      exact k1.2
    exact okw_use ho (okw_warm ho hW (okw_use ho hcwd))
  have hsig : ∀ sig, parseMethodDescriptor (pg_nm a).desc = some sig → as.length = sig.parameters.length := fun sig hsg => by
    rw [hsg, Option.map_some] at k5
    have := Option.some.inj k5
    rw [this]
    omega
  have hlo0 : 8 + (pg_ml a + 11) + 80 * d' ≤ rm.locals := by omega
  have hfix : CallFix p m cc (pg_by y) (pg_ml y) s args [] (pg_own y) := ⟨hx, hb, hml, hown, fun w hw => nomatch hw⟩
  have hsa2 : sr am K (pR (some L) :: as) (.ref (am L) :: asA) := ⟨⟨rfl, hkL⟩, hsa⟩
  have hc2 : ∀ v ∈ (pR (some L) :: as), isC1 v := fun v hv => by
    rcases List.mem_cons.mp hv with rfl | hv
    · trivial
    · exact hc1 v hv
  have hpre : ∀ U : State, U.heap = H → s.WarmedH U.vm → PcF base D am K I R (pR (some L) :: as) (Value.ref (am L) :: asA).toArray U := fun U hU hW => ⟨sfp_warm hW (by rw [hU]; exact hS.1) (fun q q1 q2 => by rw [hU]; exact hS.2.1 q q1 q2) hsf, by rw [hU]; exact hp_moved hW.alike hh, _, rfl, hsa2⟩
  have ecw : pg_cw a = .code (pg_nm a) (pg_by a) (pg_ml a) (pg_rt a) := by unfold pg_cw; rw [if_pos hhe]
  obtain ⟨tys, Ls, f, hhq⟩ := id hh
  obtain ⟨q0, fs, hq0, -, -, -⟩ := hq_obj hhq hK hcl7
  have hrecv := va_recv hhq.1 hhq.2.1 (vw_at _ hcl7) hq0
  refine z_aft (a := a) (d := d' + 1) h2 hcx hsf hma hdf hdl (by omega) (by omega) hS hl hsr he hn (av := (Value.ref (am L) :: asA).toArray) (st0 := asA.reverse ++ .ref (am L) :: restA) ?_
  exact vx_runV (n := as.length) (C := pg_own a) hfix (snd_met h1 hck (by rw [List.length_cons]; exact hna) hc2 am) ⟨⟨rfl, rfl, hdf, hlo0, hcwU, by rw [ecw]; exact List.mem_cons_self, by rw [← ecw]; exact hcwd, sfp_word hsf k3, k4, hsig, sfp_word hsf hw⟩, sfp_word hsf k2, sfp_word hsf hsel⟩ ⟨blindF, by rw [hoc]; exact hrecv, hpre⟩ rfl hlen2 hlz rfl hcat hd ⟨by omega, by omega⟩

/-- a contract without throws -/
theorem met_of_vx {l : Launch} {y : MethodName} {ws : List Cond} {rm : Room} {Pc : Array Value → State → Prop} {Qc : Array Value → State → Outcome → State → Prop} {XC : String → State → State → Prop} {mc ms : Nat} {free : Addr → Prop} (h : vx_Met l y ws rm Pc Qc XC mc ms free) (hno : ∀ E st t, ¬ XC E st t) : Met l y ws rm Pc Qc mc ms free := by
  intro p e a1 a2 a3 s m args below a4 a5 a6 a7
  obtain ⟨n, o, b1, b2, b3, b4⟩ := h p e a1 a2 a3 s m args below a4 a5 a6 a7
  refine ⟨n, o, b1, b2, b3, ?_⟩
  rcases b4 with b4 | ⟨q, rfl, E, ce, L, hx, -⟩
  · exact b4
  · exact (hno _ _ _ hx).elim
theorem run_of_va {p : Program} {l : Launch} {e : Env} {R : Room} {s : State} {m : MethodId} {args : Array Value} {below : List Frame} {meth : Method} {c : Code} {H : Heap} {locs : List Loc} {cells slots mc ms : Nat} {g : JFrame} {rest : List Value} {Qa : State → Outcome → State → Prop} {XC : String → State → State → Prop} {free : Addr → Prop} (h : va_Run p l e R s m args below meth c H locs cells slots mc ms g rest Qa free) : vx_Run p l e R s m args below meth c H locs cells slots mc ms g rest Qa XC free := fun T hT X => Or.inl (h T hT X)

set_option maxHeartbeats 1000000 in
theorem sd_42 {l : Launch} {base : Nat} {D : va_G} {d b y i : Nat} {ls : List (Option PV)} {st : List PV} {K : KM} {I : IM} {R : RM} {Q : QT} {a c : Nat} {z : Int} (HC : chkB y i 42 a c z (pg_wd y i) = true) (h9 : stC (Snd l base D) 42 a c z d b y i ls st K I R Q) : Snd l base D d b y i ls st K I R Q := by
  intro p e rm s m args below meth cc H locs cells slots lsA stA am am0 K0 hcx hsf hma hdf hdl hcb hsb hh hS hl hs he
  obtain ⟨hx, hb, hr, hml, hown, hlk, hnm, htb⟩ := id hcx
  obtain ⟨L, as, rest, d', b', n, P, rfl, hna, hc1, hrl, hK, rfl, rfl, h1, h2⟩ := (show ∃ L as rest d' b' n P, st = as.reverse ++ pR (some L) :: rest ∧ as.length + 1 = pg_na a ∧ (∀ v ∈ as, isC1 v) ∧ rest.length ≤ 4 ∧ K L = some (pg_cl a, n) ∧ d = d' + 1 ∧ b = b' + pg_cst a ∧ Snd l base D d' (pg_cst a) a 0 (entls a (pR (some L) :: as)) [] K I R P ∧ ∀ r K' I' R', P r K' I' R' → (∃ v, r = .inl v) ∧ aft (Snd l base D) (d' + 1) b' y i ls rest Q r K' I' R' from by
    obtain ⟨L, as, rest, d', b', n, P, e1, e2, e2c, e3, e4, e5, e6, e7, e8⟩ := h9
    exact ⟨L, as, rest, d', b', n, P, e1, e2, e2c, e3, e4, e5, e6, e7, by rw [← e5]; exact e8⟩)
  have HC : (dc y i (.invokespecial z.toNat) 3 && chkC a && !(pg_sta a) && decide (pg_hh a = []) && decide (pg_cl a < 6) && decide (pg_own a = clC (pg_cl a)) && decide ((pg_nm a).name = "<init>") && decide (pg_rt a = none) && ((decide (c = 0) && isw ((pg_wd y i).getD 0 0) (.methodLink (pg_own y) z.toNat (pg_nm a))) || (decide (c = 1) && isw ((pg_wd y i).getD 0 0) (.methodLinkNest (pg_own y) z.toNat (pg_nm a) "KayfabeRing")))) = true := HC
  simp only [Bool.and_eq_true, Bool.or_eq_true, decide_eq_true_eq, Bool.not_eq_true'] at HC
  obtain ⟨⟨⟨⟨⟨⟨⟨⟨h0, hck⟩, hst⟩, hhe⟩, hcl7⟩, hoc⟩, hin⟩, hrt⟩, hw⟩ := HC
  obtain ⟨hd, hn⟩ := dc_at h0
  obtain ⟨k1, k2, k3, k4, k5, k6, k7, k8, k9, k10, k11⟩ := chkC_at hck
  rw [hst, if_neg (by exact Bool.false_ne_true)] at k2 k5
  obtain ⟨asA, c2, rfl, hsa, hs2⟩ := sr_un hs
  obtain ⟨restA, rfl, hkL, hsr⟩ := sr_r hs2
  have hlen2 := sr_len hsa
  have hcat : 2 * (F0 m (pg_pc y i) lsA ([] : List Value)).monitorRoom + (restA.map fun v => v.category).sum ≤ 8 := by
    have := sr_cat hsr
    show 2 * 0 + _ ≤ 8
    omega
  have hlz := hl.2.choose_spec.1.1
  have hcwd : (pg_cw a).before args s = true := sfp_word hsf k1
  have hcwU : ∀ w ∈ [pg_cw a], ∀ (a' : Array Value) (U : State), s.WarmedH U.vm → w.before a' U = true := fun w hw a' U hW => by
    rw [List.mem_singleton] at hw
    subst hw
    have ho : okw (pg_cw a) = true := by
      unfold isw at k1
      rw [Bool.and_eq_true] at k1
      exact k1.2
    exact okw_use ho (okw_warm ho hW (okw_use ho hcwd))
  have hsig : ∀ sig, parseMethodDescriptor (pg_nm a).desc = some sig → as.length = sig.parameters.length := fun sig hsg => by
    rw [hsg, Option.map_some] at k5
    have := Option.some.inj k5
    rw [this]
    omega
  have hlo0 : 8 + (pg_ml a + 11) + 80 * d' ≤ rm.locals := by omega
  have hfix : CallFix p m cc (pg_by y) (pg_ml y) s args [] (pg_own y) := ⟨hx, hb, hml, hown, fun w hw => nomatch hw⟩
  have hsa2 : sr am K (pR (some L) :: as) (.ref (am L) :: asA) := ⟨⟨rfl, hkL⟩, hsa⟩
  have hc2 : ∀ v ∈ (pR (some L) :: as), isC1 v := fun v hv => by
    rcases List.mem_cons.mp hv with rfl | hv
    · trivial
    · exact hc1 v hv
  have hpre : ∀ U : State, U.heap = H → s.WarmedH U.vm → PcF base D am K I R (pR (some L) :: as) (Value.ref (am L) :: asA).toArray U := fun U hU hW => ⟨sfp_warm hW (by rw [hU]; exact hS.1) (fun q q1 q2 => by rw [hU]; exact hS.2.1 q q1 q2) hsf, by rw [hU]; exact hp_moved hW.alike hh, _, rfl, hsa2⟩
  have ecw : pg_cw a = .code (pg_nm a) (pg_by a) (pg_ml a) (pg_rt a) := by unfold pg_cw; rw [if_pos hhe]
  rw [hrt] at ecw
  have hMet := met_of_vx (snd_met h1 hck (by rw [List.length_cons]; exact hna) hc2 am) (fun E st t hx => by
    obtain ⟨e9, K', I', R', am', hP, -⟩ := hx
    obtain ⟨v, hv⟩ := (h2 _ _ _ _ hP).1
    cases hv)
  refine z_aft (a := a) (d := d' + 1) (fun r K' I' R' hP => (h2 r K' I' R' hP).2) hcx hsf hma hdf hdl (by omega) (by omega) hS hl hsr he hn (av := (Value.ref (am L) :: asA).toArray) (st0 := asA.reverse ++ .ref (am L) :: restA) (run_of_va ?_)
  rcases hw with ⟨-, hw⟩ | ⟨-, hw⟩
  · exact va_runI (n := as.length) hfix hMet ⟨⟨rfl, rfl, hdf, hlo0, hcwU, by rw [ecw]; exact List.mem_cons_self, by rw [← ecw]; exact hcwd, sfp_word hsf k3, k4, hsig, sfp_word hsf hw⟩, hin, sfp_word hsf k2⟩ ⟨blindF, hpre⟩ rfl hlen2 hlz rfl hcat hd ⟨by omega, by omega⟩
  · exact va_runIN (n := as.length) (host := "KayfabeRing") hfix hMet ⟨⟨⟨rfl, rfl, hdf, hlo0, hcwU, by rw [ecw]; exact List.mem_cons_self⟩, by rw [← ecw]; exact hcwd, sfp_word hsf k3, k4, hsig, sfp_word hsf hw⟩, hin, sfp_word hsf k2⟩ ⟨blindF, hpre⟩ rfl hlen2 hlz rfl hcat hd ⟨by omega, by omega⟩

set_option maxHeartbeats 1000000 in
theorem sd_44 {l : Launch} {base : Nat} {D : va_G} {d b y i : Nat} {ls : List (Option PV)} {st : List PV} {K : KM} {I : IM} {R : RM} {Q : QT} {a c : Nat} {z : Int} (hlt : l.stackTraces = false) (HC : chkB y i 44 a c z (pg_wd y i) = true) (h9 : stC (Snd l base D) 44 a c z d b y i ls st K I R Q) : Snd l base D d b y i ls st K I R Q := by
  intro p e rm s m args below meth cc H locs cells slots lsA stA am am0 K0 hcx hsf hma hdf hdl hcb hsb hh hS hl hs he
  obtain ⟨hx, hb, hr, hml, hown, hlk, hnm, htb⟩ := id hcx
  obtain ⟨rfl, hhx, hd6, hb7, hQ⟩ := (show st = [] ∧ pg_hx y = [] ∧ 6 ≤ d ∧ 7 ≤ b ∧ Q (.inr a) K I R from h9)
  generalize pg_wd y i = w at HC
  have HC : (decide (pg_own y = RX5) && (decide (a = 1) || decide (a = 2) || decide (a = 3)) && dc0 y i (.new (w.getD 2 0)) 3 && decide (decode (pg_by y) (pg_pc y i + 3) = .ok (.dup, 1)) && decide ((pg_st.getD c ("", 0, "")).1 = RX5) && decide (c < pg_st.length) &&
      ((decide (w.getD 4 0 = 0) && decide (decode (pg_by y) (pg_pc y i + 4) = .ok (.ldc (pg_st.getD c ("", 0, "")).2.1, 2)) && decide (decode (pg_by y) (pg_pc y i + 6) = .ok (.invokespecial (w.getD 3 0), 3)) && decide (decode (pg_by y) (pg_pc y i + 9) = .ok (.athrow, 1))) ||
       (decide (w.getD 4 0 = 1) && decide (decode (pg_by y) (pg_pc y i + 4) = .ok (.ldc_w (pg_st.getD c ("", 0, "")).2.1, 3)) && decide (decode (pg_by y) (pg_pc y i + 7) = .ok (.invokespecial (w.getD 3 0), 3)) && decide (decode (pg_by y) (pg_pc y i + 10) = .ok (.athrow, 1)))) &&
      isw (w.getD 0 0) (.classLink RX5 (w.getD 2 0) (pg_ex a)) && isw (w.getD 1 0) (.initialized (pg_ex a)) && (decide (a = 1 ∧ w.getD 3 0 = 53) || decide (a = 2 ∧ w.getD 3 0 = 64) || decide (a = 3 ∧ w.getD 3 0 = 87))) = true := HC
  simp only [dc0, Bool.and_eq_true, Bool.or_eq_true, decide_eq_true_eq] at HC
  obtain ⟨⟨⟨⟨⟨⟨⟨⟨⟨ho5, ha⟩, d0⟩, d3⟩, hs5⟩, hcl⟩, hds⟩, hw0⟩, hw1⟩, hic⟩ := HC
  obtain rfl := sr_nil hs
  have hlz := hl.2.choose_spec.1.1
  have ha3 : 1 ≤ a ∧ a ≤ 3 := by omega
  rw [ho5] at hown
  have htb0 : cc.exceptionTable.toList = [] := by rw [htb, (hh_of y).1, hhx]; rfl
  have hic2 : w.getD 3 0 = (if a = 1 then 53 else if a = 2 then 64 else 87) := by
    rcases hic with (⟨rfl, q⟩ | ⟨rfl, q⟩) | ⟨rfl, q⟩ <;> simpa using q
  have hmem : a ∈ [1, 2, 3] := by
    rcases ha with (rfl | rfl) | rfl <;> simp
  have hT := List.all_eq_true.mp thW_ok a hmem
  rw [Bool.and_eq_true] at hT
  have hTw : ∀ w ∈ thW a, w ∈ lw_tbl ∧ okw w = true ∧ vx_ot w = true := fun w9 hw9 => by
    have := List.all_eq_true.mp hT.1 w9 hw9
    simp only [Bool.and_eq_true, decide_eq_true_eq] at this
    exact ⟨this.1.1, this.1.2, this.2⟩
  have eT : thW a = vx_atS RX5 (w.getD 3 0) (pg_ex a) thn := by rw [hic2]; rfl
  rw [eT] at hTw
  have hstm : pg_st.getD c ("", 0, "") ∈ pg_st := by
    rw [List.getD_eq_getElem?_getD, List.getElem?_eq_getElem hcl]
    exact List.getElem_mem hcl
  obtain ⟨sa, hsa⟩ := hsf.2.2.1 _ hstm
  rw [hs5] at hsa
  have hgood : ∀ w9 ∈ Cond.classLink RX5 (w.getD 2 0) (pg_ex a) :: Cond.initialized (pg_ex a) :: vx_atS RX5 (w.getD 3 0) (pg_ex a) thn, vx_ot w9 = true := fun w9 hw9 => by
    rcases List.mem_cons.mp hw9 with rfl | hw9
    · rfl
    · rcases List.mem_cons.mp hw9 with rfl | hw9
      · rfl
      · exact (hTw w9 hw9).2.2
  have hat : ∀ w9 ∈ vx_atS RX5 (w.getD 3 0) (pg_ex a) thn, w9.before args s = true := fun w9 hw9 => okw_use (hTw w9 hw9).2.1 (hsf.1 w9 (hTw w9 hw9).1 (hTw w9 hw9).2.1)
  have hXC : ∀ t : State, s.vm.Alike t.vm → H.size ≤ t.heap.size → (∀ q : Nat, q < H.size → t.heap[q]? = H[q]?) → XcF base D am0 K0 Q (pg_ex a) s t := fun t hvm hz hk => ⟨a, K, I, R, am, hQ, ⟨rfl, ha3⟩, hp_grow hk (hp_moved hvm hh), he, Nat.le_trans hS.1 hz, fun q q1 q2 => by rw [hk q (Nat.lt_of_lt_of_le q1 hS.1)]; exact hS.2.1 q q1 q2⟩
  have hnm2 : ∀ n ∈ thn, Bundle.fit n = true := fun n hn => List.all_eq_true.mp thn_ok n hn
  rcases hds with ⟨⟨⟨-, d4⟩, d6⟩, d9⟩ | ⟨⟨⟨-, d4⟩, d6⟩, d9⟩
  · exact vx_throwS hx hb hlt hown hT.2 hnm2 (sfp_word hsf hw0) (sfp_word hsf hw1) hsa hat hgood hsf.2.2.2.2.1 hsf.2.2.2.2.2.1 hS (by rw [hlz, hml]) d0 d3 d4 d6 d9 (fun x hx => by rw [htb0] at hx; cases hx) (by show 2 + 3 < _; omega) (by show 0 + (13 * (2 + 1) + 43) ≤ _; omega) (by omega) (by omega) hlk hXC hS.2.2 (by omega) (by omega)
  · exact vx_throwSW hx hb hlt hown hT.2 hnm2 (sfp_word hsf hw0) (sfp_word hsf hw1) hsa hat hgood hsf.2.2.2.2.1 hsf.2.2.2.2.2.1 hS (by rw [hlz, hml]) d0 d3 d4 d6 d9 (fun x hx => by rw [htb0] at hx; cases hx) (by show 2 + 3 < _; omega) (by show 0 + (13 * (2 + 1) + 43) ≤ _; omega) (by omega) (by omega) hlk hXC hS.2.2 (by omega) (by omega)

