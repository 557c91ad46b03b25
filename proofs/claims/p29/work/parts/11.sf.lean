/-! what holds of every start below the law: words, strings, the statics of Throwable -/
theorem okw_cases {w : Cond} (h : okw w = true) : goodWord w = true ∨ (∃ a b, w = .castable a b) ∨ (∃ x, w = .declares x) ∨ (∃ a i x q, w = .methodLinkNest a i x q) ∨ ∃ a i b n d q, w = .fieldLinkNest a i b n d q := by
  unfold okw at h
  rw [Bool.or_eq_true] at h
  rcases h with h | h
  · exact Or.inl h
  · split at h
    · exact Or.inr (Or.inl ⟨_, _, rfl⟩)
    · exact Or.inr (Or.inr (Or.inl ⟨_, rfl⟩))
    · exact Or.inr (Or.inr (Or.inr (Or.inl ⟨_, _, _, _, rfl⟩)))
    · exact Or.inr (Or.inr (Or.inr (Or.inr ⟨_, _, _, _, _, _, rfl⟩)))
    · cases h
theorem okw_tab {w : Cond} (h : okw w = true) : w.onTables = true ∨ ∃ ty, w = .arrayClass ty := by
  rcases okw_cases h with h | ⟨a, b, rfl⟩ | ⟨x, rfl⟩ | ⟨a, i, x, q, rfl⟩ | ⟨a, i, b, n, d, q, rfl⟩
  · rcases good_of_word h with g | g
    · rw [Bool.and_eq_true] at g
      exact Or.inl g.1
    · exact Or.inr g
  · exact Or.inl rfl
  · exact Or.inl rfl
  · exact Or.inl rfl
  · exact Or.inl rfl
theorem okw_use {w : Cond} (h : okw w = true) {A A' : Array Value} {U : State} (hb : w.before A U = true) : w.before A' U = true := by
  rcases okw_tab h with g | ⟨ty, rfl⟩
  · exact va_any g hb
  · exact word_at (State.WarmedH.refl U) (Or.inr ⟨ty, rfl⟩) hb
theorem okw_warm {w : Cond} (h : okw w = true) {s U : State} (hW : s.WarmedH U.vm) (hb : w.before #[] s = true) : w.before #[] U = true := by
  rcases okw_cases h with h | ⟨a, b, rfl⟩ | ⟨x, rfl⟩ | ⟨a, i, x, q, rfl⟩ | ⟨a, i, b, n, d, q, rfl⟩
  · exact word_at hW (good_of_word h) hb
  · exact va_Nw.warmC hW hb
  · exact va_Nw.warmD hW hb
  · exact va_Nw.warmM hW hb
  · exact va_Nw.warmF hW hb
def sfp (base : Nat) (s : State) (H : Heap) : Prop :=
  (∀ w ∈ lw_tbl, okw w = true → w.before #[] s = true) ∧ (∀ k, 9 ≤ k → k ≤ 12 → va_AO (elN k) s) ∧ (∀ q ∈ pg_st, ∃ sa, vk_R q.1 q.2.1 q.2.2 sa s) ∧
  (∀ e f, pg_ex e ≠ pg_ex f → va_Nc (pg_ex e) (pg_ex f) s) ∧ vx_Zq Bundle.tN "UNASSIGNED_STACK" Bundle.steD (ab base) s H ∧ vx_Zq Bundle.tN "SUPPRESSED_SENTINEL" Bundle.listD (ab base) s H ∧ base ≤ H.size
theorem sfp_word {base : Nat} {s : State} {H : Heap} (h : sfp base s H) {k : Nat} {w : Cond} (hw : isw k w = true) {A : Array Value} : w.before A s = true := by
  unfold isw at hw
  rw [Bool.and_eq_true, decide_eq_true_eq] at hw
  exact okw_use hw.2 (h.1 w (List.mem_of_getElem? hw.1) hw.2)
theorem sfp_warm {base : Nat} {s U : State} {H H1 : Heap} (hW : s.WarmedH U.vm) (hz : H.size ≤ H1.size) (hk : ∀ q : Nat, q < H.size → ¬ ab base q → H1[q]? = H[q]?) (h : sfp base s H) : sfp base U H1 := by
  obtain ⟨h1, h2, h3, h4, h5, h6, h7⟩ := h
  refine ⟨fun w hw ho => okw_warm ho hW (h1 w hw ho), fun k a b => va_AO.moved hW.alike (h2 k a b), fun q hq => ?_, fun e f hef => va_Nc.moved hW.alike (h4 e f hef), vx_Zq.moved hW.alike (vx_Zq.kept h5 hk), vx_Zq.moved hW.alike (vx_Zq.kept h6 hk), Nat.le_trans h7 hz⟩
  obtain ⟨sa, hs⟩ := h3 q hq
  exact ⟨sa, vk_R.warm hW hs⟩
theorem vw_at : ∀ ci, ci < 6 → vwCl[ci]? = some (clC ci, clT ci, nfl ci)
  | 0, _ => rfl
  | 1, _ => rfl
  | 2, _ => rfl
  | 3, _ => rfl
  | 4, _ => rfl
  | 5, _ => rfl
  | n + 6, h => absurd h (by omega)
set_option maxRecDepth 100000 in
theorem uws_ok : (List.range 6).all (fun ci => (u_ws (clC ci) (clT ci) (nfl ci)).all (fun w => decide (w ∈ lw_tbl) && okw w)) = true := by decide +kernel
theorem uws_at {ci : Nat} (h : ci < 6) {base : Nat} {s : State} {H : Heap} (hs : sfp base s H) {A : Array Value} : ∀ w ∈ u_ws (clC ci) (clT ci) (nfl ci), w.before A s = true := by
  intro w hw
  have h1 := List.all_eq_true.mp uws_ok ci (List.mem_range.mpr h)
  have h2 := List.all_eq_true.mp h1 w hw
  rw [Bool.and_eq_true, decide_eq_true_eq] at h2
  exact okw_use h2.2 (hs.1 w h2.1 h2.2)
theorem tyc_at : ∀ ci, ci < 6 → ∀ k, k < nfl ci → parseFieldDescriptor (clT ci k).2.2.1 = some (tyc ci k)
  | 0, _ => tyX0_ok
  | 1, _ => tyX1_ok
  | 2, _ => tyX2_ok
  | 3, _ => tyX3_ok
  | 4, _ => tyX4_ok
  | 5, _ => tyX5_ok
  | n + 6, h => absurd h (by omega)
theorem nmc_at : ∀ ci, ci < 6 → ∀ a, a < nfl ci → ∀ b, b < nfl ci → a ≠ b → (clT ci a).2.1 ≠ (clT ci b).2.1
  | 0, _ => nmX0
  | 1, _ => nmX1
  | 2, _ => nmX2
  | 3, _ => nmX3
  | 4, _ => nmX4
  | 5, _ => nmX5
  | n + 6, h => absurd h (by omega)
/-- what a method's frame stands on -/
def Cx (p : Program) (s : State) (m : MethodId) (meth : Method) (c : Code) (y : Nat) : Prop :=
  p.tables.exec = Jvm.exec ∧ c.code = pg_by y ∧ meth.sig.returnType = pg_rt y ∧ c.maxLocals = pg_ml y ∧ s.vm.findClass (pg_own y) = some m.cls ∧ meth.locks = false ∧ meth.name = (pg_nm y).name ∧ c.exceptionTable.toList = tableOf (pg_hh y)
def orel (am : Lb → Nat) (K : KM) (r : Option PV) (o : Outcome) : Prop := match r with
  | none => o = .returned none
  | some v => ∃ v', o = .returned (some v') ∧ vr am K v v'
def QcF (base : Nat) (D : va_G) (am0 : Lb → Nat) (K0 : KM) (Q : QT) : Array Value → State → Outcome → State → Prop := fun _ st o t =>
  ∃ r K' I' R' am', Q (.inl r) K' I' R' ∧ orel am' K' r o ∧ hp base D am' K' I' R' t t.heap ∧ ext am0 K0 am' K' ∧ va_F (ab base) st t
def XcF (base : Nat) (D : va_G) (am0 : Lb → Nat) (K0 : KM) (Q : QT) : String → State → State → Prop := fun E st t =>
  ∃ e K' I' R' am', Q (.inr e) K' I' R' ∧ (E = pg_ex e ∧ 1 ≤ e ∧ e ≤ 3) ∧ hp base D am' K' I' R' t t.heap ∧ ext am0 K0 am' K' ∧ va_F (ab base) st t
def Snd (l : Launch) (base : Nat) (D : va_G) : XT := fun d b y i ls st K I R Q =>
  ∀ (p : Program) (e : Env) (rm : Room) (s : State) (m : MethodId) (args : Array Value) (below : List Frame) (meth : Method) (c : Code) (H : Heap) (locs : List Loc) (cells slots : Nat) (lsA : Array Slot) (stA : List Value) (am am0 : Lb → Nat) (K0 : KM),
    Cx p s m meth c y → sfp base s s.heap → pg_own y ≠ "java/lang/Math" → d ≤ rm.frames → 80 * d ≤ rm.locals → cells + b ≤ rm.cells → slots + b ≤ rm.slots →
    hp base D am K I R s H → va_S (ab base) s.heap H locs → lr am K ls lsA (pg_ml y) → sr am K st stA → ext am0 K0 am K →
    W p l e rm s m args below meth c H locs cells slots (vx_MQ below (QcF base D am0 K0 Q) (XcF base D am0 K0 Q) args s rm.cells rm.slots (ab base)) (F0 m (pg_pc y i) lsA stA)
