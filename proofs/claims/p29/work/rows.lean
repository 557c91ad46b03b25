section
-- ===== PART A: goes FIRST, ahead of the names: the tables' words, and 'selects' of the private methods out of them =====
/-- a private method of a class that the tables say can be made, by its rows of tables_1 -/
def lw_okq (q : MethodName × Nat) : Prop := (q.1.cls ≠ "java/lang/invoke/MethodHandle" ∧ q.1.cls ≠ "java/lang/invoke/VarHandle") ∧ Cond.instantiable q.1.cls q.2 ∈ tables_1 ∧ Cond.privateMethod q.1 ∈ tables_1 ∧ Cond.instanceMethod q.1 ∈ tables_1
theorem lw_p0 : lw_okq (⟨"java/lang/Throwable", "fillInStackTrace", "(I)Ljava/lang/Throwable;"⟩, 6) := ⟨⟨by decide +kernel, by decide +kernel⟩, List.mem_of_getElem? (i := 310) (by decide +kernel), List.mem_of_getElem? (i := 308) (by decide +kernel), List.mem_of_getElem? (i := 309) (by decide +kernel)⟩
theorem lw_p1 : lw_okq (⟨"KayfabeRing", "isWrestler", "(I)Z"⟩, 9) := ⟨⟨by decide +kernel, by decide +kernel⟩, List.mem_of_getElem? (i := 25) (by decide +kernel), List.mem_of_getElem? (i := 396) (by decide +kernel), List.mem_of_getElem? (i := 397) (by decide +kernel)⟩
theorem lw_p2 : lw_okq (⟨"KayfabeRing", "isTitle", "(I)Z"⟩, 9) := ⟨⟨by decide +kernel, by decide +kernel⟩, List.mem_of_getElem? (i := 25) (by decide +kernel), List.mem_of_getElem? (i := 400) (by decide +kernel), List.mem_of_getElem? (i := 401) (by decide +kernel)⟩
theorem lw_p3 : lw_okq (⟨"KayfabeRing", "cardOf", "(I)LKayfabeRing$Card;"⟩, 9) := ⟨⟨by decide +kernel, by decide +kernel⟩, List.mem_of_getElem? (i := 25) (by decide +kernel), List.mem_of_getElem? (i := 421) (by decide +kernel), List.mem_of_getElem? (i := 422) (by decide +kernel)⟩
theorem lw_p4 : lw_okq (⟨"KayfabeRing", "isAtStake", "(III)Z"⟩, 9) := ⟨⟨by decide +kernel, by decide +kernel⟩, List.mem_of_getElem? (i := 25) (by decide +kernel), List.mem_of_getElem? (i := 446) (by decide +kernel), List.mem_of_getElem? (i := 447) (by decide +kernel)⟩
theorem lw_p5 : lw_okq (⟨"KayfabeRing", "cardToBook", "(I)LKayfabeRing$Card;"⟩, 9) := ⟨⟨by decide +kernel, by decide +kernel⟩, List.mem_of_getElem? (i := 25) (by decide +kernel), List.mem_of_getElem? (i := 455) (by decide +kernel), List.mem_of_getElem? (i := 456) (by decide +kernel)⟩
theorem lw_p6 : lw_okq (⟨"KayfabeRing", "injure", "(II)I"⟩, 9) := ⟨⟨by decide +kernel, by decide +kernel⟩, List.mem_of_getElem? (i := 25) (by decide +kernel), List.mem_of_getElem? (i := 474) (by decide +kernel), List.mem_of_getElem? (i := 475) (by decide +kernel)⟩
theorem lw_p7 : lw_okq (⟨"KayfabeRing", "vacateTitlesOf", "(I)V"⟩, 9) := ⟨⟨by decide +kernel, by decide +kernel⟩, List.mem_of_getElem? (i := 25) (by decide +kernel), List.mem_of_getElem? (i := 481) (by decide +kernel), List.mem_of_getElem? (i := 482) (by decide +kernel)⟩
theorem lw_p8 : lw_okq (⟨"KayfabeRing", "mendersView", "()LKayfabeRing$Mender;"⟩, 9) := ⟨⟨by decide +kernel, by decide +kernel⟩, List.mem_of_getElem? (i := 25) (by decide +kernel), List.mem_of_getElem? (i := 523) (by decide +kernel), List.mem_of_getElem? (i := 524) (by decide +kernel)⟩
theorem lw_p9 : lw_okq (⟨"KayfabeRing$Mender", "lookAtSeat", "(II)V"⟩, 14) := ⟨⟨by decide +kernel, by decide +kernel⟩, List.mem_of_getElem? (i := 103) (by decide +kernel), List.mem_of_getElem? (i := 532) (by decide +kernel), List.mem_of_getElem? (i := 533) (by decide +kernel)⟩
theorem lw_p10 : lw_okq (⟨"KayfabeRing$Mender", "keepIfBetter", "(I)V"⟩, 14) := ⟨⟨by decide +kernel, by decide +kernel⟩, List.mem_of_getElem? (i := 103) (by decide +kernel), List.mem_of_getElem? (i := 554) (by decide +kernel), List.mem_of_getElem? (i := 555) (by decide +kernel)⟩
theorem lw_p11 : lw_okq (⟨"KayfabeRing$Mender", "isBarred", "(I)Z"⟩, 14) := ⟨⟨by decide +kernel, by decide +kernel⟩, List.mem_of_getElem? (i := 103) (by decide +kernel), List.mem_of_getElem? (i := 558) (by decide +kernel), List.mem_of_getElem? (i := 559) (by decide +kernel)⟩
theorem lw_p12 : lw_okq (⟨"KayfabeRing", "hasHurtOnes", "(LKayfabeRing$Card;)Z"⟩, 9) := ⟨⟨by decide +kernel, by decide +kernel⟩, List.mem_of_getElem? (i := 25) (by decide +kernel), List.mem_of_getElem? (i := 634) (by decide +kernel), List.mem_of_getElem? (i := 635) (by decide +kernel)⟩
theorem lw_p13 : lw_okq (⟨"KayfabeRing", "playMatch", "(LKayfabeRing$Match;I)I"⟩, 9) := ⟨⟨by decide +kernel, by decide +kernel⟩, List.mem_of_getElem? (i := 25) (by decide +kernel), List.mem_of_getElem? (i := 639) (by decide +kernel), List.mem_of_getElem? (i := 640) (by decide +kernel)⟩
theorem lw_p14 : lw_okq (⟨"KayfabeRing", "decide", "(III)V"⟩, 9) := ⟨⟨by decide +kernel, by decide +kernel⟩, List.mem_of_getElem? (i := 25) (by decide +kernel), List.mem_of_getElem? (i := 652) (by decide +kernel), List.mem_of_getElem? (i := 653) (by decide +kernel)⟩
theorem lw_p15 : lw_okq (⟨"KayfabeRing", "handOver", "(LKayfabeRing$Match;)V"⟩, 9) := ⟨⟨by decide +kernel, by decide +kernel⟩, List.mem_of_getElem? (i := 25) (by decide +kernel), List.mem_of_getElem? (i := 656) (by decide +kernel), List.mem_of_getElem? (i := 657) (by decide +kernel)⟩
def lw_privs_1 : List (MethodName × Nat) := [(⟨"java/lang/Throwable", "fillInStackTrace", "(I)Ljava/lang/Throwable;"⟩, 6), (⟨"KayfabeRing", "isWrestler", "(I)Z"⟩, 9), (⟨"KayfabeRing", "isTitle", "(I)Z"⟩, 9), (⟨"KayfabeRing", "cardOf", "(I)LKayfabeRing$Card;"⟩, 9), (⟨"KayfabeRing", "isAtStake", "(III)Z"⟩, 9), (⟨"KayfabeRing", "cardToBook", "(I)LKayfabeRing$Card;"⟩, 9), (⟨"KayfabeRing", "injure", "(II)I"⟩, 9), (⟨"KayfabeRing", "vacateTitlesOf", "(I)V"⟩, 9), (⟨"KayfabeRing", "mendersView", "()LKayfabeRing$Mender;"⟩, 9), (⟨"KayfabeRing$Mender", "lookAtSeat", "(II)V"⟩, 14), (⟨"KayfabeRing$Mender", "keepIfBetter", "(I)V"⟩, 14), (⟨"KayfabeRing$Mender", "isBarred", "(I)Z"⟩, 14), (⟨"KayfabeRing", "hasHurtOnes", "(LKayfabeRing$Card;)Z"⟩, 9), (⟨"KayfabeRing", "playMatch", "(LKayfabeRing$Match;I)I"⟩, 9), (⟨"KayfabeRing", "decide", "(III)V"⟩, 9), (⟨"KayfabeRing", "handOver", "(LKayfabeRing$Match;)V"⟩, 9)]
theorem lw_r1 : ∀ q ∈ lw_privs_1, lw_okq q := List.forall_mem_cons.mpr ⟨lw_p0, List.forall_mem_cons.mpr ⟨lw_p1, List.forall_mem_cons.mpr ⟨lw_p2, List.forall_mem_cons.mpr ⟨lw_p3, List.forall_mem_cons.mpr ⟨lw_p4, List.forall_mem_cons.mpr ⟨lw_p5, List.forall_mem_cons.mpr ⟨lw_p6, List.forall_mem_cons.mpr ⟨lw_p7, List.forall_mem_cons.mpr ⟨lw_p8, List.forall_mem_cons.mpr ⟨lw_p9, List.forall_mem_cons.mpr ⟨lw_p10, List.forall_mem_cons.mpr ⟨lw_p11, List.forall_mem_cons.mpr ⟨lw_p12, List.forall_mem_cons.mpr ⟨lw_p13, List.forall_mem_cons.mpr ⟨lw_p14, List.forall_mem_cons.mpr ⟨lw_p15, fun _ h => absurd h List.not_mem_nil⟩⟩⟩⟩⟩⟩⟩⟩⟩⟩⟩⟩⟩⟩⟩⟩
theorem lw_p16 : lw_okq (⟨"KayfabeRing$Mender", "sumOfWay", "()I"⟩, 14) := ⟨⟨by decide +kernel, by decide +kernel⟩, List.mem_of_getElem? (i := 103) (by decide +kernel), List.mem_of_getElem? (i := 737) (by decide +kernel), List.mem_of_getElem? (i := 738) (by decide +kernel)⟩
theorem lw_p17 : lw_okq (⟨"KayfabeRing$Mender", "isAllowed", "(I)Z"⟩, 14) := ⟨⟨by decide +kernel, by decide +kernel⟩, List.mem_of_getElem? (i := 103) (by decide +kernel), List.mem_of_getElem? (i := 741) (by decide +kernel), List.mem_of_getElem? (i := 742) (by decide +kernel)⟩
theorem lw_p18 : lw_okq (⟨"KayfabeRing$Mender", "goToNextWay", "()Z"⟩, 14) := ⟨⟨by decide +kernel, by decide +kernel⟩, List.mem_of_getElem? (i := 103) (by decide +kernel), List.mem_of_getElem? (i := 746) (by decide +kernel), List.mem_of_getElem? (i := 747) (by decide +kernel)⟩
def lw_privs_2 : List (MethodName × Nat) := [(⟨"KayfabeRing$Mender", "sumOfWay", "()I"⟩, 14), (⟨"KayfabeRing$Mender", "isAllowed", "(I)Z"⟩, 14), (⟨"KayfabeRing$Mender", "goToNextWay", "()Z"⟩, 14)]
theorem lw_r2 : ∀ q ∈ lw_privs_2, lw_okq q := List.forall_mem_cons.mpr ⟨lw_p16, List.forall_mem_cons.mpr ⟨lw_p17, List.forall_mem_cons.mpr ⟨lw_p18, fun _ h => absurd h List.not_mem_nil⟩⟩⟩
def lw_privs : List (MethodName × Nat) := lw_privs_1 ++ (lw_privs_2)
def lw_tbl : List Cond := k2_sels lw_privs ++ tables_1
theorem lw_privs_ok : ∀ q ∈ lw_privs, lw_okq q := by
  show ∀ q ∈ lw_privs_1 ++ (lw_privs_2), lw_okq q
  exact List.forall_mem_append.mpr ⟨lw_r1, lw_r2⟩
-- ===== end of PART A; then your names; then what follows =====
end
section
/-! ===== BEGIN words of one list among another's, by their places ===== -/
theorem goodIn_r {big : List Cond} (ws : List Cond) (ps : List Nat) (hp : ws = ps.filterMap (fun i => big[i]?)) (h : ws.all goodWord = true) : GoodIn big ws := by
  intro w hw
  have h1 := List.all_eq_true.mp h w hw
  rw [hp] at hw
  obtain ⟨i, -, hi⟩ := List.mem_filterMap.mp hw
  have hm : w ∈ big := by first | exact List.mem_of_getElem? hi | exact List.getElem?_mem hi
  exact ⟨hm, good_of_word h1⟩
theorem goodIn_app {big a b : List Cond} (ha : GoodIn big a) (hb : GoodIn big b) : GoodIn big (a ++ b) := fun w h => (List.mem_append.mp h).elim (ha w) (hb w)
theorem goodIn_ca {big a b : List Cond} {c : Cond} (ha : GoodIn big (c :: a)) (hb : GoodIn big b) : GoodIn big (c :: (a ++ b)) := fun w h => (List.mem_cons.mp h).elim (fun e => ha w (List.mem_cons.mpr (Or.inl e))) (fun h => (List.mem_append.mp h).elim (fun h => ha w (List.mem_cons.mpr (Or.inr h))) (hb w))
theorem goodIn_sub {big ws : List Cond} (hm : ∀ w ∈ ws, w ∈ big) (h : ws.all goodWord = true) : GoodIn big ws := fun w hw => ⟨hm w hw, good_of_word (List.all_eq_true.mp h w hw)⟩
/-! ===== END ===== -/

/-! ===== BEGIN exceptions that leave a method, and their catching by the caller (launches without stack traces) ===== -/
section VXA
/-! The laws vx_back, vx_callV, vx_callS, vx_callSW, vx_throw0, vx_throwS follow proofs of the library, with one case more: JvmDerived/Free/Laws.lean (Back.of_free), Shelf42/LK1.lean (callV, callS), Shelf/KitTraced.lean (throwNew0V, throwNewS). -/
/-- where a method has thrown q: the class by its name, the cell, what was written, the world -/
def vx_T (XC : String → State → State → Prop) (st : State) (q : Addr) (t : State) (mc ms : Nat) (free : Addr → Prop) : Prop :=
  ∃ (E : String) (ce : Cell) (L : List Loc), XC E st t ∧ t.heap[q]? = some ce ∧ ce.vm = .none ∧ st.vm.findClass E = some ce.cls ∧ st.WarmedH t.vm ∧ st.sameButNew ({ t with vm := st.vm } : State) L mc ms ∧ ∀ z ∈ L, free z.base
def vx_Q (Qc : Array Value → State → Outcome → State → Prop) (XC : String → State → State → Prop) (mc ms : Nat) (free : Addr → Prop) : Array Value → State → Outcome → State → Prop := fun a st o t =>
  (Qc a st o t ∧ ∃ L, FrameEnd st o t L mc ms ∧ ∀ q ∈ L, free q.base) ∨ ∃ q, o = .threw q ∧ vx_T XC st q t mc ms free
/-- a callee that returns or throws -/
def vx_Met (l : Launch) (y : MethodName) (ws : List Cond) (rm : Room) (Pc : Array Value → State → Prop) (Qc : Array Value → State → Outcome → State → Prop) (XC : String → State → State → Prop) (mc ms : Nat) (free : Addr → Prop) : Prop :=
  MetFree l y (headSpec ws rm) Pc (fun _ _ _ _ _ => True) (vx_Q Qc XC mc ms free)
def vx_Post (XC : String → State → State → Prop) (mc ms : Nat) (free : Addr → Prop) : Pt → Array Value → Addr → Pt → Prop := fun A a q B =>
  ∃ (g : JFrame) (mk : MethodId) (t : State) (L : List Loc) (E : String) (ce : Cell), B.U.heap = t.heap ∧ B.U.vm = t.vm ∧ XC E (A.U.calling g mk a) t ∧ t.heap[q]? = some ce ∧ ce.vm = .none ∧ A.U.vm.findClass E = some ce.cls ∧ B.locs = A.locs ++ L ∧ (∀ z ∈ L, free z.base) ∧ B.cells = A.cells + mc ∧ B.slots = A.slots + ms
def vx_Back (l : Launch) (R : Room) (p : Program) (e : Env) (below : List Frame) (s : State) (sargs : Array Value) (y : MethodName) (len W9 : Nat)
    (Pre : Pt → Array Value → Prop) (Post : Pt → Array Value → Option Value → Pt → Prop) (PostX : Pt → Array Value → Addr → Pt → Prop) : Prop :=
  ∀ (m : MethodId) (meth : Method) (c : Code) (A : Pt) (g : JFrame) (ig : Instr) (mk : MethodId) (a : Array Value),
    Stand p l e R s m sargs below meth c A.U A.locs A.cells A.slots → g.method = m → g.locals.size = c.maxLocals → decode c.code g.pc = .ok (ig, len) →
    2 * g.monitorRoom + (g.stack.map fun v => v.category).sum ≤ W9 → A.U.methodNamed? y = some mk → Pre A a →
    (∃ (v : Option Value) (B : Pt), Stand p l e R s m sargs below meth c B.U B.locs B.cells B.slots ∧ Post A a v B ∧
      Steps p.tables e below (doInvoke e (A.U.setTop g) [] mk a).1 (B.U.setTop { g with pc := g.pc + len, stack := v.toList ++ g.stack })) ∨
    (∃ (q : Addr) (B : Pt), Stand p l e R s m sargs below meth c B.U B.locs B.cells B.slots ∧ PostX A a q B ∧
      Steps p.tables e below (doInvoke e (A.U.setTop g) [] mk a).1 ((B.U.setTop g).pushFrame (.throwing q)))
section Payer
variable {l : Launch} {R : Room} {p : Program} {e : Env} {below : List Frame} {s : State} {sargs : Array Value} {y : MethodName} {len W9 : Nat}
theorem vx_back {ws : List Cond} {rm : Room} {Pc : Array Value → State → Prop} {Qc : Array Value → State → Outcome → State → Prop} {XC : String → State → State → Prop} {mc ms : Nat} {free : Addr → Prop} {bytes : ByteArray} {maxL : Nat} {ret : Option FieldType}
    (hM : vx_Met l y ws rm Pc Qc XC mc ms free) (hblind : FrameBlind Pc) (hrc : rm.cells = mc) (hrs : rm.slots = ms)
    (hframes : rm.frames + 1 ≤ R.frames) (hlocals : W9 + (maxL + 11) + rm.locals ≤ R.locals)
    (hws : ∀ w ∈ ws, ∀ a' U, s.WarmedH U.vm → w.before a' U = true) (hcode : Cond.code y bytes maxL ret ∈ ws) (hinit : ∀ a' U, s.WarmedH U.vm → (Cond.initialized y.cls).before a' U = true) :
    vx_Back l R p e below s sargs y len W9 (PreOf R mc ms Pc) (PostOf Qc mc ms free) (vx_Post XC mc ms free) := by
  intro m meth c A g ig mk a X hg hsize hdg hW hn hp
  have h1 : (headSpec ws rm).pre.before a A.U = true := atoms_intro fun w hw => hws w hw _ _ X.warmed
  have h2 : (Cond.code y bytes maxL ret).before a A.U = true := hws _ hcode _ _ X.warmed
  have h3 : (Cond.initialized y.cls).before a A.U = true := hinit _ _ X.warmed
  have h4 : A.cells + (headSpec ws rm).room.cells ≤ R.cells := by rw [show (headSpec ws rm).room.cells = mc from hrc]; exact hp.1
  have h5 : A.slots + (headSpec ws rm).room.slots ≤ R.slots := by rw [show (headSpec ws rm).room.slots = ms from hrs]; exact hp.2.1
  have hPc : Pc a (A.U.calling g mk a) := hblind _ _ _ _ hp.2.2
  obtain ⟨U, Ls, c0, s0⟩ := A
  dsimp only [Pt.U, Pt.locs, Pt.cells, Pt.slots] at h1 h2 h3 h4 h5 X hn hPc ⊢
  obtain ⟨methY, cY, hmY, hcY, -, hlY, -, -, -, -⟩ := Cond.code_spec hn h2
  obtain ⟨kY, hkY, -⟩ := className_of_methodNamed hn
  have hinitY : kY.init = .initialized := Cond.initialized_spec (findClass_of_methodNamed hn) hkY h3
  have h : At U g.method c below := by rw [hg]; exact X.here
  have hlocals9 : W9 + (maxL + 11) + (headSpec ws rm).room.locals ≤ R.locals := hlocals
  have happ : (headSpec ws rm).appliesLoose y e.platform (U.calling g mk a) = true :=
    Spec.appliesLoose_calling (g := g) h hdg hn hkY hinitY
      (X.room_calling (g := g) (R' := (headSpec ws rm).room) hsize hmY hcY hframes (by rw [hlY]; omega) h4 h5) h1
  obtain ⟨mid, hmid⟩ := h.above
  have hfr : (U.setTop g).frames = (.java g :: mid) ++ below := by rw [State.frames_setTop' g h.top, hmid]; rfl
  obtain ⟨o, s₂, hsteps, -, hend, hq⟩ := Steps.callFree hM p X.admits X.cas X.clock (acts := []) hfr happ hPc trivial
  have hq' : vx_Q Qc XC mc ms free a (U.calling g mk a) o s₂ := hq
  rw [State.frames_setTop' g h.top] at hend
  obtain ⟨g₀, hg0⟩ := Option.isSome_iff_exists.mp h.top
  obtain ⟨r, hr⟩ := State.topJava?_eq_some.mp hg0
  have hr' : (({ U with heap := s₂.heap, slotsUsed := s₂.slotsUsed } : State).setVm s₂.vm).frames = .java g₀ :: r := hr
  rcases hq' with ⟨hqc, L, hfe, hL⟩ | ⟨q, rfl, E, ce, L, hx, hce, hcv, hcl, hW₂, hsm, hL⟩
  · obtain ⟨⟨v, rfl⟩, hW₂, e2, q2, q3, q4, q5, q6⟩ := id hfe
    have e3 : s₂ = ({ (U.calling g mk a).setFrames s₂.frames with heap := s₂.heap, slotsUsed := s₂.slotsUsed } : State).setVm s₂.vm := by
      have : s₂ = ({ s₂ with vm := (U.calling g mk a).vm } : State).setVm s₂.vm := rfl
      rw [e2] at this
      exact this
    obtain ⟨c₂, i₂, len₂, hc₂, hd₂, hf₂⟩ := hend
    have hW' : U.WarmedH s₂.vm := hW₂
    have hcc : c₂ = c := by
      have h1 : s₂.code? g.method = U.code? g.method := by
        rw [State.code?_eq, State.code?_eq, hW'.alike.method?]
      exact Option.some.inj (hc₂.symm.trans (h1.trans h.code))
    subst hcc
    have hlen : len₂ = len := by rw [hdg] at hd₂; cases hd₂; rfl
    subst hlen
    have hs₂ : s₂ = (({ U with heap := s₂.heap, slotsUsed := s₂.slotsUsed } : State).setVm s₂.vm).setTop { g with pc := g.pc + len₂, stack := v.toList ++ g.stack } := by
      refine e3.trans ?_
      rw [hf₂, State.calling_eq h.top, State.setFrames_setFrames, State.setTop_of_frames _ hr', hr]
      rfl
    have hsame : U.sameButNew ({ U with heap := s₂.heap, slotsUsed := s₂.slotsUsed } : State) L mc ms := by
      refine ⟨?_, q2, q3, q4, q5, q6⟩
      obtain ⟨t, ht, -⟩ := State.frames_cons hr
      show ({ U with heap := s₂.heap, slotsUsed := s₂.slotsUsed } : State) = { U.setFrames U.frames with heap := s₂.heap, slotsUsed := s₂.slotsUsed }
      rw [State.setFrames_self ht]
    subst hg
    refine Or.inl ⟨v, ⟨(({ U with heap := s₂.heap, slotsUsed := s₂.slotsUsed } : State).setVm s₂.vm), Ls ++ L, c0 + mc, s0 + ms⟩,
      ⟨X.admits, X.cas, X.clock, X.frames, X.room, X.hears, X.method, X.code, (X.here.setHeapUsed s₂.heap s₂.slotsUsed).setVm hW'.alike, X.tail, State.WarmedH.trans X.warmed hW', X.limits, X.bytes, X.same.trans (hsame.setVm s.vm)⟩,
      ⟨g, mk, s₂, L, rfl, rfl, hqc, rfl, hL, rfl, rfl⟩, ?_⟩
    show Steps p.tables e below _ ((({ U with heap := s₂.heap, slotsUsed := s₂.slotsUsed } : State).setVm s₂.vm).setTop { g with pc := g.pc + len₂, stack := v.toList ++ g.stack })
    rw [← hs₂]
    exact hsteps
  · obtain ⟨e2, q2, q3, q4, q5, q6⟩ := id hsm
    have e3 : s₂ = ({ (U.calling g mk a).setFrames s₂.frames with heap := s₂.heap, slotsUsed := s₂.slotsUsed } : State).setVm s₂.vm := by
      have : s₂ = ({ s₂ with vm := (U.calling g mk a).vm } : State).setVm s₂.vm := rfl
      rw [e2] at this
      exact this
    have hf₂ : s₂.frames = .throwing q :: .java g :: U.frames.tail := hend
    have hW' : U.WarmedH s₂.vm := hW₂
    have hs₂ : s₂ = ((({ U with heap := s₂.heap, slotsUsed := s₂.slotsUsed } : State).setVm s₂.vm).setTop g).pushFrame (.throwing q) := by
      refine e3.trans ?_
      rw [hf₂, State.calling_eq h.top, State.setFrames_setFrames, State.pushFrame, State.frames_setTop _ hr', State.setTop_of_frames _ hr', State.setFrames_setFrames, hr]
      rfl
    have hsame : U.sameButNew ({ U with heap := s₂.heap, slotsUsed := s₂.slotsUsed } : State) L mc ms := by
      refine ⟨?_, q2, q3, q4, q5, q6⟩
      obtain ⟨t, ht, -⟩ := State.frames_cons hr
      show ({ U with heap := s₂.heap, slotsUsed := s₂.slotsUsed } : State) = { U.setFrames U.frames with heap := s₂.heap, slotsUsed := s₂.slotsUsed }
      rw [State.setFrames_self ht]
    subst hg
    refine Or.inr ⟨q, ⟨(({ U with heap := s₂.heap, slotsUsed := s₂.slotsUsed } : State).setVm s₂.vm), Ls ++ L, c0 + mc, s0 + ms⟩,
      ⟨X.admits, X.cas, X.clock, X.frames, X.room, X.hears, X.method, X.code, (X.here.setHeapUsed s₂.heap s₂.slotsUsed).setVm hW'.alike, X.tail, State.WarmedH.trans X.warmed hW', X.limits, X.bytes, X.same.trans (hsame.setVm s.vm)⟩,
      ⟨g, mk, s₂, L, E, ce, rfl, rfl, hx, hce, hcv, hcl, rfl, hL, rfl, rfl⟩, ?_⟩
    show Steps p.tables e below _ (((({ U with heap := s₂.heap, slotsUsed := s₂.slotsUsed } : State).setVm s₂.vm).setTop g).pushFrame (.throwing q))
    rw [← hs₂]
    exact hsteps
end Payer
section Calls
variable {p : Program} {l : Launch} {e : Env} {R : Room} {s : State} {m : MethodId} {args : Array Value} {below : List Frame} {meth : Method} {c : Code} {T : State} {locs : List Loc} {cells slots : Nat}
theorem vx_callV (X : Stand p l e R s m args below meth c T locs cells slots) (hexec : p.tables.exec = Jvm.exec) {own C : String} {index : Nat} {y : MethodName} {bytes : ByteArray} {maxL : Nat} {ret : Option FieldType}
    (hown : s.vm.findClass own = some m.cls) (hlink : (Cond.methodLink own index y).before args s = true) (hinst : (Cond.instanceMethod y).before args s = true) (hsel : (Cond.selects C y y).before args s = true)
    (hcode : (Cond.code y bytes maxL ret).before args s = true) (hy : y.cls ≠ "java/lang/invoke/MethodHandle" ∧ y.cls ≠ "java/lang/invoke/VarHandle")
    {W9 : Nat} {Pre : Pt → Array Value → Prop} {Post : Pt → Array Value → Option Value → Pt → Prop} {PostX : Pt → Array Value → Addr → Pt → Prop} (hK : vx_Back l R p e below s args y 3 W9 Pre Post PostX)
    {b : Addr} {cellB : Cell} (hcell : T.heap[b]? = some cellB) (hobj : cellB.vm.isStatics = false) (hcls : s.vm.findClass C = some cellB.cls)
    {g : JFrame} (hg : g.method = m) (hsize : g.locals.size = c.maxLocals) {argsL rest : List Value} (hlen : ∀ sig, parseMethodDescriptor y.desc = some sig → argsL.length = sig.parameters.length)
    (hstack : g.stack = argsL.reverse ++ .ref b :: rest) (hW : 2 * g.monitorRoom + (rest.map fun v => v.category).sum ≤ W9) (hdg : decode c.code g.pc = .ok (.invokevirtual index, 3))
    (hpre : ∀ vm₁, s.WarmedH vm₁ → Pre ⟨T.setVm vm₁, locs, cells, slots⟩ (Value.ref b :: argsL).toArray) :
    (∃ (v : Option Value) (vm₁ : Vm) (B : Pt), s.WarmedH vm₁ ∧ Stand p l e R s m args below meth c B.U B.locs B.cells B.slots ∧ Post ⟨T.setVm vm₁, locs, cells, slots⟩ (Value.ref b :: argsL).toArray v B ∧
      ∀ target, Steps p.tables e below (B.U.setTop { g with pc := g.pc + 3, stack := v.toList ++ rest }) target → Steps p.tables e below (T.setTop g) target) ∨
    (∃ (q : Addr) (vm₁ : Vm) (B : Pt), s.WarmedH vm₁ ∧ Stand p l e R s m args below meth c B.U B.locs B.cells B.slots ∧ PostX ⟨T.setVm vm₁, locs, cells, slots⟩ (Value.ref b :: argsL).toArray q B ∧
      Steps p.tables e below (T.setTop g) ((B.U.setTop { g with stack := rest }).pushFrame (.throwing q))) := by
  obtain ⟨mk, methM, hnamed, hmethM, hstM, habM⟩ := Cond.instanceMethod_spec hinst
  obtain ⟨methM', cM, hmethM', -, -, -, -, -, -, hsigM⟩ := Cond.code_spec hnamed hcode
  cases hmethM.symm.trans hmethM'
  obtain ⟨c2, r2, m2, q1, q2, q3, q4, kP, hkP, hkPi⟩ := Cond.selects_spec hsel
  cases hcls.symm.trans q1
  cases (State.methodFound?_of_named hnamed hy).symm.trans q2
  cases hnamed.symm.trans q3
  have hselP : selectMethod e.platform s.vm cellB.cls mk = .method mk := by rw [Launch.admits_selectMethod X.admits]; exact q4
  obtain ⟨vm₁, X₁, hstep₁⟩ := X.invokevirtual hexec hown hlink hnamed hmethM hstM hkP hkPi hy (a := b) (cell := cellB) hcell
    (fun z h => by rw [h] at hobj; cases hobj) hselP hmethM habM hkP hkPi (g := g) hg (argsL := argsL) (rest := rest) (hlen _ hsigM) hstack hdg
  rcases hK m meth c ⟨T.setVm vm₁, locs, cells, slots⟩ { g with stack := rest } (.invokevirtual index) mk (Value.ref b :: argsL).toArray X₁ hg hsize hdg hW (X₁.named hnamed) (hpre vm₁ X₁.warmed) with ⟨v, B, X', hpost, hsteps⟩ | ⟨q, B, X', hpost, hsteps⟩
  · exact Or.inl ⟨v, vm₁, B, X₁.warmed, X', hpost, fun target h => hstep₁ _ fun acts => by rw [doInvoke_state]; exact hsteps.trans h⟩
  · exact Or.inr ⟨q, vm₁, B, X₁.warmed, X', hpost, hstep₁ _ fun acts => by rw [doInvoke_state]; exact hsteps⟩
theorem vx_callS (X : Stand p l e R s m args below meth c T locs cells slots) (hexec : p.tables.exec = Jvm.exec) {own : String} {index : Nat} {y : MethodName} {bytes : ByteArray} {maxL : Nat} {ret : Option FieldType}
    (hown : s.vm.findClass own = some m.cls) (hlink : (Cond.methodLink own index y).before args s = true) (hstat : (Cond.static y).before args s = true) (hinit : (Cond.initialized y.cls).before args s = true)
    (hcode : (Cond.code y bytes maxL ret).before args s = true) (hy : y.cls ≠ "java/lang/invoke/MethodHandle" ∧ y.cls ≠ "java/lang/invoke/VarHandle")
    {W9 : Nat} {Pre : Pt → Array Value → Prop} {Post : Pt → Array Value → Option Value → Pt → Prop} {PostX : Pt → Array Value → Addr → Pt → Prop} (hK : vx_Back l R p e below s args y 3 W9 Pre Post PostX)
    {g : JFrame} (hg : g.method = m) (hsize : g.locals.size = c.maxLocals) {argsL rest : List Value} (hlen : ∀ sig, parseMethodDescriptor y.desc = some sig → argsL.length = sig.parameters.length)
    (hstack : g.stack = argsL.reverse ++ rest) (hW : 2 * g.monitorRoom + (rest.map fun v => v.category).sum ≤ W9) (hdg : decode c.code g.pc = .ok (.invokestatic index, 3))
    (hpre : ∀ vm₁, s.WarmedH vm₁ → Pre ⟨T.setVm vm₁, locs, cells, slots⟩ argsL.toArray) :
    (∃ (v : Option Value) (vm₁ : Vm) (B : Pt), s.WarmedH vm₁ ∧ Stand p l e R s m args below meth c B.U B.locs B.cells B.slots ∧ Post ⟨T.setVm vm₁, locs, cells, slots⟩ argsL.toArray v B ∧
      ∀ target, Steps p.tables e below (B.U.setTop { g with pc := g.pc + 3, stack := v.toList ++ rest }) target → Steps p.tables e below (T.setTop g) target) ∨
    (∃ (q : Addr) (vm₁ : Vm) (B : Pt), s.WarmedH vm₁ ∧ Stand p l e R s m args below meth c B.U B.locs B.cells B.slots ∧ PostX ⟨T.setVm vm₁, locs, cells, slots⟩ argsL.toArray q B ∧
      Steps p.tables e below (T.setTop g) ((B.U.setTop { g with stack := rest }).pushFrame (.throwing q))) := by
  obtain ⟨mk, hnamed⟩ := Cond.code_named hcode
  obtain ⟨methM, cM, hmethM, -, -, -, -, -, -, hsigM⟩ := Cond.code_spec hnamed hcode
  have hstatic : methM.isStatic = true := Cond.static_spec hnamed hmethM hstat
  obtain ⟨kP, hkP, -⟩ := className_of_methodNamed hnamed
  have hinitP : kP.init = .initialized := Cond.initialized_spec (findClass_of_methodNamed hnamed) hkP hinit
  obtain ⟨vm₁, X₁, hstep₁⟩ := X.invokestatic hexec hown hlink hnamed hmethM hstatic hkP hinitP hy (g := g) hg (argsL := argsL) (rest := rest) (hlen _ hsigM) hstack hdg
  rcases hK m meth c ⟨T.setVm vm₁, locs, cells, slots⟩ { g with stack := rest } (.invokestatic index) mk argsL.toArray X₁ hg hsize hdg hW (X₁.named hnamed) (hpre vm₁ X₁.warmed) with ⟨v, B, X', hpost, hsteps⟩ | ⟨q, B, X', hpost, hsteps⟩
  · exact Or.inl ⟨v, vm₁, B, X₁.warmed, X', hpost, fun target h => hstep₁ _ fun acts => by rw [doInvoke_state]; exact hsteps.trans h⟩
  · exact Or.inr ⟨q, vm₁, B, X₁.warmed, X', hpost, hstep₁ _ fun acts => by rw [doInvoke_state]; exact hsteps⟩
end Calls
theorem vx_cls {s : State} {T : State} {vm₁ : Vm} {E : String} {k : ClassId} (hW : s.WarmedH vm₁) (h : (T.setVm vm₁).vm.findClass E = some k) : s.vm.findClass E = some k := by
  have h1 : vm₁.findClass E = some k := h
  rw [hW.alike.findClass] at h1
  exact h1
/-- the method's frame g, with q thrown over it -/
def vx_W (p : Program) (l : Launch) (e : Env) (R : Room) (s : State) (m : MethodId) (args : Array Value) (below : List Frame) (meth : Method) (c : Code) (H : Heap) (locs : List Loc) (cells slots : Nat) (Q : State → Prop) (g : JFrame) (q : Addr) : Prop :=
  ∀ T : State, T.heap = H → Stand p l e R s m args below meth c T locs cells slots → ∃ t, Steps p.tables e below ((T.setTop g).pushFrame (.throwing q)) t ∧ Q t
def vx_Run (p : Program) (l : Launch) (e : Env) (R : Room) (s : State) (m : MethodId) (args : Array Value) (below : List Frame) (meth : Method) (c : Code) (H : Heap) (locs : List Loc) (cells slots mc ms : Nat) (g : JFrame) (rest : List Value) (Qa : State → Outcome → State → Prop) (XC : String → State → State → Prop) (free : Addr → Prop) : Prop :=
  ∀ T : State, T.heap = H → Stand p l e R s m args below meth c T locs cells slots →
    (∃ (v : Option Value) (st₀ t T' : State) (L : List Loc), st₀.heap = H ∧ Stand p l e R s m args below meth c T' (locs ++ L) (cells + mc) (slots + ms) ∧ (∀ q ∈ L, free q.base) ∧ T'.heap = t.heap ∧ T'.vm = t.vm ∧ Qa st₀ (.returned v) t ∧
      Goes p e below T g T' { g with pc := g.pc + 3, stack := v.toList ++ rest }) ∨
    (∃ (q : Addr) (st₀ t T' : State) (L : List Loc) (E : String) (ce : Cell), st₀.heap = H ∧ Stand p l e R s m args below meth c T' (locs ++ L) (cells + mc) (slots + ms) ∧ (∀ z ∈ L, free z.base) ∧ T'.heap = t.heap ∧ T'.vm = t.vm ∧ XC E st₀ t ∧ t.heap[q]? = some ce ∧ ce.vm = .none ∧ s.vm.findClass E = some ce.cls ∧
      Steps p.tables e below (T.setTop g) ((T'.setTop { g with stack := rest }).pushFrame (.throwing q)))
def vx_X {S : Type} (px : S → Prop) (B : String → S → State → Prop) (A : Nat → Prop) : String → State → State → Prop := fun E st t => ∃ u : S, px u ∧ B E u t ∧ va_F A st t
section Runs
variable {p : Program} {l : Launch} {e : Env} {R : Room} {s : State} {m : MethodId} {args : Array Value} {below : List Frame} {meth : Method} {c : Code} {H : Heap} {locs : List Loc} {cells slots : Nat}
variable {y : MethodName} {bytes cc : ByteArray} {maxL nL mc ms n index : Nat} {ret : Option FieldType} {ws : List Cond} {rm : Room} {Pc : Array Value → State → Prop} {Qc : Array Value → State → Outcome → State → Prop} {XC : String → State → State → Prop} {free : Addr → Prop} {Ts : List Cond} {own C : String} {b : Addr} {As rest : List Value} {g : JFrame}
theorem vx_callBack (cb : CallB R s args own index y bytes maxL ret ws rm mc ms n) (hM : vx_Met l y ws rm Pc Qc XC mc ms free) (hbl : FrameBlind Pc) : vx_Back l R p e below s args y 3 8 (PreOf R mc ms Pc) (PostOf Qc mc ms free) (vx_Post XC mc ms free) := by
  obtain ⟨hrc, hrs, hfr, hlo, hws, hcw, -, hini, -⟩ := cb
  exact vx_back (bytes := bytes) (maxL := maxL) (ret := ret) hM hbl hrc hrs hfr hlo hws hcw (fun a' U hW => word_at hW (Or.inl (by first | rfl | simp [Cond.onTables, Cond.keeps, Cond.steady])) hini)
theorem vx_runV (S : CallFix p m c cc nL s args Ts own) (hM : vx_Met l y ws rm Pc Qc XC mc ms free) (cw : CallW R s args own C index y bytes maxL ret ws rm mc ms n) (hp : PreV s H C b Pc As)
    (hg : g.method = m) (hn : As.length = n) (hsize : g.locals.size = nL) (hstack : g.stack = As.reverse ++ .ref b :: rest) (hW : 2 * g.monitorRoom + (rest.map fun v => v.category).sum ≤ 8) (hdg : decode cc g.pc = .ok (.invokevirtual index, 3)) (hf : cells + mc ≤ R.cells ∧ slots + ms ≤ R.slots) :
    vx_Run p l e R s m args below meth c H locs cells slots mc ms g rest (Qc (Value.ref b :: As).toArray) XC free := by
  have hK : vx_Back l R p e below s args y 3 8 (PreOf R mc ms Pc) (PostOf Qc mc ms free) (vx_Post XC mc ms free) := vx_callBack cw.1 hM hp.1
  obtain ⟨⟨-, -, -, -, -, -, hcode, -, hy, hlen, hl⟩, hin, hse⟩ := cw
  obtain ⟨hx, hb, hml, ho, -⟩ := S
  obtain ⟨-, ⟨cellB, hcB, hoB, hclB⟩, hPc⟩ := hp
  intro T hT X
  rcases vx_callV X hx (C := C) (bytes := bytes) (maxL := maxL) (ret := ret) ho hl hin hse hcode hy hK (by rw [hT]; exact hcB) hoB hclB hg (hsize.trans hml.symm) (argsL := As) (rest := rest) (fun sig h => hn.trans (hlen sig h)) hstack hW (by rw [hb]; exact hdg)
    (fun vm₁ hW₁ => ⟨hf.1, hf.2, hPc (T.setVm vm₁) hT hW₁⟩) with ⟨v, vm₁, ⟨U', l2, c2, s2⟩, hW₁, X', ⟨g', mk, t, L, e1, e2, hq, h1, hL, h2, h3⟩, st⟩ | ⟨q, vm₁, ⟨U', l2, c2, s2⟩, hW₁, X', ⟨g', mk, t, L, E, ce, e1, e2, hq, hce, hcv, hcl, h1, hL, h2, h3⟩, st⟩
  · dsimp only [Pt.U, Pt.locs, Pt.cells, Pt.slots] at X' e1 e2 h1 h2 h3 st
    subst h1; subst h2; subst h3
    exact Or.inl ⟨v, (T.setVm vm₁).calling g' mk (Value.ref b :: As).toArray, t, U', L, hT, X', hL, e1, e2, hq, st⟩
  · dsimp only [Pt.U, Pt.locs, Pt.cells, Pt.slots] at X' e1 e2 h1 h2 h3 st hcl
    subst h1; subst h2; subst h3
    exact Or.inr ⟨q, (T.setVm vm₁).calling g' mk (Value.ref b :: As).toArray, t, U', L, E, ce, hT, X', hL, e1, e2, hq, hce, hcv, vx_cls hW₁ hcl, st⟩
theorem vx_runS (S : CallFix p m c cc nL s args Ts own) (hM : vx_Met l y ws rm Pc Qc XC mc ms free) (cw : CallB R s args own index y bytes maxL ret ws rm mc ms n ∧ (Cond.static y).before args s = true) (hp : PreS s H Pc As)
    (hg : g.method = m) (hn : As.length = n) (hsize : g.locals.size = nL) (hstack : g.stack = As.reverse ++ rest) (hW : 2 * g.monitorRoom + (rest.map fun v => v.category).sum ≤ 8) (hdg : decode cc g.pc = .ok (.invokestatic index, 3)) (hf : cells + mc ≤ R.cells ∧ slots + ms ≤ R.slots) :
    vx_Run p l e R s m args below meth c H locs cells slots mc ms g rest (Qc As.toArray) XC free := by
  have hK : vx_Back l R p e below s args y 3 8 (PreOf R mc ms Pc) (PostOf Qc mc ms free) (vx_Post XC mc ms free) := vx_callBack cw.1 hM hp.1
  obtain ⟨⟨-, -, -, -, -, -, hcode, hini, hy, hlen, hl⟩, hstt⟩ := cw
  obtain ⟨hx, hb, hml, ho, -⟩ := S
  intro T hT X
  rcases vx_callS X hx (bytes := bytes) (maxL := maxL) (ret := ret) ho hl hstt hini hcode hy hK hg (hsize.trans hml.symm) (argsL := As) (rest := rest) (fun sig h => hn.trans (hlen sig h)) hstack hW (by rw [hb]; exact hdg)
    (fun vm₁ hW₁ => ⟨hf.1, hf.2, hp.2 (T.setVm vm₁) hT hW₁⟩) with ⟨v, vm₁, ⟨U', l2, c2, s2⟩, hW₁, X', ⟨g', mk, t, L, e1, e2, hq, h1, hL, h2, h3⟩, st⟩ | ⟨q, vm₁, ⟨U', l2, c2, s2⟩, hW₁, X', ⟨g', mk, t, L, E, ce, e1, e2, hq, hce, hcv, hcl, h1, hL, h2, h3⟩, st⟩
  · dsimp only [Pt.U, Pt.locs, Pt.cells, Pt.slots] at X' e1 e2 h1 h2 h3 st
    subst h1; subst h2; subst h3
    exact Or.inl ⟨v, (T.setVm vm₁).calling g' mk As.toArray, t, U', L, hT, X', hL, e1, e2, hq, st⟩
  · dsimp only [Pt.U, Pt.locs, Pt.cells, Pt.slots] at X' e1 e2 h1 h2 h3 st hcl
    subst h1; subst h2; subst h3
    exact Or.inr ⟨q, (T.setVm vm₁).calling g' mk As.toArray, t, U', L, E, ce, hT, X', hL, e1, e2, hq, hce, hcv, vx_cls hW₁ hcl, st⟩
end Runs
section Rows
variable {p : Program} {l : Launch} {e : Env} {R : Room} {s : State} {m : MethodId} {args : Array Value} {below : List Frame} {meth : Method} {c : Code} {H : Heap} {locs : List Loc} {cells slots : Nat} {Q : State → Prop}
variable {mc ms : Nat} {free : Addr → Prop} {A0 A1 : Nat → Prop} {H0 : Heap} {a : Array Value} {pc : Nat} {ls : Array Slot} {st0 rest : List Value}
theorem vx_keep {st₀ t T' : State} {L : List Loc} (h0 : st₀.heap = H) (e1 : T'.heap = t.heap) (hS : va_S A0 H0 H locs) (hA : ∀ q, q < H.size → A1 q → A0 q) (hf : ∀ q, free q → A0 q) (hL : ∀ q ∈ L, free q.base) (hF : va_F A1 st₀ t) :
    H.size ≤ T'.heap.size ∧ (∀ q : Nat, q < H.size → ¬ A1 q → T'.heap[q]? = H[q]?) ∧ va_S A0 H0 T'.heap (locs ++ L) := by
  obtain ⟨hz, hk⟩ := hF
  rw [h0] at hz hk
  exact ⟨by rw [e1]; exact hz, fun q h1 h2 => by rw [e1]; exact hk q h1 h2,
    ⟨Nat.le_trans hS.1 (by rw [e1]; exact hz), fun q h1 h2 => by rw [e1, hk q (Nat.lt_of_lt_of_le h1 hS.1) (fun z => h2 (hA q (Nat.lt_of_lt_of_le h1 hS.1) z))]; exact hS.2.1 q h1 h2, fun q hq => by
      rcases List.mem_append.mp hq with h | h
      · exact hS.2.2 q h
      · exact hf _ (hL q h)⟩⟩
theorem vx_calli {S SX : Type} {post : Int32 → S → Prop} {px : SX → Prop} {B : S → State → Prop} {BX : String → SX → State → Prop} {AX : Nat → Prop} (hr : vx_Run p l e R s m args below meth c H locs cells slots mc ms (F0 m pc ls st0) rest (va_Qi post B A1 a) (vx_X px BX AX) free) (hS : va_S A0 H0 H locs) (hA : ∀ q, q < H.size → A1 q → A0 q) (hf : ∀ q, free q → A0 q) (hAX : ∀ q, q < H.size → AX q → A0 q)
    (kx : ∀ (E : String) (ce : Cell) (q9 : Addr) (u : SX) (t : State) (H1 : Heap) (locs1 : List Loc), t.heap = H1 → s.vm.Alike t.vm → px u → BX E u t → H.size ≤ H1.size → (∀ q : Nat, q < H.size → ¬ AX q → H1[q]? = H[q]?) → va_S A0 H0 H1 locs1 → H1[q9]? = some ce → ce.vm = .none → s.vm.findClass E = some ce.cls → vx_W p l e R s m args below meth c H1 locs1 (cells + mc) (slots + ms) Q (F0 m pc ls rest) q9)
    (kk : ∀ (r : Int32) (u : S) (t : State) (H1 : Heap) (locs1 : List Loc), t.heap = H1 → s.vm.Alike t.vm → post r u → B u t → H.size ≤ H1.size → (∀ q : Nat, q < H.size → ¬ A1 q → H1[q]? = H[q]?) → va_S A0 H0 H1 locs1 → W p l e R s m args below meth c H1 locs1 (cells + mc) (slots + ms) Q (F0 m (pc + 3) ls (.int r :: rest))) : W p l e R s m args below meth c H locs cells slots Q (F0 m pc ls st0) := by
  intro T hT X
  rcases hr T hT X with ⟨v, st₀, t, T', L, h0, X', hL, e1, e2, ⟨⟨r, u, hv, hp, hb⟩, hF⟩, st⟩ | ⟨q, st₀, t, T', L, E, ce, h0, X', hL, e1, e2, ⟨u, hp, hb, hF⟩, hce, hcv, hcl, st⟩
  · cases hv
    obtain ⟨k1, k2, k3⟩ := vx_keep h0 e1 hS hA hf hL hF
    obtain ⟨t2, a1, b1⟩ := kk r u t T'.heap (locs ++ L) e1.symm (by rw [← e2]; exact X'.warmed.alike) hp hb k1 k2 k3 T' rfl X'
    exact ⟨t2, st t2 a1, b1⟩
  · obtain ⟨k1, k2, k3⟩ := vx_keep h0 e1 hS hAX hf hL hF
    obtain ⟨t2, a1, b1⟩ := kx E ce q u t T'.heap (locs ++ L) e1.symm (by rw [← e2]; exact X'.warmed.alike) hp hb k1 k2 k3 (by rw [e1]; exact hce) hcv hcl T' rfl X'
    exact ⟨t2, st.trans a1, b1⟩
theorem vx_calll {S SX : Type} {post : Int64 → S → Prop} {px : SX → Prop} {B : S → State → Prop} {BX : String → SX → State → Prop} {AX : Nat → Prop} (hr : vx_Run p l e R s m args below meth c H locs cells slots mc ms (F0 m pc ls st0) rest (va_Ql post B A1 a) (vx_X px BX AX) free) (hS : va_S A0 H0 H locs) (hA : ∀ q, q < H.size → A1 q → A0 q) (hf : ∀ q, free q → A0 q) (hAX : ∀ q, q < H.size → AX q → A0 q)
    (kx : ∀ (E : String) (ce : Cell) (q9 : Addr) (u : SX) (t : State) (H1 : Heap) (locs1 : List Loc), t.heap = H1 → s.vm.Alike t.vm → px u → BX E u t → H.size ≤ H1.size → (∀ q : Nat, q < H.size → ¬ AX q → H1[q]? = H[q]?) → va_S A0 H0 H1 locs1 → H1[q9]? = some ce → ce.vm = .none → s.vm.findClass E = some ce.cls → vx_W p l e R s m args below meth c H1 locs1 (cells + mc) (slots + ms) Q (F0 m pc ls rest) q9)
    (kk : ∀ (r : Int64) (u : S) (t : State) (H1 : Heap) (locs1 : List Loc), t.heap = H1 → s.vm.Alike t.vm → post r u → B u t → H.size ≤ H1.size → (∀ q : Nat, q < H.size → ¬ A1 q → H1[q]? = H[q]?) → va_S A0 H0 H1 locs1 → W p l e R s m args below meth c H1 locs1 (cells + mc) (slots + ms) Q (F0 m (pc + 3) ls (.long r :: rest))) : W p l e R s m args below meth c H locs cells slots Q (F0 m pc ls st0) := by
  intro T hT X
  rcases hr T hT X with ⟨v, st₀, t, T', L, h0, X', hL, e1, e2, ⟨⟨r, u, hv, hp, hb⟩, hF⟩, st⟩ | ⟨q, st₀, t, T', L, E, ce, h0, X', hL, e1, e2, ⟨u, hp, hb, hF⟩, hce, hcv, hcl, st⟩
  · cases hv
    obtain ⟨k1, k2, k3⟩ := vx_keep h0 e1 hS hA hf hL hF
    obtain ⟨t2, a1, b1⟩ := kk r u t T'.heap (locs ++ L) e1.symm (by rw [← e2]; exact X'.warmed.alike) hp hb k1 k2 k3 T' rfl X'
    exact ⟨t2, st t2 a1, b1⟩
  · obtain ⟨k1, k2, k3⟩ := vx_keep h0 e1 hS hAX hf hL hF
    obtain ⟨t2, a1, b1⟩ := kx E ce q u t T'.heap (locs ++ L) e1.symm (by rw [← e2]; exact X'.warmed.alike) hp hb k1 k2 k3 (by rw [e1]; exact hce) hcv hcl T' rfl X'
    exact ⟨t2, st.trans a1, b1⟩
theorem vx_callf {S SX : Type} {post : UInt32 → S → Prop} {px : SX → Prop} {B : S → State → Prop} {BX : String → SX → State → Prop} {AX : Nat → Prop} (hr : vx_Run p l e R s m args below meth c H locs cells slots mc ms (F0 m pc ls st0) rest (va_Qf post B A1 a) (vx_X px BX AX) free) (hS : va_S A0 H0 H locs) (hA : ∀ q, q < H.size → A1 q → A0 q) (hf : ∀ q, free q → A0 q) (hAX : ∀ q, q < H.size → AX q → A0 q)
    (kx : ∀ (E : String) (ce : Cell) (q9 : Addr) (u : SX) (t : State) (H1 : Heap) (locs1 : List Loc), t.heap = H1 → s.vm.Alike t.vm → px u → BX E u t → H.size ≤ H1.size → (∀ q : Nat, q < H.size → ¬ AX q → H1[q]? = H[q]?) → va_S A0 H0 H1 locs1 → H1[q9]? = some ce → ce.vm = .none → s.vm.findClass E = some ce.cls → vx_W p l e R s m args below meth c H1 locs1 (cells + mc) (slots + ms) Q (F0 m pc ls rest) q9)
    (kk : ∀ (r : UInt32) (u : S) (t : State) (H1 : Heap) (locs1 : List Loc), t.heap = H1 → s.vm.Alike t.vm → post r u → B u t → H.size ≤ H1.size → (∀ q : Nat, q < H.size → ¬ A1 q → H1[q]? = H[q]?) → va_S A0 H0 H1 locs1 → W p l e R s m args below meth c H1 locs1 (cells + mc) (slots + ms) Q (F0 m (pc + 3) ls (.float r :: rest))) : W p l e R s m args below meth c H locs cells slots Q (F0 m pc ls st0) := by
  intro T hT X
  rcases hr T hT X with ⟨v, st₀, t, T', L, h0, X', hL, e1, e2, ⟨⟨r, u, hv, hp, hb⟩, hF⟩, st⟩ | ⟨q, st₀, t, T', L, E, ce, h0, X', hL, e1, e2, ⟨u, hp, hb, hF⟩, hce, hcv, hcl, st⟩
  · cases hv
    obtain ⟨k1, k2, k3⟩ := vx_keep h0 e1 hS hA hf hL hF
    obtain ⟨t2, a1, b1⟩ := kk r u t T'.heap (locs ++ L) e1.symm (by rw [← e2]; exact X'.warmed.alike) hp hb k1 k2 k3 T' rfl X'
    exact ⟨t2, st t2 a1, b1⟩
  · obtain ⟨k1, k2, k3⟩ := vx_keep h0 e1 hS hAX hf hL hF
    obtain ⟨t2, a1, b1⟩ := kx E ce q u t T'.heap (locs ++ L) e1.symm (by rw [← e2]; exact X'.warmed.alike) hp hb k1 k2 k3 (by rw [e1]; exact hce) hcv hcl T' rfl X'
    exact ⟨t2, st.trans a1, b1⟩
theorem vx_calld {S SX : Type} {post : UInt64 → S → Prop} {px : SX → Prop} {B : S → State → Prop} {BX : String → SX → State → Prop} {AX : Nat → Prop} (hr : vx_Run p l e R s m args below meth c H locs cells slots mc ms (F0 m pc ls st0) rest (va_Qd post B A1 a) (vx_X px BX AX) free) (hS : va_S A0 H0 H locs) (hA : ∀ q, q < H.size → A1 q → A0 q) (hf : ∀ q, free q → A0 q) (hAX : ∀ q, q < H.size → AX q → A0 q)
    (kx : ∀ (E : String) (ce : Cell) (q9 : Addr) (u : SX) (t : State) (H1 : Heap) (locs1 : List Loc), t.heap = H1 → s.vm.Alike t.vm → px u → BX E u t → H.size ≤ H1.size → (∀ q : Nat, q < H.size → ¬ AX q → H1[q]? = H[q]?) → va_S A0 H0 H1 locs1 → H1[q9]? = some ce → ce.vm = .none → s.vm.findClass E = some ce.cls → vx_W p l e R s m args below meth c H1 locs1 (cells + mc) (slots + ms) Q (F0 m pc ls rest) q9)
    (kk : ∀ (r : UInt64) (u : S) (t : State) (H1 : Heap) (locs1 : List Loc), t.heap = H1 → s.vm.Alike t.vm → post r u → B u t → H.size ≤ H1.size → (∀ q : Nat, q < H.size → ¬ A1 q → H1[q]? = H[q]?) → va_S A0 H0 H1 locs1 → W p l e R s m args below meth c H1 locs1 (cells + mc) (slots + ms) Q (F0 m (pc + 3) ls (.double r :: rest))) : W p l e R s m args below meth c H locs cells slots Q (F0 m pc ls st0) := by
  intro T hT X
  rcases hr T hT X with ⟨v, st₀, t, T', L, h0, X', hL, e1, e2, ⟨⟨r, u, hv, hp, hb⟩, hF⟩, st⟩ | ⟨q, st₀, t, T', L, E, ce, h0, X', hL, e1, e2, ⟨u, hp, hb, hF⟩, hce, hcv, hcl, st⟩
  · cases hv
    obtain ⟨k1, k2, k3⟩ := vx_keep h0 e1 hS hA hf hL hF
    obtain ⟨t2, a1, b1⟩ := kk r u t T'.heap (locs ++ L) e1.symm (by rw [← e2]; exact X'.warmed.alike) hp hb k1 k2 k3 T' rfl X'
    exact ⟨t2, st t2 a1, b1⟩
  · obtain ⟨k1, k2, k3⟩ := vx_keep h0 e1 hS hAX hf hL hF
    obtain ⟨t2, a1, b1⟩ := kx E ce q u t T'.heap (locs ++ L) e1.symm (by rw [← e2]; exact X'.warmed.alike) hp hb k1 k2 k3 (by rw [e1]; exact hce) hcv hcl T' rfl X'
    exact ⟨t2, st.trans a1, b1⟩
theorem vx_callv {S SX : Type} {post : S → Prop} {px : SX → Prop} {B : S → State → Prop} {BX : String → SX → State → Prop} {AX : Nat → Prop} (hr : vx_Run p l e R s m args below meth c H locs cells slots mc ms (F0 m pc ls st0) rest (va_Qv post B A1 a) (vx_X px BX AX) free) (hS : va_S A0 H0 H locs) (hA : ∀ q, q < H.size → A1 q → A0 q) (hf : ∀ q, free q → A0 q) (hAX : ∀ q, q < H.size → AX q → A0 q)
    (kx : ∀ (E : String) (ce : Cell) (q9 : Addr) (u : SX) (t : State) (H1 : Heap) (locs1 : List Loc), t.heap = H1 → s.vm.Alike t.vm → px u → BX E u t → H.size ≤ H1.size → (∀ q : Nat, q < H.size → ¬ AX q → H1[q]? = H[q]?) → va_S A0 H0 H1 locs1 → H1[q9]? = some ce → ce.vm = .none → s.vm.findClass E = some ce.cls → vx_W p l e R s m args below meth c H1 locs1 (cells + mc) (slots + ms) Q (F0 m pc ls rest) q9)
    (kk : ∀ (u : S) (t : State) (H1 : Heap) (locs1 : List Loc), t.heap = H1 → s.vm.Alike t.vm → post u → B u t → H.size ≤ H1.size → (∀ q : Nat, q < H.size → ¬ A1 q → H1[q]? = H[q]?) → va_S A0 H0 H1 locs1 → W p l e R s m args below meth c H1 locs1 (cells + mc) (slots + ms) Q (F0 m (pc + 3) ls (rest))) : W p l e R s m args below meth c H locs cells slots Q (F0 m pc ls st0) := by
  intro T hT X
  rcases hr T hT X with ⟨v, st₀, t, T', L, h0, X', hL, e1, e2, ⟨⟨u, hv, hp, hb⟩, hF⟩, st⟩ | ⟨q, st₀, t, T', L, E, ce, h0, X', hL, e1, e2, ⟨u, hp, hb, hF⟩, hce, hcv, hcl, st⟩
  · cases hv
    obtain ⟨k1, k2, k3⟩ := vx_keep h0 e1 hS hA hf hL hF
    obtain ⟨t2, a1, b1⟩ := kk u t T'.heap (locs ++ L) e1.symm (by rw [← e2]; exact X'.warmed.alike) hp hb k1 k2 k3 T' rfl X'
    exact ⟨t2, st t2 a1, b1⟩
  · obtain ⟨k1, k2, k3⟩ := vx_keep h0 e1 hS hAX hf hL hF
    obtain ⟨t2, a1, b1⟩ := kx E ce q u t T'.heap (locs ++ L) e1.symm (by rw [← e2]; exact X'.warmed.alike) hp hb k1 k2 k3 (by rw [e1]; exact hce) hcv hcl T' rfl X'
    exact ⟨t2, st.trans a1, b1⟩
/-- caught by the row x of this method's table; the rows ahead don't take it -/
theorem vx_catch {own name : String} {E : String} {ce : Cell} {q : Addr} (hown : s.vm.findClass own = some m.cls) (pre : List ExceptionTableEntry) (x : ExceptionTableEntry) (suf : List ExceptionTableEntry) (hsplit : c.exceptionTable.toList = pre ++ x :: suf)
    (hpass : ∀ z ∈ pre, covers z pc = false ∨ (z.catchType ≠ 0 ∧ ∃ nm : String, (Cond.classLink own z.catchType nm).before args s = true ∧ va_Nc E nm s)) (hx : covers x pc = true) (h0 : x.catchType ≠ 0)
    (hlink : (Cond.classLink own x.catchType name).before args s = true) (hcast : (Cond.castable E name).before args s = true) (hcell : H[q]? = some ce) (hv : ce.vm = .none) (hcl : s.vm.findClass E = some ce.cls)
    (kk : W p l e R s m args below meth c H locs cells slots Q (F0 m x.handlerPc ls [.ref q])) : vx_W p l e R s m args below meth c H locs cells slots Q (F0 m pc ls rest) q := by
  intro T hT X
  have hpl : e.platform.magicAccessors = ({} : Platform).magicAccessors := by rw [X.admits.platform]
  obtain ⟨c3, c4, hc3, hc4, hasg⟩ := Cond.castable_spec hcast
  cases Option.some.inj (hc3.symm.trans hcl)
  obtain ⟨c5, hc5, hcl5⟩ := Cond.classLink_spec hown hlink e.platform hpl
  cases Option.some.inj (hc4.symm.trans hc5)
  obtain ⟨vm', X', st⟩ := X.thenCaughtThrough q (g := F0 m pc ls rest) rfl (Steps.refl _) (by rw [hT]; exact hcell) (by rw [hv]; rfl) (by obtain ⟨k9, h9, -⟩ := Vm.findClass_spec hcl; exact ⟨k9, h9⟩) pre x suf hsplit
    (fun z hz => by
      rcases hpass z hz with h | ⟨hz0, nm, hl1, hn1⟩
      · exact Or.inl h
      · obtain ⟨c6, hc6, hcl6⟩ := Cond.classLink_spec hown hl1 e.platform hpl
        obtain ⟨a8, b8, h1, h2, h3⟩ := hn1
        cases Option.some.inj (h1.symm.trans hcl)
        cases Option.some.inj (h2.symm.trans hc6)
        exact Or.inr ⟨hz0, _, hcl6, h3⟩) hx (Or.inr ⟨h0, c4, hcl5, hasg⟩)
  obtain ⟨t, a1, b1⟩ := kk (T.setVm vm') hT X'
  exact ⟨t, st.trans a1, b1⟩
end Rows
section Ends
variable {p : Program} {l : Launch} {e : Env} {R : Room} {s : State} {m : MethodId} {args : Array Value} {below : List Frame} {meth : Method} {c : Code} {H : Heap} {locs : List Loc} {cells slots : Nat} {Q : State → Prop}
variable {mc ms : Nat} {free : Addr → Prop} {A0 A1 : Nat → Prop} {H0 : Heap} {a : Array Value} {ls : Array Slot} {st0 rest : List Value}
variable {Qc : Array Value → State → Outcome → State → Prop} {XC : String → State → State → Prop}
/-- what a body that may throw owes at its end -/
def vx_MQ (below : List Frame) (Qc : Array Value → State → Outcome → State → Prop) (XC : String → State → State → Prop) (a : Array Value) (s : State) (mc ms : Nat) (free : Addr → Prop) : State → Prop := fun t =>
  ∃ o, t.status = .running ∧ Ended t below o ∧ vx_Q Qc XC mc ms free a s o t
theorem vx_ret {g : JFrame} {mc ms : Nat} (k : W p l e R s m args below meth c H locs cells slots (MQ below Qc args s mc ms free) g) : W p l e R s m args below meth c H locs cells slots (vx_MQ below Qc XC args s mc ms free) g := by
  intro T hT X
  obtain ⟨t, a1, o, b1, b2, b3, b4⟩ := k T hT X
  exact ⟨t, a1, o, b1, b2, Or.inl ⟨b3, b4⟩⟩
/-- not caught here: it goes on to the caller -/
theorem vx_widen {g : JFrame} {q : Addr} {k n : Nat} (h1 : cells ≤ k) (h2 : slots ≤ n) (kk : vx_W p l e R s m args below meth c H locs k n Q g q) : vx_W p l e R s m args below meth c H locs cells slots Q g q := fun T hT X => kk T hT (stand_widen X h1 h2)
theorem vx_out {pc : Nat} {E : String} {ce : Cell} {q : Addr} {mc ms : Nat} (hout : ∀ x ∈ c.exceptionTable.toList, covers x pc = false) (hlocks : meth.locks = false) (hcell : H[q]? = some ce) (hv : ce.vm = .none) (hcl : s.vm.findClass E = some ce.cls)
    (hx : ∀ t : State, t.heap = H → s.vm.Alike t.vm → XC E s t) (hf : ∀ z ∈ locs, free z.base) (hc : cells ≤ mc) (hs : slots ≤ ms) :
    vx_W p l e R s m args below meth c H locs cells slots (vx_MQ below Qc XC args s mc ms free) (F0 m pc ls rest) q := by
  intro T hT X
  obtain ⟨st1, hrun, hend, hW, hsm⟩ := X.leaveThrown q (g := F0 m pc ls rest) rfl rfl rfl hout hlocks
  have hcell9 : (T.setFrames (.throwing q :: below)).heap[q]? = some ce := by
    show T.heap[q]? = some ce
    rw [hT]; exact hcell
  exact ⟨_, st1, .threw q, hrun, hend, Or.inr ⟨q, rfl, E, ce, locs, hx _ hT hW.alike, hcell9, hv, hcl, hW, hsm.mono hc hs, hf⟩⟩
theorem vx_frame {U : State} {k n : Nat} (h : s.sameButNew ({ U with vm := s.vm } : State) locs k n) : s.heap.size ≤ U.heap.size ∧ ∀ q : Nat, q < s.heap.size → (∀ z ∈ locs, z.base ≠ q) → U.heap[q]? = s.heap[q]? := by
  obtain ⟨-, h2, -, -, -, h6⟩ := h
  refine ⟨h2, fun q hq hz => ?_⟩
  obtain ⟨c9, e1, e2, e3, e4⟩ := h6 q _ (Array.getElem?_eq_getElem hq)
  have hs : c9.slots = (s.heap[q]).slots := Array.ext_getElem? fun i => e4 i fun hm => hz _ hm rfl
  have h9 : c9 = s.heap[q] := by
    rw [hs] at e2
    exact e2
  have e5 : U.heap[q]? = some c9 := e1
  rw [e5, h9, Array.getElem?_eq_getElem hq]
/-- the words of a throw but the four that speak of the heap -/
def vx_no (w : Cond) : Bool := decide (w ≠ .isRef (.static Bundle.tN "UNASSIGNED_STACK" Bundle.steD)) && decide (w ≠ .isRef (.static Bundle.tN "SUPPRESSED_SENTINEL" Bundle.listD)) && decide (w ≠ .laysStatic Bundle.tN "UNASSIGNED_STACK" Bundle.steD) && decide (w ≠ .laysStatic Bundle.tN "SUPPRESSED_SENTINEL" Bundle.listD)
def vx_at0 (own : String) (ic : Nat) (X : String) (names : List String) : List Cond := (Bundle.ownAtoms0 own ic X names).filter vx_no
def vx_atS (own : String) (ic : Nat) (X : String) (names : List String) : List Cond := (Bundle.ownAtoms own ic X names).filter vx_no
/-- a word that the tables alone decide, or a good one -/
def vx_ot (w : Cond) : Bool := w.onTables || goodWord w
theorem vx_ot_at {args a' : Array Value} {s U : State} {w : Cond} (hW : s.WarmedH U.vm) (hvm : s.vm = U.vm) (hg : vx_ot w = true) (h : w.before args s = true) : w.before a' U = true := by
  simp only [vx_ot, Bool.or_eq_true] at hg
  rcases hg with hg | hg
  · exact va_tabs hg hvm h
  · exact word_at hW (good_of_word hg) h
/-- a list's words: the good ones out of the method's own list, the others by premises of their own -/
theorem vx_hat {args : Array Value} {s : State} {L B : List Cond} (h1 : ∀ w ∈ L.filter goodWord, w.before args s = true) (h2 : ∀ w ∈ L.filter (fun w => !goodWord w), w ∈ B) (h3 : ∀ w ∈ B, w.before args s = true) : ∀ w ∈ L, w.before args s = true := by
  intro w hw
  by_cases g : goodWord w = true
  · exact h1 w (List.mem_filter.mpr ⟨hw, g⟩)
  · refine h3 w (h2 w (List.mem_filter.mpr ⟨hw, ?_⟩))
    show (!goodWord w) = true
    cases hgw : goodWord w
    · rfl
    · exact absurd hgw g
theorem vx_c {args : Array Value} {s : State} {w : Cond} {B : List Cond} (h : w.before args s = true) (t : ∀ w ∈ B, w.before args s = true) : ∀ w' ∈ w :: B, w'.before args s = true := fun w' h' => (List.mem_cons.mp h').elim (fun e => by rw [e]; exact h) (t w')
theorem vx_n {args : Array Value} {s : State} : ∀ w ∈ ([] : List Cond), w.before args s = true := fun _ h => nomatch h
theorem vx_own {args : Array Value} {s : State} {L : List Cond} (h1 : ∀ w ∈ L.filter vx_no, w.before args s = true)
    (hU : (Cond.isRef (.static Bundle.tN "UNASSIGNED_STACK" Bundle.steD)).before args s = true) (hN : (Cond.isRef (.static Bundle.tN "SUPPRESSED_SENTINEL" Bundle.listD)).before args s = true)
    (lU : (Cond.laysStatic Bundle.tN "UNASSIGNED_STACK" Bundle.steD).before args s = true) (lN : (Cond.laysStatic Bundle.tN "SUPPRESSED_SENTINEL" Bundle.listD).before args s = true) : ∀ w ∈ L, w.before args s = true := by
  intro w hw
  by_cases e1 : w = .isRef (.static Bundle.tN "UNASSIGNED_STACK" Bundle.steD)
  · rw [e1]; exact hU
  · by_cases e2 : w = .isRef (.static Bundle.tN "SUPPRESSED_SENTINEL" Bundle.listD)
    · rw [e2]; exact hN
    · by_cases e3 : w = .laysStatic Bundle.tN "UNASSIGNED_STACK" Bundle.steD
      · rw [e3]; exact lU
      · by_cases e4 : w = .laysStatic Bundle.tN "SUPPRESSED_SENTINEL" Bundle.listD
        · rw [e4]; exact lN
        · exact h1 w (List.mem_filter.mpr ⟨hw, by unfold vx_no; rw [decide_eq_true e1, decide_eq_true e2, decide_eq_true e3, decide_eq_true e4]; rfl⟩)
/-- where a static field lies, its class's statics cell in H -/
def vx_L (C n d : String) (A : Nat → Prop) (U : State) (H : Heap) : Prop := ∃ (c : ClassId) (k : Class) (i : Nat) (f : Field) (a : Nat) (cell : Cell), U.vm.findClass C = some c ∧ U.fieldFound? C n d = some (c, k, i, f) ∧ f.isStatic = true ∧ k.statics = some a ∧ H[a]? = some cell ∧ cell.vm.isStatics = true ∧ cell.cls = c ∧ f.slot < cell.slots.size ∧ k.staticTypes[f.slot]? = some f.type ∧ ¬ A a
theorem vx_L.moved {C n d : String} {A : Nat → Prop} {u U : State} {H : Heap} (hvm : u.vm.Alike U.vm) (h : vx_L C n d A u H) : vx_L C n d A U H := by
  obtain ⟨c, k, i, f, a, cell, h1, h2, h3, h4, h5, h6, h7, h8, h9, h10⟩ := h
  obtain ⟨k', hi', he⟩ := State.fieldFound?_setVm hvm h2
  exact ⟨c, k', i, f, a, cell, by rw [hvm.findClass]; exact h1, hi', h3, by rw [he]; exact h4, h5, h6, h7, h8, by rw [he]; exact h9, h10⟩
theorem vx_L.kept {C n d : String} {A : Nat → Prop} {U : State} {H H1 : Heap} (h : vx_L C n d A U H) (hq : ∀ a : Nat, a < H.size → ¬ A a → H1[a]? = H[a]?) : vx_L C n d A U H1 := by
  obtain ⟨c, k, i, f, a, cell, h1, h2, h3, h4, h5, h6, h7, h8, h9, h10⟩ := h
  exact ⟨c, k, i, f, a, cell, h1, h2, h3, h4, by rw [hq a (Array.getElem?_eq_some_iff.mp h5).1 h10]; exact h5, h6, h7, h8, h9, h10⟩
theorem vx_L.narrow {C n d : String} {A B : Nat → Prop} {U : State} {H : Heap} (h : vx_L C n d A U H) (hAB : ∀ q, B q → A q) : vx_L C n d B U H := by
  obtain ⟨c, k, i, f, a, cell, h1, h2, h3, h4, h5, h6, h7, h8, h9, h10⟩ := h
  exact ⟨c, k, i, f, a, cell, h1, h2, h3, h4, h5, h6, h7, h8, h9, fun z => h10 (hAB _ z)⟩
theorem vx_L.word {C n d : String} {A : Nat → Prop} {s : State} {args : Array Value} (h : vx_L C n d A s s.heap) : (Cond.laysStatic C n d).before args s = true := by
  obtain ⟨c, k, i, f, a, cell, h1, h2, h3, h4, h5, h6, h7, h8, h9, -⟩ := h
  show (Cond.laysStatic C n d).holds args s none s [] = true
  exact Cond.laysStatic_of h1 h2 h3 h4 h5 h6 h7 h8 h9
/-- .. and what it holds: null or some reference -/
def vx_Zq (C n d : String) (A : Nat → Prop) (U : State) (H : Heap) : Prop := va_Zq C n d A U H ∧ vx_L C n d A U H
theorem vx_Zq.moved {C n d : String} {A : Nat → Prop} {u U : State} {H : Heap} (hvm : u.vm.Alike U.vm) (h : vx_Zq C n d A u H) : vx_Zq C n d A U H := ⟨va_Zq.moved hvm h.1, vx_L.moved hvm h.2⟩
theorem vx_Zq.kept {C n d : String} {A : Nat → Prop} {U : State} {H H1 : Heap} (h : vx_Zq C n d A U H) (hq : ∀ a : Nat, a < H.size → ¬ A a → H1[a]? = H[a]?) : vx_Zq C n d A U H1 := ⟨va_Zq.kept h.1 hq, vx_L.kept h.2 hq⟩
theorem vx_Zq.narrow {C n d : String} {A B : Nat → Prop} {U : State} {H : Heap} (h : vx_Zq C n d A U H) (hAB : ∀ q, B q → A q) : vx_Zq C n d B U H := ⟨va_Zq.narrow h.1 hAB, vx_L.narrow h.2 hAB⟩
theorem vx_Zqof {args : Array Value} {s : State} {C n d : String} {A : Nat → Prop} (hl : (Cond.laysStatic C n d).before args s = true) (hini : (Cond.initialized C).before args s = true) (h : (Cond.isRef (.static C n d)).before args s = true) (hA : ∀ a : Nat, a < s.heap.size → ¬ A a) : vx_Zq C n d A s s.heap := by
  refine ⟨va_Zqof hl hini h hA, ?_⟩
  obtain ⟨c, k, i, f, a, cell, h1, h2, h3, h4, h5, h6, h7, h8, h9⟩ := Cond.laysStatic_spec hl
  exact ⟨c, k, i, f, a, cell, h1, h2, h3, h4, h5, h6, h7, h8, h9, hA a (Array.getElem?_eq_some_iff.mp h5).1⟩
theorem vx_isRef {C n d : String} {v : Value} {A : Nat → Prop} {s : State} {args : Array Value} (h : va_Z C n d v A s s.heap) (hv : v.isRef = true) : (Cond.isRef (.static C n d)).before args s = true := by
  obtain ⟨cf, kf, fi, f, a, cell, h1, h2, h3, h4, h5, h6, h7, -⟩ := h
  have he : (Term.static C n d).eval args s none [] s = some v := by
    simp [Term.eval, State.fieldNamed?, h1, h2, h4, h5, h6, h7]
  simp only [Cond.before, Cond.holds, Cond.value, he]
  cases v <;> simp_all [Value.isRef]
theorem vx_isRefq {C n d : String} {A : Nat → Prop} {s : State} {args : Array Value} (h : va_Zq C n d A s s.heap) : (Cond.isRef (.static C n d)).before args s = true := by
  rcases h with h | ⟨t, h⟩
  · exact vx_isRef h rfl
  · exact vx_isRef h rfl
/-- the same frame, seen from here: as if the method were called anew in this heap -/
theorem vx_rebase {T : State} (X : Stand p l e R s m args below meth c T locs cells slots) {R' : Room} (hf : R'.frames ≤ R.frames) (hl : R'.locals ≤ R.locals) (hc : cells + R'.cells ≤ R.cells) (hs : slots + R'.slots ≤ R.slots) :
    Stand p l e R' ((T.setVm s.vm).setFrames (.invoking m args :: below)) m args below meth c T [] 0 0 := by
  have htop : (T.setVm s.vm).topJava?.isSome := X.here.top
  have hF : ((T.setVm s.vm).setFrames (.invoking m args :: below)).frames = .invoking m args :: below := State.frames_setFrames _ (State.cur_lt_of_top htop)
  obtain ⟨g₀, hg0⟩ := Option.isSome_iff_exists.mp htop
  obtain ⟨r, hr⟩ := State.topJava?_eq_some.mp hg0
  have hl9 : e.platform.stackLimits (T.setVm s.vm).me = e.platform.stackLimits s.me := X.limits
  have hb9 : (T.setVm s.vm).me.stackBytes = s.me.stackBytes := X.bytes
  refine ⟨X.admits, X.cas, X.clock, hF, ?_, X.hears, X.method, X.code, X.here, X.tail, X.warmed, ?_, ?_, ?_⟩
  · have h := X.room
    have hU : ((T.setVm s.vm).setFrames (.invoking m args :: below)).localsInUse = s.localsInUse := by
      rw [State.localsInUse_invoking hF (meth := meth) (c := c) X.method X.code, State.localsInUse_invoking X.frames X.method X.code]
    simp only [State.hasRoom, Bool.and_eq_true, decide_eq_true_eq] at h ⊢
    obtain ⟨⟨⟨⟨h1, h2, h3, h4, h5, h6⟩, h7⟩, h8⟩, h9⟩ := h
    rw [X.frames, List.length_cons] at h2 h3
    have q1 := X.heapSize
    have q2 := X.used
    simp only [hF, hU, List.length_cons, State.stackLimits_setFrames, State.stackBytes_setFrames, hl9, hb9]
    refine ⟨⟨⟨⟨by omega, by omega, by omega, by omega, by omega, h6⟩, ?_⟩, ?_⟩, X.book⟩
    · show T.heap.size + R'.cells ≤ e.platform.maxCells
      omega
    · show T.slotsUsed + R'.slots ≤ e.platform.maxSlots
      omega
  · rw [State.stackLimits_setFrames]; rfl
  · rw [State.stackBytes_setFrames]; rfl
  · refine ⟨?_, Nat.le_refl _, Nat.le_refl _, ?_, ?_, fun a c9 h9 => ⟨c9, h9, rfl, rfl, fun _ _ => rfl⟩⟩
    · obtain ⟨t, ht, -⟩ := State.frames_cons hr
      show T.setVm s.vm = { ((T.setVm s.vm).setFrames (.invoking m args :: below)).setFrames (T.setVm s.vm).frames with heap := T.heap, slotsUsed := T.slotsUsed }
      rw [State.setFrames_setFrames, State.setFrames_self ht]
      rfl
    · show T.slotsUsed = T.slotsUsed + ((T.heap.toList.drop T.heap.size).map (·.slots.size)).sum
      rw [List.drop_eq_nil_of_le (Nat.le_of_eq Array.length_toList)]
      rfl
    · show ((T.heap.toList.drop T.heap.size).map (·.slots.size)).sum ≤ 0
      rw [List.drop_eq_nil_of_le (Nat.le_of_eq Array.length_toList)]
      exact Nat.le_refl _
/-- 'throw new E()': new; dup; invokespecial; athrow -/
theorem vx_throw0 {cc : ByteArray} {pc : Nat} (hexec : p.tables.exec = Jvm.exec) (hb : c.code = cc) (hl : l.stackTraces = false) {own cls : String} {names : List String} {ik ic mc ms : Nat} {A : Nat → Prop}
    (hown : s.vm.findClass own = some m.cls) (hcls : Bundle.fit cls = true) (hnames : ∀ n ∈ names, Bundle.fit n = true)
    (hk : (Cond.classLink own ik cls).before args s = true) (hini : (Cond.initialized cls).before args s = true) (hat : ∀ w ∈ vx_at0 own ic cls names, w.before args s = true)
    (hgood : ∀ w ∈ Cond.classLink own ik cls :: Cond.initialized cls :: vx_at0 own ic cls names, vx_ot w = true)
    (hU : vx_Zq Bundle.tN "UNASSIGNED_STACK" Bundle.steD A s s.heap) (hN : vx_Zq Bundle.tN "SUPPRESSED_SENTINEL" Bundle.listD A s s.heap) (hS : va_S A s.heap H locs) (hsize : ls.size = c.maxLocals)
    (d0 : decode cc pc = .ok (.new ik, 3)) (d3 : decode cc (pc + 3) = .ok (.dup, 1)) (d4 : decode cc (pc + 4) = .ok (.invokespecial ic, 3)) (d7 : decode cc (pc + 7) = .ok (.athrow, 1))
    (hout : ∀ x ∈ c.exceptionTable.toList, covers x (pc + 7) = false)
    (hRframes : names.length + 3 < R.frames) (hRlocals : (rest.map fun v => v.category).sum + (13 * (names.length + 1) + 42) ≤ R.locals) (hRcells : cells + 1 ≤ R.cells) (hRslots : slots + 6 ≤ R.slots) (hlocks : meth.locks = false)
    (hx : ∀ t : State, s.vm.Alike t.vm → H.size ≤ t.heap.size → (∀ q : Nat, q < H.size → t.heap[q]? = H[q]?) → XC cls s t)
    (hf : ∀ z ∈ locs, free z.base) (hc : cells + 1 ≤ mc) (hs : slots + 6 ≤ ms) :
    W p l e R s m args below meth c H locs cells slots (vx_MQ below Qc XC args s mc ms free) (F0 m pc ls rest) := by
  intro T hT X
  have htr : e.platform.stackTraces = false := (show e.platform.stackTraces = l.stackTraces by rw [X.admits.platform]).trans hl
  have Y := vx_rebase X (R' := { frames := R.frames, locals := R.locals, cells := 1, slots := 6 }) (Nat.le_refl _) (Nat.le_refl _) hRcells hRslots
  obtain ⟨s', hA⟩ : ∃ z, z = (T.setVm s.vm).setFrames (.invoking m args :: below) := ⟨_, rfl⟩
  rw [← hA] at Y
  have hvm : s'.vm = s.vm := by rw [hA]; rfl
  have hhp : s'.heap = H := by rw [hA]; exact hT
  have hW0 : s.WarmedH s'.vm := by rw [hvm]; exact State.WarmedH.refl s
  have hat' : ∀ w ∈ vx_at0 own ic cls names, w.before args s' = true := fun w hw => vx_ot_at hW0 hvm.symm (hgood w (List.mem_cons_of_mem _ (List.mem_cons_of_mem _ hw))) (hat w hw)
  have hk' : (Cond.classLink own ik cls).before args s' = true := vx_ot_at hW0 hvm.symm (hgood _ List.mem_cons_self) hk
  have hini' : (Cond.initialized cls).before args s' = true := vx_ot_at hW0 hvm.symm (hgood _ (List.mem_cons_of_mem _ List.mem_cons_self)) hini
  have hU' : vx_Zq Bundle.tN "UNASSIGNED_STACK" Bundle.steD A s' s'.heap := by rw [hhp]; exact vx_Zq.moved hW0.alike (hU.kept hS.2.1)
  have hN' : vx_Zq Bundle.tN "SUPPRESSED_SENTINEL" Bundle.listD A s' s'.heap := by rw [hhp]; exact vx_Zq.moved hW0.alike (hN.kept hS.2.1)
  have h : ∀ w ∈ Bundle.ownAtoms0 own ic cls names, w.before args s' = true := vx_own hat' (vx_isRefq hU'.1) (vx_isRefq hN'.1) hU'.2.word hN'.2.word
  have hown' : s'.vm.findClass own = some m.cls := by rw [hvm]; exact hown
  have hins : (Cond.instantiable cls 6).before args s' = true := h _ (by simp [Bundle.ownAtoms0])
  obtain ⟨vm₁, cX, kX, hfX, hkX, -, -, X₁, st1⟩ := Y.newCold hexec (own := own) (C := cls) (index := ik) (n := 6) hown' hk' hins hini'
    (g := F0 m pc ls rest) rfl (by rw [hb]; exact d0) (Nat.le_refl _) (Nat.le_refl _)
  generalize hT1 : (T.setVm vm₁).pushCell { cls := cX, slots := kX.instanceTypes.map defaultValue, vm := .none } = T1 at X₁ st1
  have hcat : (Value.ref T.heap.size).category = 1 := rfl
  have hcellA : T1.heap[T.heap.size]? = some (freshCell cX kX) := by rw [← hT1]; exact State.heap_pushCell_size _ _
  have d3' : decode c.code (pc + 3) = .ok (.dup, 1) := by rw [hb]; exact d3
  obtain ⟨U, hsteps, hrun, hend, hW, hsame, ce, hce, hO⟩ := X₁.ctorThrow0 hexec htr (own := own) (cls := cls) (names := names) (ic := ic) hown' hcls hnames h (fun x hx => nomatch hx) hfX hkX hcellA (by rw [hhp, hT]; exact Nat.le_refl _)
    (g := { method := m, pc := pc + 4, locals := ls, stack := .ref T.heap.size :: .ref T.heap.size :: rest, locked := none }) rfl hsize rfl rfl (rest := rest) rfl
    (by rw [hb]; exact d4) (by rw [hb]; exact d7) hout hRframes (by simp only [List.map_cons, List.sum_cons, hcat]; omega) hlocks
  obtain ⟨f1, f2⟩ := vx_frame hsame
  rw [hhp] at f1 f2
  have hWs : s.WarmedH U.vm := State.WarmedH.trans hW0 hW
  have hcl : s.vm.findClass cls = some ce.cls := by
    have h9 := hO.cls
    rw [hvm] at h9
    exact h9
  have hall : s.sameButNew ({ U with vm := s.vm } : State) locs mc ms := by
    subst hA
    obtain ⟨e1, e2⟩ := hsame
    rw [State.setFrames_setFrames] at e1
    have h2 : (T.setVm s.vm).sameButNew ({ U with vm := s.vm } : State) [] (0 + 1) (0 + 6) := ⟨e1, e2⟩
    have h3 := X.same.trans h2
    rw [List.append_nil] at h3
    exact h3.mono hc hs
  refine ⟨U, ?_, .threw T.heap.size, hrun, hend, Or.inr ⟨T.heap.size, rfl, cls, ce, locs, hx U hWs.alike f1 (fun q hq => f2 q hq (fun z hz => nomatch hz)), hce, hO.vm, hcl, hWs, hall, hf⟩⟩
  refine st1 _ ?_
  show Steps p.tables e below (T1.setTop { method := m, pc := pc + 3, locals := ls, stack := .ref T.heap.size :: rest, locked := none }) _
  jvm_step X₁.here [X₁.here.top, hexec, d3', Value.category]
  exact hsteps
/-- 'throw new E("text")': new; dup; ldc; invokespecial; athrow -/
theorem vx_throwS {cc : ByteArray} {pc : Nat} (hexec : p.tables.exec = Jvm.exec) (hb : c.code = cc) (hl : l.stackTraces = false) {own cls text : String} {names : List String} {ik is ic mc ms sa : Nat} {A : Nat → Prop}
    (hown : s.vm.findClass own = some m.cls) (hcls : Bundle.fit cls = true) (hnames : ∀ n ∈ names, Bundle.fit n = true)
    (hk : (Cond.classLink own ik cls).before args s = true) (hini : (Cond.initialized cls).before args s = true) (hstr : vk_R own is text sa s) (hat : ∀ w ∈ vx_atS own ic cls names, w.before args s = true)
    (hgood : ∀ w ∈ Cond.classLink own ik cls :: Cond.initialized cls :: vx_atS own ic cls names, vx_ot w = true)
    (hU : vx_Zq Bundle.tN "UNASSIGNED_STACK" Bundle.steD A s s.heap) (hN : vx_Zq Bundle.tN "SUPPRESSED_SENTINEL" Bundle.listD A s s.heap) (hS : va_S A s.heap H locs) (hsize : ls.size = c.maxLocals)
    (d0 : decode cc pc = .ok (.new ik, 3)) (d3 : decode cc (pc + 3) = .ok (.dup, 1)) (d4 : decode cc (pc + 4) = .ok (.ldc is, 2)) (d6 : decode cc (pc + 6) = .ok (.invokespecial ic, 3)) (d9 : decode cc (pc + 9) = .ok (.athrow, 1))
    (hout : ∀ x ∈ c.exceptionTable.toList, covers x (pc + 9) = false)
    (hRframes : names.length + 3 < R.frames) (hRlocals : (rest.map fun v => v.category).sum + (13 * (names.length + 1) + 43) ≤ R.locals) (hRcells : cells + 1 ≤ R.cells) (hRslots : slots + 6 ≤ R.slots) (hlocks : meth.locks = false)
    (hx : ∀ t : State, s.vm.Alike t.vm → H.size ≤ t.heap.size → (∀ q : Nat, q < H.size → t.heap[q]? = H[q]?) → XC cls s t)
    (hf : ∀ z ∈ locs, free z.base) (hc : cells + 1 ≤ mc) (hs : slots + 6 ≤ ms) :
    W p l e R s m args below meth c H locs cells slots (vx_MQ below Qc XC args s mc ms free) (F0 m pc ls rest) := by
  intro T hT X
  have htr : e.platform.stackTraces = false := (show e.platform.stackTraces = l.stackTraces by rw [X.admits.platform]).trans hl
  have Y := vx_rebase X (R' := { frames := R.frames, locals := R.locals, cells := 1, slots := 6 }) (Nat.le_refl _) (Nat.le_refl _) hRcells hRslots
  obtain ⟨s', hA⟩ : ∃ z, z = (T.setVm s.vm).setFrames (.invoking m args :: below) := ⟨_, rfl⟩
  rw [← hA] at Y
  have hvm : s'.vm = s.vm := by rw [hA]; rfl
  have hhp : s'.heap = H := by rw [hA]; exact hT
  have hW0 : s.WarmedH s'.vm := by rw [hvm]; exact State.WarmedH.refl s
  have hat' : ∀ w ∈ vx_atS own ic cls names, w.before args s' = true := fun w hw => vx_ot_at hW0 hvm.symm (hgood w (List.mem_cons_of_mem _ (List.mem_cons_of_mem _ hw))) (hat w hw)
  have hk' : (Cond.classLink own ik cls).before args s' = true := vx_ot_at hW0 hvm.symm (hgood _ List.mem_cons_self) hk
  have hini' : (Cond.initialized cls).before args s' = true := vx_ot_at hW0 hvm.symm (hgood _ (List.mem_cons_of_mem _ List.mem_cons_self)) hini
  have hU' : vx_Zq Bundle.tN "UNASSIGNED_STACK" Bundle.steD A s' s'.heap := by rw [hhp]; exact vx_Zq.moved hW0.alike (hU.kept hS.2.1)
  have hN' : vx_Zq Bundle.tN "SUPPRESSED_SENTINEL" Bundle.listD A s' s'.heap := by rw [hhp]; exact vx_Zq.moved hW0.alike (hN.kept hS.2.1)
  have h : ∀ w ∈ Bundle.ownAtoms own ic cls names, w.before args s' = true := vx_own hat' (vx_isRefq hU'.1) (vx_isRefq hN'.1) hU'.2.word hN'.2.word
  have hown' : s'.vm.findClass own = some m.cls := by rw [hvm]; exact hown
  have hins : (Cond.instantiable cls 6).before args s' = true := h _ (by simp [Bundle.ownAtoms])
  obtain ⟨vm₁, cX, kX, hfX, hkX, -, -, X₁, st1⟩ := Y.newCold hexec (own := own) (C := cls) (index := ik) (n := 6) hown' hk' hins hini'
    (g := F0 m pc ls rest) rfl (by rw [hb]; exact d0) (Nat.le_refl _) (Nat.le_refl _)
  generalize hT1 : (T.setVm vm₁).pushCell { cls := cX, slots := kX.instanceTypes.map defaultValue, vm := .none } = T1 at X₁ st1
  have hcat : (Value.ref T.heap.size).category = 1 := rfl
  have hcellA : T1.heap[T.heap.size]? = some (freshCell cX kX) := by rw [← hT1]; exact State.heap_pushCell_size _ _
  have d3' : decode c.code (pc + 3) = .ok (.dup, 1) := by rw [hb]; exact d3
  have d4' : decode c.code (pc + 4) = .ok (.ldc is, 2) := by rw [hb]; exact d4
  have hstr' : vk_R own is text sa s' := vk_R.warm hW0 hstr
  obtain ⟨U, hsteps, hrun, hend, hW, hsame, ce, hce, hO⟩ := X₁.ctorThrowS hexec htr (own := own) (cls := cls) (names := names) (ic := ic) hown' hcls hnames h (fun x hx => nomatch hx) hfX hkX hcellA (by rw [hhp, hT]; exact Nat.le_refl _) (msg := .ref sa) rfl
    (g := { method := m, pc := pc + 6, locals := ls, stack := .ref sa :: .ref T.heap.size :: .ref T.heap.size :: rest, locked := none }) rfl hsize rfl rfl (rest := rest) rfl
    (by rw [hb]; exact d6) (by rw [hb]; exact d9) hout hRframes (by simp only [List.map_cons, List.sum_cons, hcat]; omega) hlocks
  obtain ⟨f1, f2⟩ := vx_frame hsame
  rw [hhp] at f1 f2
  have hWs : s.WarmedH U.vm := State.WarmedH.trans hW0 hW
  have hcl : s.vm.findClass cls = some ce.cls := by
    have h9 := hO.cls
    rw [hvm] at h9
    exact h9
  have hall : s.sameButNew ({ U with vm := s.vm } : State) locs mc ms := by
    subst hA
    obtain ⟨e1, e2⟩ := hsame
    rw [State.setFrames_setFrames] at e1
    have h2 : (T.setVm s.vm).sameButNew ({ U with vm := s.vm } : State) [] (0 + 1) (0 + 6) := ⟨e1, e2⟩
    have h3 := X.same.trans h2
    rw [List.append_nil] at h3
    exact h3.mono hc hs
  refine ⟨U, ?_, .threw T.heap.size, hrun, hend, Or.inr ⟨T.heap.size, rfl, cls, ce, locs, hx U hWs.alike f1 (fun q hq => f2 q hq (fun z hz => nomatch hz)), hce, hO.vm, hcl, hWs, hall, hf⟩⟩
  refine st1 _ ?_
  show Steps p.tables e below (T1.setTop { method := m, pc := pc + 3, locals := ls, stack := .ref T.heap.size :: rest, locked := none }) _
  jvm_step X₁.here [X₁.here.top, hexec, d3', Value.category]
  exact X₁.ldcString hexec (own := own) (text := text) (index := is) (a := sa) hown' hstr'.1 hstr'.2
    (g := { method := m, pc := pc + 4, locals := ls, stack := .ref T.heap.size :: .ref T.heap.size :: rest, locked := none }) rfl d4' _ hsteps
/-- 'throw new E("text")', the text by a wide index -/
theorem vx_throwSW {cc : ByteArray} {pc : Nat} (hexec : p.tables.exec = Jvm.exec) (hb : c.code = cc) (hl : l.stackTraces = false) {own cls text : String} {names : List String} {ik is ic mc ms sa : Nat} {A : Nat → Prop}
    (hown : s.vm.findClass own = some m.cls) (hcls : Bundle.fit cls = true) (hnames : ∀ n ∈ names, Bundle.fit n = true)
    (hk : (Cond.classLink own ik cls).before args s = true) (hini : (Cond.initialized cls).before args s = true) (hstr : vk_R own is text sa s) (hat : ∀ w ∈ vx_atS own ic cls names, w.before args s = true)
    (hgood : ∀ w ∈ Cond.classLink own ik cls :: Cond.initialized cls :: vx_atS own ic cls names, vx_ot w = true)
    (hU : vx_Zq Bundle.tN "UNASSIGNED_STACK" Bundle.steD A s s.heap) (hN : vx_Zq Bundle.tN "SUPPRESSED_SENTINEL" Bundle.listD A s s.heap) (hS : va_S A s.heap H locs) (hsize : ls.size = c.maxLocals)
    (d0 : decode cc pc = .ok (.new ik, 3)) (d3 : decode cc (pc + 3) = .ok (.dup, 1)) (d4 : decode cc (pc + 4) = .ok (.ldc_w is, 3)) (d7 : decode cc (pc + 7) = .ok (.invokespecial ic, 3)) (d10 : decode cc (pc + 10) = .ok (.athrow, 1))
    (hout : ∀ x ∈ c.exceptionTable.toList, covers x (pc + 10) = false)
    (hRframes : names.length + 3 < R.frames) (hRlocals : (rest.map fun v => v.category).sum + (13 * (names.length + 1) + 43) ≤ R.locals) (hRcells : cells + 1 ≤ R.cells) (hRslots : slots + 6 ≤ R.slots) (hlocks : meth.locks = false)
    (hx : ∀ t : State, s.vm.Alike t.vm → H.size ≤ t.heap.size → (∀ q : Nat, q < H.size → t.heap[q]? = H[q]?) → XC cls s t)
    (hf : ∀ z ∈ locs, free z.base) (hc : cells + 1 ≤ mc) (hs : slots + 6 ≤ ms) :
    W p l e R s m args below meth c H locs cells slots (vx_MQ below Qc XC args s mc ms free) (F0 m pc ls rest) := by
  intro T hT X
  have htr : e.platform.stackTraces = false := (show e.platform.stackTraces = l.stackTraces by rw [X.admits.platform]).trans hl
  have Y := vx_rebase X (R' := { frames := R.frames, locals := R.locals, cells := 1, slots := 6 }) (Nat.le_refl _) (Nat.le_refl _) hRcells hRslots
  obtain ⟨s', hA⟩ : ∃ z, z = (T.setVm s.vm).setFrames (.invoking m args :: below) := ⟨_, rfl⟩
  rw [← hA] at Y
  have hvm : s'.vm = s.vm := by rw [hA]; rfl
  have hhp : s'.heap = H := by rw [hA]; exact hT
  have hW0 : s.WarmedH s'.vm := by rw [hvm]; exact State.WarmedH.refl s
  have hat' : ∀ w ∈ vx_atS own ic cls names, w.before args s' = true := fun w hw => vx_ot_at hW0 hvm.symm (hgood w (List.mem_cons_of_mem _ (List.mem_cons_of_mem _ hw))) (hat w hw)
  have hk' : (Cond.classLink own ik cls).before args s' = true := vx_ot_at hW0 hvm.symm (hgood _ List.mem_cons_self) hk
  have hini' : (Cond.initialized cls).before args s' = true := vx_ot_at hW0 hvm.symm (hgood _ (List.mem_cons_of_mem _ List.mem_cons_self)) hini
  have hU' : vx_Zq Bundle.tN "UNASSIGNED_STACK" Bundle.steD A s' s'.heap := by rw [hhp]; exact vx_Zq.moved hW0.alike (hU.kept hS.2.1)
  have hN' : vx_Zq Bundle.tN "SUPPRESSED_SENTINEL" Bundle.listD A s' s'.heap := by rw [hhp]; exact vx_Zq.moved hW0.alike (hN.kept hS.2.1)
  have h : ∀ w ∈ Bundle.ownAtoms own ic cls names, w.before args s' = true := vx_own hat' (vx_isRefq hU'.1) (vx_isRefq hN'.1) hU'.2.word hN'.2.word
  have hown' : s'.vm.findClass own = some m.cls := by rw [hvm]; exact hown
  have hins : (Cond.instantiable cls 6).before args s' = true := h _ (by simp [Bundle.ownAtoms])
  obtain ⟨vm₁, cX, kX, hfX, hkX, -, -, X₁, st1⟩ := Y.newCold hexec (own := own) (C := cls) (index := ik) (n := 6) hown' hk' hins hini'
    (g := F0 m pc ls rest) rfl (by rw [hb]; exact d0) (Nat.le_refl _) (Nat.le_refl _)
  generalize hT1 : (T.setVm vm₁).pushCell { cls := cX, slots := kX.instanceTypes.map defaultValue, vm := .none } = T1 at X₁ st1
  have hcat : (Value.ref T.heap.size).category = 1 := rfl
  have hcellA : T1.heap[T.heap.size]? = some (freshCell cX kX) := by rw [← hT1]; exact State.heap_pushCell_size _ _
  have d3' : decode c.code (pc + 3) = .ok (.dup, 1) := by rw [hb]; exact d3
  have d4' : decode c.code (pc + 4) = .ok (.ldc_w is, 3) := by rw [hb]; exact d4
  have hstr' : vk_R own is text sa s' := vk_R.warm hW0 hstr
  obtain ⟨U, hsteps, hrun, hend, hW, hsame, ce, hce, hO⟩ := X₁.ctorThrowS hexec htr (own := own) (cls := cls) (names := names) (ic := ic) hown' hcls hnames h (fun x hx => nomatch hx) hfX hkX hcellA (by rw [hhp, hT]; exact Nat.le_refl _) (msg := .ref sa) rfl
    (g := { method := m, pc := pc + 7, locals := ls, stack := .ref sa :: .ref T.heap.size :: .ref T.heap.size :: rest, locked := none }) rfl hsize rfl rfl (rest := rest) rfl
    (by rw [hb]; exact d7) (by rw [hb]; exact d10) hout hRframes (by simp only [List.map_cons, List.sum_cons, hcat]; omega) hlocks
  obtain ⟨f1, f2⟩ := vx_frame hsame
  rw [hhp] at f1 f2
  have hWs : s.WarmedH U.vm := State.WarmedH.trans hW0 hW
  have hcl : s.vm.findClass cls = some ce.cls := by
    have h9 := hO.cls
    rw [hvm] at h9
    exact h9
  have hall : s.sameButNew ({ U with vm := s.vm } : State) locs mc ms := by
    subst hA
    obtain ⟨e1, e2⟩ := hsame
    rw [State.setFrames_setFrames] at e1
    have h2 : (T.setVm s.vm).sameButNew ({ U with vm := s.vm } : State) [] (0 + 1) (0 + 6) := ⟨e1, e2⟩
    have h3 := X.same.trans h2
    rw [List.append_nil] at h3
    exact h3.mono hc hs
  refine ⟨U, ?_, .threw T.heap.size, hrun, hend, Or.inr ⟨T.heap.size, rfl, cls, ce, locs, hx U hWs.alike f1 (fun q hq => f2 q hq (fun z hz => nomatch hz)), hce, hO.vm, hcl, hWs, hall, hf⟩⟩
  refine st1 _ ?_
  show Steps p.tables e below (T1.setTop { method := m, pc := pc + 3, locals := ls, stack := .ref T.heap.size :: rest, locked := none }) _
  jvm_step X₁.here [X₁.here.top, hexec, d3', Value.category]
  exact X₁.ldcStringW hexec (own := own) (text := text) (index := is) (a := sa) hown' hstr'.1 hstr'.2
    (g := { method := m, pc := pc + 4, locals := ls, stack := .ref T.heap.size :: .ref T.heap.size :: rest, locked := none }) rfl d4' _ hsteps
end Ends
section Bodies
variable {l : Launch}
theorem vx_ofW {y : MethodName} {ws ws' : List Cond} {rm : Room} {Pc : Array Value → State → Prop} {Qc : Array Value → State → Outcome → State → Prop} {XC : String → State → State → Prop} {mc ms : Nat} {free : Addr → Prop} {cc : ByteArray} {maxL : Nat} {ret : Option FieldType}
    (hy : plainName y.cls = true) (hw : ws = Cond.code y cc maxL ret :: ws')
    (body : ∀ p e s m args below meth c s₁, BodyLoose p l y (headSpec ws rm) cc maxL ret e s m args below meth c s₁ → c.maxLocals = maxL → (∀ x ∈ c.exceptionTable.toList, False) → Pc args s →
      W p l e (headSpec ws rm).room s m args below meth c s.heap [] 0 0 (vx_MQ below Qc XC args s mc ms free) (entryFrame m args maxL)) : vx_Met l y ws rm Pc Qc XC mc ms free := by
  refine MetFree.of_bodyS (code := cc) (maxLocals := maxL) (ret := ret) hy ?_ ?_
  · intro args s m h hn
    obtain ⟨meth, c, h1, h2, h3, h4, h5, h6, -, -⟩ := Cond.code_spec hn (atoms_spec (ws := ws) h _ (by rw [hw]; exact List.mem_cons_self))
    exact ⟨meth, c, h1, h2, h3, h4, h5, h6⟩
  · intro p e s m args below meth c s₁ B hml hP _
    have hh0 : s₁.heap = s.heap := by rw [B.state]; rfl
    have ht : ∀ x ∈ c.exceptionTable.toList, False := by
      obtain ⟨meth9, c9, h1, h2, -, -, -, -, h7, -⟩ := Cond.code_spec B.named (atoms_spec (ws := ws) B.pre _ (by rw [hw]; exact List.mem_cons_self))
      cases Option.some.inj (h1.symm.trans B.method)
      cases Option.some.inj (h2.symm.trans (Stand.of_body B).code)
      intro x hx
      rw [Array.isEmpty_iff.mp h7] at hx
      cases hx
    obtain ⟨t, a1, o, b1, b2, b3⟩ := body p e s m args below meth c s₁ B hml ht hP s₁ hh0 (Stand.of_body B)
    exact ⟨t, o, a1, b1, b2, b3⟩
/-- the table of a body with handlers -/
theorem vx_table {p : Program} {x y : MethodName} {S : Spec} {cc bytes : ByteArray} {maxL maxL' : Nat} {ret ret' : Option FieldType} {e : Env} {s s₁ : State} {m : MethodId} {args : Array Value} {below : List Frame} {meth : Method} {c : Code} {hh : List (Nat × Nat × Nat × Nat)}
    (B : BodyLoose p l y S cc maxL ret e s m args below meth c s₁) (h : (Cond.codeWith y bytes maxL' ret' hh).before args s = true) : c.exceptionTable.toList = tableOf hh := by
  obtain ⟨m9, meth9, c9, hn9, h1, h2, -, -, h6, -⟩ := Cond.codeWith_spec h
  cases Option.some.inj (hn9.symm.trans B.named)
  cases Option.some.inj (h1.symm.trans B.method)
  cases Option.some.inj (h2.symm.trans (Stand.of_body B).code)
  rw [← h6, table_eq]
end Bodies
end VXA
/-! ===== END ===== -/
/-! ===== BEGIN a static call of a method with an exception table ===== -/
section VXS
variable {p : Program} {l : Launch} {e : Env} {R : Room} {s : State} {m : MethodId} {args : Array Value} {below : List Frame} {meth : Method} {c : Code} {T : State} {H : Heap} {locs : List Loc} {cells slots : Nat}
abbrev vx_CSW (R : Room) (s : State) (args : Array Value) (own : String) (index : Nat) (y : MethodName) (bytes : ByteArray) (maxL : Nat) (ret : Option FieldType) (hh : List (Nat × Nat × Nat × Nat)) (ws : List Cond) (rm : Room) (mc ms n : Nat) : Prop :=
  (rm.cells = mc ∧ rm.slots = ms ∧ rm.frames + 1 ≤ R.frames ∧ 8 + (maxL + 11) + rm.locals ≤ R.locals ∧ (∀ w ∈ ws, ∀ (a' : Array Value) (U : State), s.WarmedH U.vm → w.before a' U = true) ∧ Cond.codeWith y bytes maxL ret hh ∈ ws) ∧
  (Cond.codeWith y bytes maxL ret hh).before args s = true ∧ (Cond.initialized y.cls).before args s = true ∧ (y.cls ≠ "java/lang/invoke/MethodHandle" ∧ y.cls ≠ "java/lang/invoke/VarHandle") ∧
  (∀ sig, parseMethodDescriptor y.desc = some sig → n = sig.parameters.length) ∧ (Cond.methodLink own index y).before args s = true ∧ (Cond.static y).before args s = true
theorem vx_cwSW {own : String} {index maxL mc ms : Nat} {y : MethodName} {bytes : ByteArray} {ret : Option FieldType} {hh : List (Nat × Nat × Nat × Nat)} {Ts ws ws' : List Cond} {rm : Room} (n : Nat) (ht : ∀ w ∈ Ts, w.before args s = true) (hT : GoodIn Ts (va_wsS own index y ws)) (hw : ws = Cond.codeWith y bytes maxL ret hh :: ws') (hrc : rm.cells = mc) (hrs : rm.slots = ms)
    (hd : y.cls ≠ "java/lang/invoke/MethodHandle" ∧ y.cls ≠ "java/lang/invoke/VarHandle" ∧ (parseMethodDescriptor y.desc).map (fun d => d.parameters.length) = some n) (hR : rm.frames + 1 ≤ R.frames ∧ 8 + (maxL + 11) + rm.locals ≤ R.locals) :
    vx_CSW R s args own index y bytes maxL ret hh ws rm mc ms n := by
  have ok : ∀ w ∈ va_wsS own index y ws, w.before args s = true := fun w h => ht w (hT w h).1
  have hG : GoodIn Ts ws := fun w h => hT w (by unfold va_wsS; exact List.mem_append_right _ h)
  have hc : Cond.codeWith y bytes maxL ret hh ∈ ws := by rw [hw]; exact List.mem_cons_self
  refine ⟨⟨hrc, hrs, hR.1, hR.2, pay_in ht hG, hc⟩, ht _ (hG _ hc).1, ok _ (by simp [va_wsS]), ⟨hd.1, hd.2.1⟩, fun sig h => ?_, ok _ (by simp [va_wsS]), ok _ (by simp [va_wsS])⟩
  have h2 := hd.2.2
  rw [h] at h2
  exact (Option.some.inj h2).symm
theorem vx_callSW (X : Stand p l e R s m args below meth c T locs cells slots) (hexec : p.tables.exec = Jvm.exec) {own : String} {index : Nat} {y : MethodName} {bytes : ByteArray} {maxL : Nat} {ret : Option FieldType} {hh : List (Nat × Nat × Nat × Nat)}
    (hown : s.vm.findClass own = some m.cls) (hlink : (Cond.methodLink own index y).before args s = true) (hstat : (Cond.static y).before args s = true) (hinit : (Cond.initialized y.cls).before args s = true)
    (hcode : (Cond.codeWith y bytes maxL ret hh).before args s = true) (hy : y.cls ≠ "java/lang/invoke/MethodHandle" ∧ y.cls ≠ "java/lang/invoke/VarHandle")
    {W9 : Nat} {Pre : Pt → Array Value → Prop} {Post : Pt → Array Value → Option Value → Pt → Prop} (hK : Back l R p e below s args y 3 W9 Pre Post)
    {g : JFrame} (hg : g.method = m) (hsize : g.locals.size = c.maxLocals) {argsL rest : List Value} (hlen : ∀ sig, parseMethodDescriptor y.desc = some sig → argsL.length = sig.parameters.length)
    (hstack : g.stack = argsL.reverse ++ rest) (hW : 2 * g.monitorRoom + (rest.map fun v => v.category).sum ≤ W9) (hdg : decode c.code g.pc = .ok (.invokestatic index, 3))
    (hpre : ∀ vm₁, s.WarmedH vm₁ → Pre ⟨T.setVm vm₁, locs, cells, slots⟩ argsL.toArray) :
    ∃ (v : Option Value) (vm₁ : Vm) (B : Pt), s.WarmedH vm₁ ∧ Stand p l e R s m args below meth c B.U B.locs B.cells B.slots ∧ Post ⟨T.setVm vm₁, locs, cells, slots⟩ argsL.toArray v B ∧
      ∀ target, Steps p.tables e below (B.U.setTop { g with pc := g.pc + 3, stack := v.toList ++ rest }) target → Steps p.tables e below (T.setTop g) target := by
  obtain ⟨mk, methM, cM, hnamed, hmethM, -, -, -, -, -, -, hsigM⟩ := Cond.codeWith_spec hcode
  have hstatic : methM.isStatic = true := Cond.static_spec hnamed hmethM hstat
  obtain ⟨kP, hkP, -⟩ := className_of_methodNamed hnamed
  have hinitP : kP.init = .initialized := Cond.initialized_spec (findClass_of_methodNamed hnamed) hkP hinit
  obtain ⟨vm₁, X₁, hstep₁⟩ := X.invokestatic hexec hown hlink hnamed hmethM hstatic hkP hinitP hy (g := g) hg (argsL := argsL) (rest := rest) (hlen _ hsigM) hstack hdg
  obtain ⟨v, B, X', hpost, hsteps⟩ := hK m meth c ⟨T.setVm vm₁, locs, cells, slots⟩ { g with stack := rest } (.invokestatic index) mk argsL.toArray X₁ hg hsize hdg hW (X₁.named hnamed) (hpre vm₁ X₁.warmed)
  exact ⟨v, vm₁, B, X₁.warmed, X', hpost, fun target h => hstep₁ _ fun acts => by rw [doInvoke_state]; exact hsteps.trans h⟩
theorem vx_runSW {y : MethodName} {bytes cc : ByteArray} {maxL nL mc ms n index : Nat} {ret : Option FieldType} {hh : List (Nat × Nat × Nat × Nat)} {ws : List Cond} {rm : Room} {Pc : Array Value → State → Prop} {Qc : Array Value → State → Outcome → State → Prop} {free : Addr → Prop} {Ts : List Cond} {own : String} {As rest : List Value} {g : JFrame}
    (S : CallFix p m c cc nL s args Ts own) (hM : Met l y ws rm Pc Qc mc ms free) (cw : vx_CSW R s args own index y bytes maxL ret hh ws rm mc ms n) (hp : PreS s H Pc As)
    (hg : g.method = m) (hn : As.length = n) (hsize : g.locals.size = nL) (hstack : g.stack = As.reverse ++ rest) (hW : 2 * g.monitorRoom + (rest.map fun v => v.category).sum ≤ 8) (hdg : decode cc g.pc = .ok (.invokestatic index, 3)) (hf : cells + mc ≤ R.cells ∧ slots + ms ≤ R.slots) :
    va_Run p l e R s m args below meth c H locs cells slots mc ms g rest (Qc As.toArray) (free) := by
  obtain ⟨⟨hrc, hrs, hfr, hlo, hws, hcw⟩, hcode, hini, hy, hlen, hl, hstt⟩ := cw
  have hK : Back l R p e below s args y 3 8 (PreOf R mc ms Pc) (PostOf Qc mc ms free) := va_backW (hh := hh) (bytes := bytes) (maxL := maxL) (ret := ret) hM hp.1 hrc hrs hfr hlo hws hcw (fun a' U hW => word_at hW (Or.inl (by first | rfl | simp [Cond.onTables, Cond.keeps, Cond.steady])) hini)
  obtain ⟨hx, hb, hml, ho, -⟩ := S
  intro T hT X
  obtain ⟨v, vm₁, ⟨U', l2, c2, s2⟩, hW₁, X', ⟨g', mk, t, L, e1, e2, hq, h1, hL, h2, h3⟩, st⟩ := vx_callSW X hx (hh := hh) (bytes := bytes) (maxL := maxL) (ret := ret) ho hl hstt hini hcode hy hK hg (hsize.trans hml.symm) (argsL := As) (rest := rest) (fun sig h => hn.trans (hlen sig h)) hstack hW (by rw [hb]; exact hdg)
    (fun vm₁ hW₁ => ⟨hf.1, hf.2, hp.2 (T.setVm vm₁) hT hW₁⟩)
  dsimp only [Pt.U, Pt.locs, Pt.cells, Pt.slots] at X' e1 e2 h1 h2 h3 st
  subst h1; subst h2; subst h3
  exact ⟨v, (T.setVm vm₁).calling g' mk As.toArray, t, U', L, hT, X', hL, e1, e2, hq, st⟩
/-- not caught here, past rows that name other classes: it goes on to the caller -/
theorem vx_outP {p : Program} {l : Launch} {e : Env} {R : Room} {s : State} {m : MethodId} {args : Array Value} {below : List Frame} {meth : Method} {c : Code} {H : Heap} {locs : List Loc} {cells slots : Nat} {free : Addr → Prop} {ls : Array Slot} {rest : List Value} {Qc : Array Value → State → Outcome → State → Prop} {XC : String → State → State → Prop}
    {pc : Nat} {own E : String} {ce : Cell} {q : Addr} {mc ms : Nat} (hown : s.vm.findClass own = some m.cls) (hlocks : meth.locks = false)
    (hpass : ∀ z ∈ c.exceptionTable.toList, covers z pc = false ∨ (z.catchType ≠ 0 ∧ ∃ nm : String, (Cond.classLink own z.catchType nm).before args s = true ∧ va_Nc E nm s)) (hcell : H[q]? = some ce) (hv : ce.vm = .none) (hcl : s.vm.findClass E = some ce.cls)
    (hx : ∀ t : State, t.heap = H → s.vm.Alike t.vm → XC E s t) (hf : ∀ z ∈ locs, free z.base) (hc : cells ≤ mc) (hs : slots ≤ ms) :
    vx_W p l e R s m args below meth c H locs cells slots (vx_MQ below Qc XC args s mc ms free) (F0 m pc ls rest) q := by
  intro T hT X
  have hpl : e.platform.magicAccessors = ({} : Platform).magicAccessors := by rw [X.admits.platform]
  obtain ⟨vm', hW', X', st⟩ := X.outThrough hlocks q (g := F0 m pc ls rest) rfl rfl rfl (cell := ce) (by rw [hT]; exact hcell) (by rw [hv]; rfl)
    (by obtain ⟨k9, h9, -⟩ := Vm.findClass_spec hcl; exact ⟨k9, h9⟩) (fun z hz => by
      rcases hpass z hz with h | ⟨hz0, nm, hl1, hn1⟩
      · exact Or.inl h
      · obtain ⟨c6, hc6, hcl6⟩ := Cond.classLink_spec hown hl1 e.platform hpl
        obtain ⟨a8, b8, h1, h2, h3⟩ := hn1
        cases Option.some.inj (h1.symm.trans hcl)
        cases Option.some.inj (h2.symm.trans hc6)
        exact Or.inr ⟨hz0, _, hcl6, h3⟩)
  obtain ⟨g₀, hfr⟩ := X'.frames_eq
  have hcell9 : ((T.setVm vm').setFrames (.throwing q :: below)).heap[q]? = some ce := by
    show T.heap[q]? = some ce
    rw [hT]; exact hcell
  have hend : Ended ((T.setVm vm').setFrames (.throwing q :: below)) below (.threw q) := State.frames_setFrames _ (State.cur_lt_of_frames hfr)
  refine ⟨(T.setVm vm').setFrames (.throwing q :: below), ?_, .threw q, X'.here.running, hend, Or.inr ⟨q, rfl, E, ce, locs, hx _ hT (X'.ends _).1.alike, hcell9, hv, hcl, (X'.ends _).1, (X'.ends _).2.mono hc hs, hf⟩⟩
  rw [X.pushThrowing_eq]
  exact st
/-- a thing of a world lies in the heap -/
theorem vx_lt {D : va_G} {cl : List vw_C} {ws : va_W} {H1 : Heap} (h : va_P D cl ws H1) {k : Nat} {q : Nat × va_E} (hk : ws[k]? = some q) : q.1 < H1.size := (h k q hk).lt
end VXS
/-! ===== END ===== -/
/-! ===== BEGIN methods with a table of their own: called by a name, returning or throwing ===== -/
section VXH
/-! vx_backW, vx_callVX, vx_callSX, vx_callVW, vx_runVW, vx_runVX, vx_runSX, vx_ofWH follow the same proofs as their sisters above (Free/Laws.lean, Shelf42/LK1.lean); vx_outP calls Shelf42/NT130.lean (outThrough). -/
section
variable {l : Launch} {R : Room} {p : Program} {e : Env} {below : List Frame} {s : State} {sargs : Array Value} {y : MethodName} {len W9 : Nat}
theorem vx_backW {ws : List Cond} {rm : Room} {Pc : Array Value → State → Prop} {Qc : Array Value → State → Outcome → State → Prop} {XC : String → State → State → Prop} {mc ms : Nat} {free : Addr → Prop} {bytes : ByteArray} {maxL : Nat} {ret : Option FieldType} {hh : List (Nat × Nat × Nat × Nat)}
    (hM : vx_Met l y ws rm Pc Qc XC mc ms free) (hblind : FrameBlind Pc) (hrc : rm.cells = mc) (hrs : rm.slots = ms)
    (hframes : rm.frames + 1 ≤ R.frames) (hlocals : W9 + (maxL + 11) + rm.locals ≤ R.locals)
    (hws : ∀ w ∈ ws, ∀ a' U, s.WarmedH U.vm → w.before a' U = true) (hcode : Cond.codeWith y bytes maxL ret hh ∈ ws) (hinit : ∀ a' U, s.WarmedH U.vm → (Cond.initialized y.cls).before a' U = true) :
    vx_Back l R p e below s sargs y len W9 (PreOf R mc ms Pc) (PostOf Qc mc ms free) (vx_Post XC mc ms free) := by
  intro m meth c A g ig mk a X hg hsize hdg hW hn hp
  have h1 : (headSpec ws rm).pre.before a A.U = true := atoms_intro fun w hw => hws w hw _ _ X.warmed
  have h2 : (Cond.codeWith y bytes maxL ret hh).before a A.U = true := hws _ hcode _ _ X.warmed
  have h3 : (Cond.initialized y.cls).before a A.U = true := hinit _ _ X.warmed
  have h4 : A.cells + (headSpec ws rm).room.cells ≤ R.cells := by rw [show (headSpec ws rm).room.cells = mc from hrc]; exact hp.1
  have h5 : A.slots + (headSpec ws rm).room.slots ≤ R.slots := by rw [show (headSpec ws rm).room.slots = ms from hrs]; exact hp.2.1
  have hPc : Pc a (A.U.calling g mk a) := hblind _ _ _ _ hp.2.2
  obtain ⟨U, Ls, c0, s0⟩ := A
  dsimp only [Pt.U, Pt.locs, Pt.cells, Pt.slots] at h1 h2 h3 h4 h5 X hn hPc ⊢
  obtain ⟨m9, methY, cY, hn9, hmY, hcY, -, hlY, -⟩ := Cond.codeWith_spec h2
  cases Option.some.inj (hn9.symm.trans hn)
  obtain ⟨kY, hkY, -⟩ := className_of_methodNamed hn
  have hinitY : kY.init = .initialized := Cond.initialized_spec (findClass_of_methodNamed hn) hkY h3
  have h : At U g.method c below := by rw [hg]; exact X.here
  have hlocals9 : W9 + (maxL + 11) + (headSpec ws rm).room.locals ≤ R.locals := hlocals
  have happ : (headSpec ws rm).appliesLoose y e.platform (U.calling g mk a) = true :=
    Spec.appliesLoose_calling (g := g) h hdg hn hkY hinitY
      (X.room_calling (g := g) (R' := (headSpec ws rm).room) hsize hmY hcY hframes (by rw [hlY]; omega) h4 h5) h1
  obtain ⟨mid, hmid⟩ := h.above
  have hfr : (U.setTop g).frames = (.java g :: mid) ++ below := by rw [State.frames_setTop' g h.top, hmid]; rfl
  obtain ⟨o, s₂, hsteps, -, hend, hq⟩ := Steps.callFree hM p X.admits X.cas X.clock (acts := []) hfr happ hPc trivial
  have hq' : vx_Q Qc XC mc ms free a (U.calling g mk a) o s₂ := hq
  rw [State.frames_setTop' g h.top] at hend
  obtain ⟨g₀, hg0⟩ := Option.isSome_iff_exists.mp h.top
  obtain ⟨r, hr⟩ := State.topJava?_eq_some.mp hg0
  have hr' : (({ U with heap := s₂.heap, slotsUsed := s₂.slotsUsed } : State).setVm s₂.vm).frames = .java g₀ :: r := hr
  rcases hq' with ⟨hqc, L, hfe, hL⟩ | ⟨q, rfl, E, ce, L, hx, hce, hcv, hcl, hW₂, hsm, hL⟩
  · obtain ⟨⟨v, rfl⟩, hW₂, e2, q2, q3, q4, q5, q6⟩ := id hfe
    have e3 : s₂ = ({ (U.calling g mk a).setFrames s₂.frames with heap := s₂.heap, slotsUsed := s₂.slotsUsed } : State).setVm s₂.vm := by
      have : s₂ = ({ s₂ with vm := (U.calling g mk a).vm } : State).setVm s₂.vm := rfl
      rw [e2] at this
      exact this
    obtain ⟨c₂, i₂, len₂, hc₂, hd₂, hf₂⟩ := hend
    have hW' : U.WarmedH s₂.vm := hW₂
    have hcc : c₂ = c := by
      have h1 : s₂.code? g.method = U.code? g.method := by
        rw [State.code?_eq, State.code?_eq, hW'.alike.method?]
      exact Option.some.inj (hc₂.symm.trans (h1.trans h.code))
    subst hcc
    have hlen : len₂ = len := by rw [hdg] at hd₂; cases hd₂; rfl
    subst hlen
    have hs₂ : s₂ = (({ U with heap := s₂.heap, slotsUsed := s₂.slotsUsed } : State).setVm s₂.vm).setTop { g with pc := g.pc + len₂, stack := v.toList ++ g.stack } := by
      refine e3.trans ?_
      rw [hf₂, State.calling_eq h.top, State.setFrames_setFrames, State.setTop_of_frames _ hr', hr]
      rfl
    have hsame : U.sameButNew ({ U with heap := s₂.heap, slotsUsed := s₂.slotsUsed } : State) L mc ms := by
      refine ⟨?_, q2, q3, q4, q5, q6⟩
      obtain ⟨t, ht, -⟩ := State.frames_cons hr
      show ({ U with heap := s₂.heap, slotsUsed := s₂.slotsUsed } : State) = { U.setFrames U.frames with heap := s₂.heap, slotsUsed := s₂.slotsUsed }
      rw [State.setFrames_self ht]
    subst hg
    refine Or.inl ⟨v, ⟨(({ U with heap := s₂.heap, slotsUsed := s₂.slotsUsed } : State).setVm s₂.vm), Ls ++ L, c0 + mc, s0 + ms⟩,
      ⟨X.admits, X.cas, X.clock, X.frames, X.room, X.hears, X.method, X.code, (X.here.setHeapUsed s₂.heap s₂.slotsUsed).setVm hW'.alike, X.tail, State.WarmedH.trans X.warmed hW', X.limits, X.bytes, X.same.trans (hsame.setVm s.vm)⟩,
      ⟨g, mk, s₂, L, rfl, rfl, hqc, rfl, hL, rfl, rfl⟩, ?_⟩
    show Steps p.tables e below _ ((({ U with heap := s₂.heap, slotsUsed := s₂.slotsUsed } : State).setVm s₂.vm).setTop { g with pc := g.pc + len₂, stack := v.toList ++ g.stack })
    rw [← hs₂]
    exact hsteps
  · obtain ⟨e2, q2, q3, q4, q5, q6⟩ := id hsm
    have e3 : s₂ = ({ (U.calling g mk a).setFrames s₂.frames with heap := s₂.heap, slotsUsed := s₂.slotsUsed } : State).setVm s₂.vm := by
      have : s₂ = ({ s₂ with vm := (U.calling g mk a).vm } : State).setVm s₂.vm := rfl
      rw [e2] at this
      exact this
    have hf₂ : s₂.frames = .throwing q :: .java g :: U.frames.tail := hend
    have hW' : U.WarmedH s₂.vm := hW₂
    have hs₂ : s₂ = ((({ U with heap := s₂.heap, slotsUsed := s₂.slotsUsed } : State).setVm s₂.vm).setTop g).pushFrame (.throwing q) := by
      refine e3.trans ?_
      rw [hf₂, State.calling_eq h.top, State.setFrames_setFrames, State.pushFrame, State.frames_setTop _ hr', State.setTop_of_frames _ hr', State.setFrames_setFrames, hr]
      rfl
    have hsame : U.sameButNew ({ U with heap := s₂.heap, slotsUsed := s₂.slotsUsed } : State) L mc ms := by
      refine ⟨?_, q2, q3, q4, q5, q6⟩
      obtain ⟨t, ht, -⟩ := State.frames_cons hr
      show ({ U with heap := s₂.heap, slotsUsed := s₂.slotsUsed } : State) = { U.setFrames U.frames with heap := s₂.heap, slotsUsed := s₂.slotsUsed }
      rw [State.setFrames_self ht]
    subst hg
    refine Or.inr ⟨q, ⟨(({ U with heap := s₂.heap, slotsUsed := s₂.slotsUsed } : State).setVm s₂.vm), Ls ++ L, c0 + mc, s0 + ms⟩,
      ⟨X.admits, X.cas, X.clock, X.frames, X.room, X.hears, X.method, X.code, (X.here.setHeapUsed s₂.heap s₂.slotsUsed).setVm hW'.alike, X.tail, State.WarmedH.trans X.warmed hW', X.limits, X.bytes, X.same.trans (hsame.setVm s.vm)⟩,
      ⟨g, mk, s₂, L, E, ce, rfl, rfl, hx, hce, hcv, hcl, rfl, hL, rfl, rfl⟩, ?_⟩
    show Steps p.tables e below _ (((({ U with heap := s₂.heap, slotsUsed := s₂.slotsUsed } : State).setVm s₂.vm).setTop g).pushFrame (.throwing q))
    rw [← hs₂]
    exact hsteps
end
variable {p : Program} {l : Launch} {e : Env} {R : Room} {s : State} {m : MethodId} {args : Array Value} {below : List Frame} {meth : Method} {c : Code} {T : State} {H : Heap} {locs : List Loc} {cells slots : Nat}
theorem vx_callVX (X : Stand p l e R s m args below meth c T locs cells slots) (hexec : p.tables.exec = Jvm.exec) {own C : String} {index : Nat} {y : MethodName} {bytes : ByteArray} {maxL : Nat} {ret : Option FieldType} {hh : List (Nat × Nat × Nat × Nat)}
    (hown : s.vm.findClass own = some m.cls) (hlink : (Cond.methodLink own index y).before args s = true) (hinst : (Cond.instanceMethod y).before args s = true) (hsel : (Cond.selects C y y).before args s = true)
    (hcode : (Cond.codeWith y bytes maxL ret hh).before args s = true) (hy : y.cls ≠ "java/lang/invoke/MethodHandle" ∧ y.cls ≠ "java/lang/invoke/VarHandle")
    {W9 : Nat} {Pre : Pt → Array Value → Prop} {Post : Pt → Array Value → Option Value → Pt → Prop} {PostX : Pt → Array Value → Addr → Pt → Prop} (hK : vx_Back l R p e below s args y 3 W9 Pre Post PostX)
    {b : Addr} {cellB : Cell} (hcell : T.heap[b]? = some cellB) (hobj : cellB.vm.isStatics = false) (hcls : s.vm.findClass C = some cellB.cls)
    {g : JFrame} (hg : g.method = m) (hsize : g.locals.size = c.maxLocals) {argsL rest : List Value} (hlen : ∀ sig, parseMethodDescriptor y.desc = some sig → argsL.length = sig.parameters.length)
    (hstack : g.stack = argsL.reverse ++ .ref b :: rest) (hW : 2 * g.monitorRoom + (rest.map fun v => v.category).sum ≤ W9) (hdg : decode c.code g.pc = .ok (.invokevirtual index, 3))
    (hpre : ∀ vm₁, s.WarmedH vm₁ → Pre ⟨T.setVm vm₁, locs, cells, slots⟩ (Value.ref b :: argsL).toArray) :
    (∃ (v : Option Value) (vm₁ : Vm) (B : Pt), s.WarmedH vm₁ ∧ Stand p l e R s m args below meth c B.U B.locs B.cells B.slots ∧ Post ⟨T.setVm vm₁, locs, cells, slots⟩ (Value.ref b :: argsL).toArray v B ∧
      ∀ target, Steps p.tables e below (B.U.setTop { g with pc := g.pc + 3, stack := v.toList ++ rest }) target → Steps p.tables e below (T.setTop g) target) ∨
    (∃ (q : Addr) (vm₁ : Vm) (B : Pt), s.WarmedH vm₁ ∧ Stand p l e R s m args below meth c B.U B.locs B.cells B.slots ∧ PostX ⟨T.setVm vm₁, locs, cells, slots⟩ (Value.ref b :: argsL).toArray q B ∧
      Steps p.tables e below (T.setTop g) ((B.U.setTop { g with stack := rest }).pushFrame (.throwing q))) := by
  obtain ⟨mk, methM, hnamed, hmethM, hstM, habM⟩ := Cond.instanceMethod_spec hinst
  obtain ⟨m8, methM', cM, hn8, hmethM', -, -, -, -, -, -, hsigM⟩ := Cond.codeWith_spec hcode
  cases Option.some.inj (hn8.symm.trans hnamed)
  cases hmethM.symm.trans hmethM'
  obtain ⟨c2, r2, m2, q1, q2, q3, q4, kP, hkP, hkPi⟩ := Cond.selects_spec hsel
  cases hcls.symm.trans q1
  cases (State.methodFound?_of_named hnamed hy).symm.trans q2
  cases hnamed.symm.trans q3
  have hselP : selectMethod e.platform s.vm cellB.cls mk = .method mk := by rw [Launch.admits_selectMethod X.admits]; exact q4
  obtain ⟨vm₁, X₁, hstep₁⟩ := X.invokevirtual hexec hown hlink hnamed hmethM hstM hkP hkPi hy (a := b) (cell := cellB) hcell
    (fun z h => by rw [h] at hobj; cases hobj) hselP hmethM habM hkP hkPi (g := g) hg (argsL := argsL) (rest := rest) (hlen _ hsigM) hstack hdg
  rcases hK m meth c ⟨T.setVm vm₁, locs, cells, slots⟩ { g with stack := rest } (.invokevirtual index) mk (Value.ref b :: argsL).toArray X₁ hg hsize hdg hW (X₁.named hnamed) (hpre vm₁ X₁.warmed) with ⟨v, B, X', hpost, hsteps⟩ | ⟨q, B, X', hpost, hsteps⟩
  · exact Or.inl ⟨v, vm₁, B, X₁.warmed, X', hpost, fun target h => hstep₁ _ fun acts => by rw [doInvoke_state]; exact hsteps.trans h⟩
  · exact Or.inr ⟨q, vm₁, B, X₁.warmed, X', hpost, hstep₁ _ fun acts => by rw [doInvoke_state]; exact hsteps⟩
theorem vx_callSX (X : Stand p l e R s m args below meth c T locs cells slots) (hexec : p.tables.exec = Jvm.exec) {own : String} {index : Nat} {y : MethodName} {bytes : ByteArray} {maxL : Nat} {ret : Option FieldType} {hh : List (Nat × Nat × Nat × Nat)}
    (hown : s.vm.findClass own = some m.cls) (hlink : (Cond.methodLink own index y).before args s = true) (hstat : (Cond.static y).before args s = true) (hinit : (Cond.initialized y.cls).before args s = true)
    (hcode : (Cond.codeWith y bytes maxL ret hh).before args s = true) (hy : y.cls ≠ "java/lang/invoke/MethodHandle" ∧ y.cls ≠ "java/lang/invoke/VarHandle")
    {W9 : Nat} {Pre : Pt → Array Value → Prop} {Post : Pt → Array Value → Option Value → Pt → Prop} {PostX : Pt → Array Value → Addr → Pt → Prop} (hK : vx_Back l R p e below s args y 3 W9 Pre Post PostX)
    {g : JFrame} (hg : g.method = m) (hsize : g.locals.size = c.maxLocals) {argsL rest : List Value} (hlen : ∀ sig, parseMethodDescriptor y.desc = some sig → argsL.length = sig.parameters.length)
    (hstack : g.stack = argsL.reverse ++ rest) (hW : 2 * g.monitorRoom + (rest.map fun v => v.category).sum ≤ W9) (hdg : decode c.code g.pc = .ok (.invokestatic index, 3))
    (hpre : ∀ vm₁, s.WarmedH vm₁ → Pre ⟨T.setVm vm₁, locs, cells, slots⟩ argsL.toArray) :
    (∃ (v : Option Value) (vm₁ : Vm) (B : Pt), s.WarmedH vm₁ ∧ Stand p l e R s m args below meth c B.U B.locs B.cells B.slots ∧ Post ⟨T.setVm vm₁, locs, cells, slots⟩ argsL.toArray v B ∧
      ∀ target, Steps p.tables e below (B.U.setTop { g with pc := g.pc + 3, stack := v.toList ++ rest }) target → Steps p.tables e below (T.setTop g) target) ∨
    (∃ (q : Addr) (vm₁ : Vm) (B : Pt), s.WarmedH vm₁ ∧ Stand p l e R s m args below meth c B.U B.locs B.cells B.slots ∧ PostX ⟨T.setVm vm₁, locs, cells, slots⟩ argsL.toArray q B ∧
      Steps p.tables e below (T.setTop g) ((B.U.setTop { g with stack := rest }).pushFrame (.throwing q))) := by
  obtain ⟨mk, methM, cM, hnamed, hmethM, -, -, -, -, -, -, hsigM⟩ := Cond.codeWith_spec hcode
  have hstatic : methM.isStatic = true := Cond.static_spec hnamed hmethM hstat
  obtain ⟨kP, hkP, -⟩ := className_of_methodNamed hnamed
  have hinitP : kP.init = .initialized := Cond.initialized_spec (findClass_of_methodNamed hnamed) hkP hinit
  obtain ⟨vm₁, X₁, hstep₁⟩ := X.invokestatic hexec hown hlink hnamed hmethM hstatic hkP hinitP hy (g := g) hg (argsL := argsL) (rest := rest) (hlen _ hsigM) hstack hdg
  rcases hK m meth c ⟨T.setVm vm₁, locs, cells, slots⟩ { g with stack := rest } (.invokestatic index) mk argsL.toArray X₁ hg hsize hdg hW (X₁.named hnamed) (hpre vm₁ X₁.warmed) with ⟨v, B, X', hpost, hsteps⟩ | ⟨q, B, X', hpost, hsteps⟩
  · exact Or.inl ⟨v, vm₁, B, X₁.warmed, X', hpost, fun target h => hstep₁ _ fun acts => by rw [doInvoke_state]; exact hsteps.trans h⟩
  · exact Or.inr ⟨q, vm₁, B, X₁.warmed, X', hpost, hstep₁ _ fun acts => by rw [doInvoke_state]; exact hsteps⟩
theorem vx_callVW (X : Stand p l e R s m args below meth c T locs cells slots) (hexec : p.tables.exec = Jvm.exec) {own C : String} {index : Nat} {y : MethodName} {bytes : ByteArray} {maxL : Nat} {ret : Option FieldType} {hh : List (Nat × Nat × Nat × Nat)}
    (hown : s.vm.findClass own = some m.cls) (hlink : (Cond.methodLink own index y).before args s = true) (hinst : (Cond.instanceMethod y).before args s = true) (hsel : (Cond.selects C y y).before args s = true)
    (hcode : (Cond.codeWith y bytes maxL ret hh).before args s = true) (hy : y.cls ≠ "java/lang/invoke/MethodHandle" ∧ y.cls ≠ "java/lang/invoke/VarHandle")
    {W9 : Nat} {Pre : Pt → Array Value → Prop} {Post : Pt → Array Value → Option Value → Pt → Prop} (hK : Back l R p e below s args y 3 W9 Pre Post)
    {b : Addr} {cellB : Cell} (hcell : T.heap[b]? = some cellB) (hobj : cellB.vm.isStatics = false) (hcls : s.vm.findClass C = some cellB.cls)
    {g : JFrame} (hg : g.method = m) (hsize : g.locals.size = c.maxLocals) {argsL rest : List Value} (hlen : ∀ sig, parseMethodDescriptor y.desc = some sig → argsL.length = sig.parameters.length)
    (hstack : g.stack = argsL.reverse ++ .ref b :: rest) (hW : 2 * g.monitorRoom + (rest.map fun v => v.category).sum ≤ W9) (hdg : decode c.code g.pc = .ok (.invokevirtual index, 3))
    (hpre : ∀ vm₁, s.WarmedH vm₁ → Pre ⟨T.setVm vm₁, locs, cells, slots⟩ (Value.ref b :: argsL).toArray) :
    ∃ (v : Option Value) (vm₁ : Vm) (B : Pt), s.WarmedH vm₁ ∧ Stand p l e R s m args below meth c B.U B.locs B.cells B.slots ∧ Post ⟨T.setVm vm₁, locs, cells, slots⟩ (Value.ref b :: argsL).toArray v B ∧
      ∀ target, Steps p.tables e below (B.U.setTop { g with pc := g.pc + 3, stack := v.toList ++ rest }) target → Steps p.tables e below (T.setTop g) target := by
  obtain ⟨mk, methM, hnamed, hmethM, hstM, habM⟩ := Cond.instanceMethod_spec hinst
  obtain ⟨m8, methM', cM, hn8, hmethM', -, -, -, -, -, -, hsigM⟩ := Cond.codeWith_spec hcode
  cases Option.some.inj (hn8.symm.trans hnamed)
  cases hmethM.symm.trans hmethM'
  obtain ⟨c2, r2, m2, q1, q2, q3, q4, kP, hkP, hkPi⟩ := Cond.selects_spec hsel
  cases hcls.symm.trans q1
  cases (State.methodFound?_of_named hnamed hy).symm.trans q2
  cases hnamed.symm.trans q3
  have hselP : selectMethod e.platform s.vm cellB.cls mk = .method mk := by rw [Launch.admits_selectMethod X.admits]; exact q4
  obtain ⟨vm₁, X₁, hstep₁⟩ := X.invokevirtual hexec hown hlink hnamed hmethM hstM hkP hkPi hy (a := b) (cell := cellB) hcell
    (fun z h => by rw [h] at hobj; cases hobj) hselP hmethM habM hkP hkPi (g := g) hg (argsL := argsL) (rest := rest) (hlen _ hsigM) hstack hdg
  obtain ⟨v, B, X', hpost, hsteps⟩ := hK m meth c ⟨T.setVm vm₁, locs, cells, slots⟩ { g with stack := rest } (.invokevirtual index) mk (Value.ref b :: argsL).toArray X₁ hg hsize hdg hW (X₁.named hnamed) (hpre vm₁ X₁.warmed)
  exact ⟨v, vm₁, B, X₁.warmed, X', hpost, fun target h => hstep₁ _ fun acts => by rw [doInvoke_state]; exact hsteps.trans h⟩
abbrev vx_CVW (R : Room) (s : State) (args : Array Value) (own C : String) (index : Nat) (y : MethodName) (bytes : ByteArray) (maxL : Nat) (ret : Option FieldType) (hh : List (Nat × Nat × Nat × Nat)) (ws : List Cond) (rm : Room) (mc ms n : Nat) : Prop :=
  (rm.cells = mc ∧ rm.slots = ms ∧ rm.frames + 1 ≤ R.frames ∧ 8 + (maxL + 11) + rm.locals ≤ R.locals ∧ (∀ w ∈ ws, ∀ (a' : Array Value) (U : State), s.WarmedH U.vm → w.before a' U = true) ∧ Cond.codeWith y bytes maxL ret hh ∈ ws) ∧
  (Cond.codeWith y bytes maxL ret hh).before args s = true ∧ (Cond.initialized y.cls).before args s = true ∧ (y.cls ≠ "java/lang/invoke/MethodHandle" ∧ y.cls ≠ "java/lang/invoke/VarHandle") ∧
  (∀ sig, parseMethodDescriptor y.desc = some sig → n = sig.parameters.length) ∧ (Cond.methodLink own index y).before args s = true ∧ (Cond.instanceMethod y).before args s = true ∧ (Cond.selects C y y).before args s = true
theorem vx_cwVW {own C : String} {index maxL mc ms : Nat} {y : MethodName} {bytes : ByteArray} {ret : Option FieldType} {hh : List (Nat × Nat × Nat × Nat)} {Ts ws ws' : List Cond} {rm : Room} (n : Nat) (ht : ∀ w ∈ Ts, w.before args s = true) (hT : GoodIn Ts (wsV own index C y ws)) (hw : ws = Cond.codeWith y bytes maxL ret hh :: ws') (hrc : rm.cells = mc) (hrs : rm.slots = ms)
    (hd : y.cls = C ∧ y.cls ≠ "java/lang/invoke/MethodHandle" ∧ y.cls ≠ "java/lang/invoke/VarHandle" ∧ (parseMethodDescriptor y.desc).map (fun d => d.parameters.length) = some n) (hR : rm.frames + 1 ≤ R.frames ∧ 8 + (maxL + 11) + rm.locals ≤ R.locals) :
    vx_CVW R s args own C index y bytes maxL ret hh ws rm mc ms n := by
  obtain ⟨hC, hd⟩ := hd
  subst hC
  have ok : ∀ w ∈ wsV own index y.cls y ws, w.before args s = true := fun w h => ht w (hT w h).1
  have hG : GoodIn Ts ws := fun w h => hT w (by unfold wsV; exact List.mem_append_right _ h)
  have hc : Cond.codeWith y bytes maxL ret hh ∈ ws := by rw [hw]; exact List.mem_cons_self
  refine ⟨⟨hrc, hrs, hR.1, hR.2, pay_in ht hG, hc⟩, ht _ (hG _ hc).1, ok _ (by simp [wsV]), ⟨hd.1, hd.2.1⟩, fun sig h => ?_, ok _ (by simp [wsV]), ok _ (by simp [wsV]), ok _ (by simp [wsV])⟩
  have h2 := hd.2.2
  rw [h] at h2
  exact (Option.some.inj h2).symm
theorem vx_runVW {y : MethodName} {bytes cc : ByteArray} {maxL nL mc ms n index : Nat} {ret : Option FieldType} {hh : List (Nat × Nat × Nat × Nat)} {ws : List Cond} {rm : Room} {Pc : Array Value → State → Prop} {Qc : Array Value → State → Outcome → State → Prop} {free : Addr → Prop} {Ts : List Cond} {own C : String} {b : Addr} {As rest : List Value} {g : JFrame}
    (S : CallFix p m c cc nL s args Ts own) (hM : Met l y ws rm Pc Qc mc ms free) (cw : vx_CVW R s args own C index y bytes maxL ret hh ws rm mc ms n) (hp : PreV s H C b Pc As)
    (hg : g.method = m) (hn : As.length = n) (hsize : g.locals.size = nL) (hstack : g.stack = As.reverse ++ .ref b :: rest) (hW : 2 * g.monitorRoom + (rest.map fun v => v.category).sum ≤ 8) (hdg : decode cc g.pc = .ok (.invokevirtual index, 3)) (hf : cells + mc ≤ R.cells ∧ slots + ms ≤ R.slots) :
    va_Run p l e R s m args below meth c H locs cells slots mc ms g rest (Qc (Value.ref b :: As).toArray) free := by
  obtain ⟨⟨hrc, hrs, hfr, hlo, hws, hcw⟩, hcode, hini, hy, hlen, hl, hin, hse⟩ := cw
  have hK : Back l R p e below s args y 3 8 (PreOf R mc ms Pc) (PostOf Qc mc ms free) := va_backW (hh := hh) (bytes := bytes) (maxL := maxL) (ret := ret) hM hp.1 hrc hrs hfr hlo hws hcw (fun a' U hW => word_at hW (Or.inl (by first | rfl | simp [Cond.onTables, Cond.keeps, Cond.steady])) hini)
  obtain ⟨hx, hb, hml, ho, -⟩ := S
  obtain ⟨-, ⟨cellB, hcB, hoB, hclB⟩, hPc⟩ := hp
  intro T hT X
  obtain ⟨v, vm₁, ⟨U', l2, c2, s2⟩, hW₁, X', ⟨g', mk, t, L, e1, e2, hq, h1, hL, h2, h3⟩, st⟩ := vx_callVW X hx (C := C) (hh := hh) (bytes := bytes) (maxL := maxL) (ret := ret) ho hl hin hse hcode hy hK (by rw [hT]; exact hcB) hoB hclB hg (hsize.trans hml.symm) (argsL := As) (rest := rest) (fun sig h => hn.trans (hlen sig h)) hstack hW (by rw [hb]; exact hdg)
    (fun vm₁ hW₁ => ⟨hf.1, hf.2, hPc (T.setVm vm₁) hT hW₁⟩)
  dsimp only [Pt.U, Pt.locs, Pt.cells, Pt.slots] at X' e1 e2 h1 h2 h3 st
  subst h1; subst h2; subst h3
  exact ⟨v, (T.setVm vm₁).calling g' mk (Value.ref b :: As).toArray, t, U', L, hT, X', hL, e1, e2, hq, st⟩
section
variable {y : MethodName} {bytes cc : ByteArray} {maxL nL mc ms n index : Nat} {ret : Option FieldType} {ws : List Cond} {rm : Room} {Pc : Array Value → State → Prop} {Qc : Array Value → State → Outcome → State → Prop} {XC : String → State → State → Prop} {free : Addr → Prop} {Ts : List Cond} {own C : String} {b : Addr} {As rest : List Value} {g : JFrame}
theorem vx_runVX {hh : List (Nat × Nat × Nat × Nat)} (S : CallFix p m c cc nL s args Ts own) (hM : vx_Met l y ws rm Pc Qc XC mc ms free) (cw : vx_CVW R s args own C index y bytes maxL ret hh ws rm mc ms n) (hp : PreV s H C b Pc As)
    (hg : g.method = m) (hn : As.length = n) (hsize : g.locals.size = nL) (hstack : g.stack = As.reverse ++ .ref b :: rest) (hW : 2 * g.monitorRoom + (rest.map fun v => v.category).sum ≤ 8) (hdg : decode cc g.pc = .ok (.invokevirtual index, 3)) (hf : cells + mc ≤ R.cells ∧ slots + ms ≤ R.slots) :
    vx_Run p l e R s m args below meth c H locs cells slots mc ms g rest (Qc (Value.ref b :: As).toArray) XC free := by
  obtain ⟨⟨hrc, hrs, hfr, hlo, hws, hcw⟩, hcode, hini, hy, hlen, hl, hin, hse⟩ := cw
  have hK : vx_Back l R p e below s args y 3 8 (PreOf R mc ms Pc) (PostOf Qc mc ms free) (vx_Post XC mc ms free) := vx_backW (hh := hh) (bytes := bytes) (maxL := maxL) (ret := ret) hM hp.1 hrc hrs hfr hlo hws hcw (fun a' U hW => word_at hW (Or.inl (by first | rfl | simp [Cond.onTables, Cond.keeps, Cond.steady])) hini)
  obtain ⟨hx, hb, hml, ho, -⟩ := S
  obtain ⟨-, ⟨cellB, hcB, hoB, hclB⟩, hPc⟩ := hp
  intro T hT X
  rcases vx_callVX X hx (C := C) (hh := hh) (bytes := bytes) (maxL := maxL) (ret := ret) ho hl hin hse hcode hy hK (by rw [hT]; exact hcB) hoB hclB hg (hsize.trans hml.symm) (argsL := As) (rest := rest) (fun sig h => hn.trans (hlen sig h)) hstack hW (by rw [hb]; exact hdg)
    (fun vm₁ hW₁ => ⟨hf.1, hf.2, hPc (T.setVm vm₁) hT hW₁⟩) with ⟨v, vm₁, ⟨U', l2, c2, s2⟩, hW₁, X', ⟨g', mk, t, L, e1, e2, hq, h1, hL, h2, h3⟩, st⟩ | ⟨q, vm₁, ⟨U', l2, c2, s2⟩, hW₁, X', ⟨g', mk, t, L, E, ce, e1, e2, hq, hce, hcv, hcl, h1, hL, h2, h3⟩, st⟩
  · dsimp only [Pt.U, Pt.locs, Pt.cells, Pt.slots] at X' e1 e2 h1 h2 h3 st
    subst h1; subst h2; subst h3
    exact Or.inl ⟨v, (T.setVm vm₁).calling g' mk (Value.ref b :: As).toArray, t, U', L, hT, X', hL, e1, e2, hq, st⟩
  · dsimp only [Pt.U, Pt.locs, Pt.cells, Pt.slots] at X' e1 e2 h1 h2 h3 st hcl
    subst h1; subst h2; subst h3
    exact Or.inr ⟨q, (T.setVm vm₁).calling g' mk (Value.ref b :: As).toArray, t, U', L, E, ce, hT, X', hL, e1, e2, hq, hce, hcv, vx_cls hW₁ hcl, st⟩
theorem vx_runSX {hh : List (Nat × Nat × Nat × Nat)} (S : CallFix p m c cc nL s args Ts own) (hM : vx_Met l y ws rm Pc Qc XC mc ms free) (cw : vx_CSW R s args own index y bytes maxL ret hh ws rm mc ms n) (hp : PreS s H Pc As)
    (hg : g.method = m) (hn : As.length = n) (hsize : g.locals.size = nL) (hstack : g.stack = As.reverse ++ rest) (hW : 2 * g.monitorRoom + (rest.map fun v => v.category).sum ≤ 8) (hdg : decode cc g.pc = .ok (.invokestatic index, 3)) (hf : cells + mc ≤ R.cells ∧ slots + ms ≤ R.slots) :
    vx_Run p l e R s m args below meth c H locs cells slots mc ms g rest (Qc As.toArray) XC free := by
  obtain ⟨⟨hrc, hrs, hfr, hlo, hws, hcw⟩, hcode, hini, hy, hlen, hl, hstt⟩ := cw
  have hK : vx_Back l R p e below s args y 3 8 (PreOf R mc ms Pc) (PostOf Qc mc ms free) (vx_Post XC mc ms free) := vx_backW (hh := hh) (bytes := bytes) (maxL := maxL) (ret := ret) hM hp.1 hrc hrs hfr hlo hws hcw (fun a' U hW => word_at hW (Or.inl (by first | rfl | simp [Cond.onTables, Cond.keeps, Cond.steady])) hini)
  obtain ⟨hx, hb, hml, ho, -⟩ := S
  intro T hT X
  rcases vx_callSX X hx (hh := hh) (bytes := bytes) (maxL := maxL) (ret := ret) ho hl hstt hini hcode hy hK hg (hsize.trans hml.symm) (argsL := As) (rest := rest) (fun sig h => hn.trans (hlen sig h)) hstack hW (by rw [hb]; exact hdg)
    (fun vm₁ hW₁ => ⟨hf.1, hf.2, hp.2 (T.setVm vm₁) hT hW₁⟩) with ⟨v, vm₁, ⟨U', l2, c2, s2⟩, hW₁, X', ⟨g', mk, t, L, e1, e2, hq, h1, hL, h2, h3⟩, st⟩ | ⟨q, vm₁, ⟨U', l2, c2, s2⟩, hW₁, X', ⟨g', mk, t, L, E, ce, e1, e2, hq, hce, hcv, hcl, h1, hL, h2, h3⟩, st⟩
  · dsimp only [Pt.U, Pt.locs, Pt.cells, Pt.slots] at X' e1 e2 h1 h2 h3 st
    subst h1; subst h2; subst h3
    exact Or.inl ⟨v, (T.setVm vm₁).calling g' mk As.toArray, t, U', L, hT, X', hL, e1, e2, hq, st⟩
  · dsimp only [Pt.U, Pt.locs, Pt.cells, Pt.slots] at X' e1 e2 h1 h2 h3 st hcl
    subst h1; subst h2; subst h3
    exact Or.inr ⟨q, (T.setVm vm₁).calling g' mk As.toArray, t, U', L, E, ce, hT, X', hL, e1, e2, hq, hce, hcv, vx_cls hW₁ hcl, st⟩
end
end VXH
theorem vx_ofWH {l : Launch} {y : MethodName} {ws ws' : List Cond} {rm : Room} {Pc : Array Value → State → Prop} {Qc : Array Value → State → Outcome → State → Prop} {XC : String → State → State → Prop} {mc ms : Nat} {free : Addr → Prop} {cc : ByteArray} {maxL : Nat} {ret : Option FieldType} {hh : List (Nat × Nat × Nat × Nat)}
    (hy : plainName y.cls = true) (hw : ws = Cond.codeWith y cc maxL ret hh :: ws')
    (body : ∀ p e s m args below meth c s₁, BodyLoose p l y (headSpec ws rm) cc maxL ret e s m args below meth c s₁ → c.maxLocals = maxL → Pc args s →
      W p l e (headSpec ws rm).room s m args below meth c s.heap [] 0 0 (vx_MQ below Qc XC args s mc ms free) (entryFrame m args maxL)) : vx_Met l y ws rm Pc Qc XC mc ms free := by
  refine MetFree.of_bodyS (code := cc) (maxLocals := maxL) (ret := ret) hy ?_ ?_
  · intro args s m h hn
    obtain ⟨m9, meth, c, hn9, h1, h2, h3, h4, -, h5, h6, -⟩ := Cond.codeWith_spec (atoms_spec (ws := ws) h _ (by rw [hw]; exact List.mem_cons_self))
    cases hn.symm.trans hn9
    exact ⟨meth, c, h1, h2, h3, h4, h5, h6⟩
  · intro p e s m args below meth c s₁ B hml hP _
    have hh0 : s₁.heap = s.heap := by rw [B.state]; rfl
    obtain ⟨t, a1, o, b1, b2, b3⟩ := body p e s m args below meth c s₁ B hml hP s₁ hh0 (Stand.of_body B)
    exact ⟨t, o, a1, b1, b2, b3⟩
/-! ===== END ===== -/
end
section
/-! ===== BEGIN printed: names, fields, word lists, decode rows ===== -/
def RX0 : String := "KayfabeRing$Card"
def TX0 : u_T := fun k => match k with
  | 0 => ("KayfabeRing$Card", "matches", "[LKayfabeRing$Match;", true)
  | 1 => ("KayfabeRing$Card", "town", "I", false)
  | 2 => ("KayfabeRing$Card", "size", "I", false)
  | _ => ("KayfabeRing$Card", "isPlayed", "Z", false)
def tyX0 : Nat → FieldType := fun k => match k with
  | 0 => .array (.object "KayfabeRing$Match")
  | 1 => .int
  | 2 => .int
  | _ => .boolean
abbrev wsX00 : List Cond := u_ws RX0 TX0 4
theorem nmX0 : ∀ a, a < 4 → ∀ b, b < 4 → a ≠ b → (TX0 a).2.1 ≠ (TX0 b).2.1 := by decide +kernel
theorem tyX0_ok : ∀ k, k < 4 → parseFieldDescriptor (TX0 k).2.2.1 = some (tyX0 k) := by decide +kernel
abbrev cX0_init : ByteArray := prog_2_method_1_code
def yX0_init : MethodName := ⟨RX0, "<init>", "()V"⟩
abbrev cX0_hasMatch : ByteArray := prog_2_method_2_code
def yX0_hasMatch : MethodName := ⟨RX0, "hasMatch", "(I)Z"⟩
abbrev cX0_hasRoom : ByteArray := prog_2_method_3_code
def yX0_hasRoom : MethodName := ⟨RX0, "hasRoom", "(II)Z"⟩
abbrev cX0_hasWrestler : ByteArray := prog_2_method_4_code
def yX0_hasWrestler : MethodName := ⟨RX0, "hasWrestler", "(I)Z"⟩
abbrev cX0_hasTitle : ByteArray := prog_2_method_5_code
def yX0_hasTitle : MethodName := ⟨RX0, "hasTitle", "(I)Z"⟩
abbrev cX0_allMinutes : ByteArray := prog_2_method_6_code
def yX0_allMinutes : MethodName := ⟨RX0, "allMinutes", "()I"⟩
abbrev cX0_winsOf : ByteArray := prog_2_method_7_code
def yX0_winsOf : MethodName := ⟨RX0, "winsOf", "(II)I"⟩
abbrev cX0_remove : ByteArray := prog_2_method_8_code
def yX0_remove : MethodName := ⟨RX0, "remove", "(I)V"⟩
def RX1 : String := "KayfabeRing$Match"
def TX1 : u_T := fun k => match k with
  | 0 => ("KayfabeRing$Match", "first", "I", false)
  | 1 => ("KayfabeRing$Match", "second", "I", false)
  | 2 => ("KayfabeRing$Match", "firstWins", "Z", false)
  | 3 => ("KayfabeRing$Match", "minutes", "I", false)
  | 4 => ("KayfabeRing$Match", "title", "I", false)
  | _ => ("KayfabeRing$Match", "isReal", "Z", false)
def tyX1 : Nat → FieldType := fun k => match k with
  | 0 => .int
  | 1 => .int
  | 2 => .boolean
  | 3 => .int
  | 4 => .int
  | _ => .boolean
abbrev wsX10 : List Cond := u_ws RX1 TX1 6
theorem nmX1 : ∀ a, a < 6 → ∀ b, b < 6 → a ≠ b → (TX1 a).2.1 ≠ (TX1 b).2.1 := by decide +kernel
theorem tyX1_ok : ∀ k, k < 6 → parseFieldDescriptor (TX1 k).2.2.1 = some (tyX1 k) := by decide +kernel
abbrev cX1_init : ByteArray := prog_3_method_1_code
def yX1_init : MethodName := ⟨RX1, "<init>", "()V"⟩
abbrev cX1_become : ByteArray := prog_3_method_2_code
def yX1_become : MethodName := ⟨RX1, "become", "(IIZII)V"⟩
abbrev cX1_winner : ByteArray := prog_3_method_3_code
def yX1_winner : MethodName := ⟨RX1, "winner", "()I"⟩
abbrev cX1_loser : ByteArray := prog_3_method_4_code
def yX1_loser : MethodName := ⟨RX1, "loser", "()I"⟩
def RX2 : String := "KayfabeRing$Mender"
def TX2 : u_T := fun k => match k with
  | 0 => ("KayfabeRing$Mender", "seats", "[I", true)
  | 1 => ("KayfabeRing$Mender", "isOpen", "[Z", true)
  | 2 => ("KayfabeRing$Mender", "openSeats", "[I", true)
  | 3 => ("KayfabeRing$Mender", "bestComers", "[I", true)
  | 4 => ("KayfabeRing$Mender", "choices", "[I", true)
  | 5 => ("KayfabeRing$Mender", "candidates", "[I", true)
  | 6 => ("KayfabeRing$Mender", "worths", "[I", true)
  | 7 => ("KayfabeRing$Mender", "isTaken", "[Z", true)
  | 8 => ("KayfabeRing$Mender", "roster", "[LKayfabeRing$Wrestler;", false)
  | 9 => ("KayfabeRing$Mender", "card", "LKayfabeRing$Card;", false)
  | 10 => ("KayfabeRing$Mender", "day", "I", false)
  | 11 => ("KayfabeRing$Mender", "openCount", "I", false)
  | 12 => ("KayfabeRing$Mender", "candidateCount", "I", false)
  | _ => ("KayfabeRing$Mender", "bestSum", "I", false)
def tyX2 : Nat → FieldType := fun k => match k with
  | 0 => .array .int
  | 1 => .array .boolean
  | 2 => .array .int
  | 3 => .array .int
  | 4 => .array .int
  | 5 => .array .int
  | 6 => .array .int
  | 7 => .array .boolean
  | 8 => .array (.object "KayfabeRing$Wrestler")
  | 9 => .object "KayfabeRing$Card"
  | 10 => .int
  | 11 => .int
  | 12 => .int
  | _ => .int
abbrev wsX20 : List Cond := u_ws RX2 TX2 14
theorem nmX2 : ∀ a, a < 14 → ∀ b, b < 14 → a ≠ b → (TX2 a).2.1 ≠ (TX2 b).2.1 := by decide +kernel
theorem tyX2_ok : ∀ k, k < 14 → parseFieldDescriptor (TX2 k).2.2.1 = some (tyX2 k) := by decide +kernel
abbrev cX2_init : ByteArray := prog_4_method_1_code
def yX2_init : MethodName := ⟨RX2, "<init>", "()V"⟩
abbrev cX2_lookAt : ByteArray := prog_4_method_2_code
def yX2_lookAt : MethodName := ⟨RX2, "lookAt", "(LKayfabeRing$Card;I[LKayfabeRing$Wrestler;I)V"⟩
abbrev cX2_lookAtSeat : ByteArray := prog_4_method_3_code
def yX2_lookAtSeat : MethodName := ⟨RX2, "lookAtSeat", "(II)V"⟩
abbrev cX2_findBest : ByteArray := prog_4_method_4_code
def yX2_findBest : MethodName := ⟨RX2, "findBest", "()I"⟩
abbrev cX2_fillFrom : ByteArray := prog_4_method_5_code
def yX2_fillFrom : MethodName := ⟨RX2, "fillFrom", "(LKayfabeRing$Mender;II)V"⟩
abbrev cX2_keepIfBetter : ByteArray := prog_4_method_6_code
def yX2_keepIfBetter : MethodName := ⟨RX2, "keepIfBetter", "(I)V"⟩
abbrev cX2_isBarred : ByteArray := prog_4_method_7_code
def yX2_isBarred : MethodName := ⟨RX2, "isBarred", "(I)Z"⟩
abbrev cX2_carryOut : ByteArray := prog_4_method_8_code
def yX2_carryOut : MethodName := ⟨RX2, "carryOut", "()I"⟩
abbrev cX2_tryAllWays : ByteArray := prog_4_method_9_code
def yX2_tryAllWays : MethodName := ⟨RX2, "tryAllWays", "()I"⟩
abbrev cX2_goToNextWay : ByteArray := prog_4_method_10_code
def yX2_goToNextWay : MethodName := ⟨RX2, "goToNextWay", "()Z"⟩
abbrev cX2_sumOfWay : ByteArray := prog_4_method_11_code
def yX2_sumOfWay : MethodName := ⟨RX2, "sumOfWay", "()I"⟩
abbrev cX2_isAllowed : ByteArray := prog_4_method_12_code
def yX2_isAllowed : MethodName := ⟨RX2, "isAllowed", "(I)Z"⟩
def RX3 : String := "KayfabeRing$Title"
def TX3 : u_T := fun k => match k with
  | 0 => ("KayfabeRing$Title", "holders", "[I", true)
  | 1 => ("KayfabeRing$Title", "days", "[I", true)
  | 2 => ("KayfabeRing$Title", "length", "I", false)
  | _ => ("KayfabeRing$Title", "holder", "I", false)
def tyX3 : Nat → FieldType := fun k => match k with
  | 0 => .array .int
  | 1 => .array .int
  | 2 => .int
  | _ => .int
abbrev wsX30 : List Cond := u_ws RX3 TX3 4
theorem nmX3 : ∀ a, a < 4 → ∀ b, b < 4 → a ≠ b → (TX3 a).2.1 ≠ (TX3 b).2.1 := by decide +kernel
theorem tyX3_ok : ∀ k, k < 4 → parseFieldDescriptor (TX3 k).2.2.1 = some (tyX3 k) := by decide +kernel
abbrev cX3_init : ByteArray := prog_5_method_1_code
def yX3_init : MethodName := ⟨RX3, "<init>", "()V"⟩
abbrev cX3_goTo : ByteArray := prog_5_method_2_code
def yX3_goTo : MethodName := ⟨RX3, "goTo", "(II)V"⟩
def RX4 : String := "KayfabeRing$Wrestler"
def TX4 : u_T := fun k => match k with
  | 0 => ("KayfabeRing$Wrestler", "loves", "[I", true)
  | 1 => ("KayfabeRing$Wrestler", "clauseDays", "[I", true)
  | 2 => ("KayfabeRing$Wrestler", "wonAgainst", "[I", true)
  | 3 => ("KayfabeRing$Wrestler", "skill", "I", false)
  | 4 => ("KayfabeRing$Wrestler", "mic", "I", false)
  | 5 => ("KayfabeRing$Wrestler", "role", "I", false)
  | 6 => ("KayfabeRing$Wrestler", "strain", "I", false)
  | 7 => ("KayfabeRing$Wrestler", "hurtBefore", "I", false)
  | 8 => ("KayfabeRing$Wrestler", "heads", "I", false)
  | 9 => ("KayfabeRing$Wrestler", "won", "I", false)
  | 10 => ("KayfabeRing$Wrestler", "lost", "I", false)
  | 11 => ("KayfabeRing$Wrestler", "real", "I", false)
  | 12 => ("KayfabeRing$Wrestler", "protectedBefore", "I", false)
  | _ => ("KayfabeRing$Wrestler", "promoDay", "I", false)
def tyX4 : Nat → FieldType := fun k => match k with
  | 0 => .array .int
  | 1 => .array .int
  | 2 => .array .int
  | 3 => .int
  | 4 => .int
  | 5 => .int
  | 6 => .int
  | 7 => .int
  | 8 => .int
  | 9 => .int
  | 10 => .int
  | 11 => .int
  | 12 => .int
  | _ => .int
abbrev wsX40 : List Cond := u_ws RX4 TX4 14
theorem nmX4 : ∀ a, a < 14 → ∀ b, b < 14 → a ≠ b → (TX4 a).2.1 ≠ (TX4 b).2.1 := by decide +kernel
theorem tyX4_ok : ∀ k, k < 14 → parseFieldDescriptor (TX4 k).2.2.1 = some (tyX4 k) := by decide +kernel
abbrev cX4_init : ByteArray := prog_6_method_1_code
def yX4_init : MethodName := ⟨RX4, "<init>", "()V"⟩
abbrev cX4_isHurtOn : ByteArray := prog_6_method_2_code
def yX4_isHurtOn : MethodName := ⟨RX4, "isHurtOn", "(I)Z"⟩
abbrev cX4_isBarredFromLosing : ByteArray := prog_6_method_3_code
def yX4_isBarredFromLosing : MethodName := ⟨RX4, "isBarredFromLosing", "(II)Z"⟩
abbrev cX4_worthIn : ByteArray := prog_6_method_4_code
def yX4_worthIn : MethodName := ⟨RX4, "worthIn", "(I)I"⟩
abbrev cX4_addLove : ByteArray := prog_6_method_5_code
def yX4_addLove : MethodName := ⟨RX4, "addLove", "(II)V"⟩
abbrev cX4_turn : ByteArray := prog_6_method_6_code
def yX4_turn : MethodName := ⟨RX4, "turn", "()V"⟩
def RX5 : String := "KayfabeRing"
def TX5 : u_T := fun k => match k with
  | 0 => ("KayfabeRing", "roster", "[LKayfabeRing$Wrestler;", true)
  | 1 => ("KayfabeRing", "titles", "[LKayfabeRing$Title;", true)
  | 2 => ("KayfabeRing", "cards", "[LKayfabeRing$Card;", true)
  | 3 => ("KayfabeRing", "noCard", "LKayfabeRing$Card;", true)
  | 4 => ("KayfabeRing", "gates", "[I", true)
  | 5 => ("KayfabeRing", "mender", "LKayfabeRing$Mender;", true)
  | 6 => ("KayfabeRing", "rosterSize", "I", false)
  | 7 => ("KayfabeRing", "titleCount", "I", false)
  | _ => ("KayfabeRing", "today", "I", false)
def tyX5 : Nat → FieldType := fun k => match k with
  | 0 => .array (.object "KayfabeRing$Wrestler")
  | 1 => .array (.object "KayfabeRing$Title")
  | 2 => .array (.object "KayfabeRing$Card")
  | 3 => .object "KayfabeRing$Card"
  | 4 => .array .int
  | 5 => .object "KayfabeRing$Mender"
  | 6 => .int
  | 7 => .int
  | _ => .int
abbrev wsX50 : List Cond := u_ws RX5 TX5 9
theorem nmX5 : ∀ a, a < 9 → ∀ b, b < 9 → a ≠ b → (TX5 a).2.1 ≠ (TX5 b).2.1 := by decide +kernel
theorem tyX5_ok : ∀ k, k < 9 → parseFieldDescriptor (TX5 k).2.2.1 = some (tyX5 k) := by decide +kernel
abbrev cX5_init : ByteArray := prog_1_method_1_code
def yX5_init : MethodName := ⟨RX5, "<init>", "()V"⟩
abbrev cX5_wrestler : ByteArray := prog_1_method_2_code
def yX5_wrestler : MethodName := ⟨RX5, "wrestler", "(III)I"⟩
abbrev cX5_title : ByteArray := prog_1_method_3_code
def yX5_title : MethodName := ⟨RX5, "title", "()I"⟩
abbrev cX5_clause : ByteArray := prog_1_method_4_code
def yX5_clause : MethodName := ⟨RX5, "clause", "(III)I"⟩
abbrev cX5_protect : ByteArray := prog_1_method_5_code
def yX5_protect : MethodName := ⟨RX5, "protect", "(II)I"⟩
abbrev cX5_book : ByteArray := prog_1_method_6_code
def yX5_book : MethodName := ⟨RX5, "book", "(IIIIZII)I"⟩
abbrev cX5_strike : ByteArray := prog_1_method_7_code
def yX5_strike : MethodName := ⟨RX5, "strike", "(II)I"⟩
abbrev cX5_shoot : ByteArray := prog_1_method_8_code
def yX5_shoot : MethodName := ⟨RX5, "shoot", "(I)Z"⟩
abbrev cX5_hurt : ByteArray := prog_1_method_9_code
def yX5_hurt : MethodName := ⟨RX5, "hurt", "(II)I"⟩
abbrev cX5_head : ByteArray := prog_1_method_10_code
def yX5_head : MethodName := ⟨RX5, "head", "(I)I"⟩
abbrev cX5_mend : ByteArray := prog_1_method_11_code
def yX5_mend : MethodName := ⟨RX5, "mend", "()I"⟩
abbrev cX5_play : ByteArray := prog_1_method_12_code
def yX5_play : MethodName := ⟨RX5, "play", "()I"⟩
abbrev cX5_promo : ByteArray := prog_1_method_13_code
def yX5_promo : MethodName := ⟨RX5, "promo", "(III)I"⟩
abbrev cX5_pass : ByteArray := prog_1_method_14_code
def yX5_pass : MethodName := ⟨RX5, "pass", "()I"⟩
abbrev cX5_day : ByteArray := prog_1_method_15_code
def yX5_day : MethodName := ⟨RX5, "day", "()I"⟩
abbrev cX5_ofWrestler : ByteArray := prog_1_method_16_code
def yX5_ofWrestler : MethodName := ⟨RX5, "ofWrestler", "(II)I"⟩
abbrev cX5_love : ByteArray := prog_1_method_17_code
def yX5_love : MethodName := ⟨RX5, "love", "(II)I"⟩
abbrev cX5_worth : ByteArray := prog_1_method_18_code
def yX5_worth : MethodName := ⟨RX5, "worth", "(II)I"⟩
abbrev cX5_ofCard : ByteArray := prog_1_method_19_code
def yX5_ofCard : MethodName := ⟨RX5, "ofCard", "(II)I"⟩
abbrev cX5_ofMatch : ByteArray := prog_1_method_20_code
def yX5_ofMatch : MethodName := ⟨RX5, "ofMatch", "(III)I"⟩
abbrev cX5_lineage : ByteArray := prog_1_method_21_code
def yX5_lineage : MethodName := ⟨RX5, "lineage", "(IIZ)I"⟩
abbrev cX5_champion : ByteArray := prog_1_method_22_code
def yX5_champion : MethodName := ⟨RX5, "champion", "(I)I"⟩
abbrev cX5_beat : ByteArray := prog_1_method_23_code
def yX5_beat : MethodName := ⟨RX5, "beat", "(II)I"⟩
abbrev cX5_beatAnew : ByteArray := prog_1_method_24_code
def yX5_beatAnew : MethodName := ⟨RX5, "beatAnew", "(II)I"⟩
abbrev cX5_gate : ByteArray := prog_1_method_25_code
def yX5_gate : MethodName := ⟨RX5, "gate", "(I)I"⟩
abbrev cX5_mending : ByteArray := prog_1_method_26_code
def yX5_mending : MethodName := ⟨RX5, "mending", "()I"⟩
abbrev cX5_mendingAnew : ByteArray := prog_1_method_27_code
def yX5_mendingAnew : MethodName := ⟨RX5, "mendingAnew", "()I"⟩
abbrev cX5_isWithin : ByteArray := prog_1_method_28_code
def yX5_isWithin : MethodName := ⟨RX5, "isWithin", "(III)Z"⟩
abbrev cX5_isWrestler : ByteArray := prog_1_method_29_code
def yX5_isWrestler : MethodName := ⟨RX5, "isWrestler", "(I)Z"⟩
abbrev cX5_isTitle : ByteArray := prog_1_method_30_code
def yX5_isTitle : MethodName := ⟨RX5, "isTitle", "(I)Z"⟩
abbrev cX5_isTown : ByteArray := prog_1_method_31_code
def yX5_isTown : MethodName := ⟨RX5, "isTown", "(I)Z"⟩
abbrev cX5_cardOf : ByteArray := prog_1_method_32_code
def yX5_cardOf : MethodName := ⟨RX5, "cardOf", "(I)LKayfabeRing$Card;"⟩
abbrev cX5_cardToBook : ByteArray := prog_1_method_33_code
def yX5_cardToBook : MethodName := ⟨RX5, "cardToBook", "(I)LKayfabeRing$Card;"⟩
abbrev cX5_isAtStake : ByteArray := prog_1_method_34_code
def yX5_isAtStake : MethodName := ⟨RX5, "isAtStake", "(III)Z"⟩
abbrev cX5_injure : ByteArray := prog_1_method_35_code
def yX5_injure : MethodName := ⟨RX5, "injure", "(II)I"⟩
abbrev cX5_vacateTitlesOf : ByteArray := prog_1_method_36_code
def yX5_vacateTitlesOf : MethodName := ⟨RX5, "vacateTitlesOf", "(I)V"⟩
abbrev cX5_hasHurtOnes : ByteArray := prog_1_method_37_code
def yX5_hasHurtOnes : MethodName := ⟨RX5, "hasHurtOnes", "(LKayfabeRing$Card;)Z"⟩
abbrev cX5_playMatch : ByteArray := prog_1_method_38_code
def yX5_playMatch : MethodName := ⟨RX5, "playMatch", "(LKayfabeRing$Match;I)I"⟩
abbrev cX5_decide : ByteArray := prog_1_method_39_code
def yX5_decide : MethodName := ⟨RX5, "decide", "(III)V"⟩
abbrev cX5_handOver : ByteArray := prog_1_method_40_code
def yX5_handOver : MethodName := ⟨RX5, "handOver", "(LKayfabeRing$Match;)V"⟩
abbrev cX5_mendersView : ByteArray := prog_1_method_41_code
def yX5_mendersView : MethodName := ⟨RX5, "mendersView", "()LKayfabeRing$Mender;"⟩
def RX6 : String := "KayfabeRingModel"
def TX6 : u_T := fun k => match k with
  | _ => ("", "", "", false)
def tyX6 : Nat → FieldType := fun k => match k with
  | _ => .int
abbrev wsX60 : List Cond := u_ws RX6 TX6 0
theorem nmX6 : ∀ a, a < 0 → ∀ b, b < 0 → a ≠ b → (TX6 a).2.1 ≠ (TX6 b).2.1 := by decide +kernel
theorem tyX6_ok : ∀ k, k < 0 → parseFieldDescriptor (TX6 k).2.2.1 = some (tyX6 k) := by decide +kernel
def RJx145de : String := "java/io/Serializable"
def TJx145de : u_T := fun k => match k with
  | _ => ("", "", "", false)
def tyJx145de : Nat → FieldType := fun k => match k with
  | _ => .int
abbrev wsJx145de0 : List Cond := u_ws RJx145de TJx145de 0
theorem nmJx145de : ∀ a, a < 0 → ∀ b, b < 0 → a ≠ b → (TJx145de a).2.1 ≠ (TJx145de b).2.1 := by decide +kernel
theorem tyJx145de_ok : ∀ k, k < 0 → parseFieldDescriptor (TJx145de k).2.2.1 = some (tyJx145de k) := by decide +kernel
def RJ9 : String := "java/lang/Math"
def TJ9 : u_T := fun k => match k with
  | _ => ("", "", "", false)
def tyJ9 : Nat → FieldType := fun k => match k with
  | _ => .int
abbrev wsJ90 : List Cond := u_ws RJ9 TJ9 0
theorem nmJ9 : ∀ a, a < 0 → ∀ b, b < 0 → a ≠ b → (TJ9 a).2.1 ≠ (TJ9 b).2.1 := by decide +kernel
theorem tyJ9_ok : ∀ k, k < 0 → parseFieldDescriptor (TJ9 k).2.2.1 = some (tyJ9 k) := by decide +kernel
abbrev cJ9_abs_0f7a4 : ByteArray := prog_13_method_59_code
def yJ9_abs_0f7a4 : MethodName := ⟨RJ9, "abs", "(I)I"⟩
abbrev cJ9_max_7cf53 : ByteArray := prog_13_method_65_code
def yJ9_max_7cf53 : MethodName := ⟨RJ9, "max", "(II)I"⟩
abbrev cJ9_min_7cf53 : ByteArray := prog_13_method_69_code
def yJ9_min_7cf53 : MethodName := ⟨RJ9, "min", "(II)I"⟩
def RJ0 : String := "java/lang/String"
def TJ0 : u_T := fun k => match k with
  | _ => ("", "", "", false)
def tyJ0 : Nat → FieldType := fun k => match k with
  | _ => .int
abbrev wsJ00 : List Cond := u_ws RJ0 TJ0 0
theorem nmJ0 : ∀ a, a < 0 → ∀ b, b < 0 → a ≠ b → (TJ0 a).2.1 ≠ (TJ0 b).2.1 := by decide +kernel
theorem tyJ0_ok : ∀ k, k < 0 → parseFieldDescriptor (TJ0 k).2.2.1 = some (tyJ0 k) := by decide +kernel
def RJ7 : String := "java/util/Arrays"
def TJ7 : u_T := fun k => match k with
  | _ => ("", "", "", false)
def tyJ7 : Nat → FieldType := fun k => match k with
  | _ => .int
abbrev wsJ70 : List Cond := u_ws RJ7 TJ7 0
theorem nmJ7 : ∀ a, a < 0 → ∀ b, b < 0 → a ≠ b → (TJ7 a).2.1 ≠ (TJ7 b).2.1 := by decide +kernel
theorem tyJ7_ok : ∀ k, k < 0 → parseFieldDescriptor (TJ7 k).2.2.1 = some (tyJ7 k) := by decide +kernel
abbrev cJ7_fill_53178 : ByteArray := prog_17_method_103_code
def yJ7_fill_53178 : MethodName := ⟨RJ7, "fill", "([II)V"⟩
def RL : String := "KayfabeRingLaw"
abbrev cL_from : ByteArray := method_2_code
def yL_from : MethodName := ⟨RL, "from", "([III)I"⟩
abbrev cL_slot : ByteArray := method_3_code
def yL_slot : MethodName := ⟨RL, "slot", "([II)I"⟩
abbrev cL_many : ByteArray := method_4_code
def yL_many : MethodName := ⟨RL, "many", "([II)I"⟩
abbrev cL_isHurt : ByteArray := method_5_code
def yL_isHurt : MethodName := ⟨RL, "isHurt", "([III)Z"⟩
abbrev cL_worth : ByteArray := method_6_code
def yL_worth : MethodName := ⟨RL, "worth", "([I[III)I"⟩
abbrev cL_isBarred : ByteArray := method_7_code
def yL_isBarred : MethodName := ⟨RL, "isBarred", "([I[IIII)Z"⟩
abbrev cL_isOn : ByteArray := method_8_code
def yL_isOn : MethodName := ⟨RL, "isOn", "([I[III)Z"⟩
abbrev cL_crown : ByteArray := method_9_code
def yL_crown : MethodName := ⟨RL, "crown", "([III)V"⟩
abbrev cL_isBooked : ByteArray := method_10_code
def yL_isBooked : MethodName := ⟨RL, "isBooked", "(LKayfabeRing;[I[I[I[II)Z"⟩
abbrev cL_strike : ByteArray := method_11_code
def yL_strike : MethodName := ⟨RL, "strike", "([I[III)V"⟩
abbrev cL_opens : ByteArray := method_12_code
def yL_opens : MethodName := ⟨RL, "opens", "([I[I[I)I"⟩
abbrev cL_count : ByteArray := method_13_code
def yL_count : MethodName := ⟨RL, "count", "(I)I"⟩
abbrev cL_sumOf : ByteArray := method_14_code
def yL_sumOf : MethodName := ⟨RL, "sumOf", "([I[I[I[I[III)I"⟩
abbrev cL_isAhead : ByteArray := method_15_code
def yL_isAhead : MethodName := ⟨RL, "isAhead", "(II)Z"⟩
abbrev cL_best : ByteArray := method_16_code
def yL_best : MethodName := ⟨RL, "best", "([I[I[I[I[II)I"⟩
abbrev cL_isMended : ByteArray := method_17_code
def yL_isMended : MethodName := ⟨RL, "isMended", "(LKayfabeRing;[I[I[I[I[I)Z"⟩
abbrev cL_love : ByteArray := method_18_code
def yL_love : MethodName := ⟨RL, "love", "([IIII)V"⟩
abbrev cL_turn : ByteArray := method_19_code
def yL_turn : MethodName := ⟨RL, "turn", "([I[II)V"⟩
abbrev cL_played : ByteArray := method_20_code
def yL_played : MethodName := ⟨RL, "played", "([I[I[I[I[II)I"⟩
abbrev cL_isSame : ByteArray := method_21_code
def yL_isSame : MethodName := ⟨RL, "isSame", "(LKayfabeRing;[I[I[I[I[I[II)Z"⟩
abbrev cL_isHurted : ByteArray := method_22_code
def yL_isHurted : MethodName := ⟨RL, "isHurted", "(LKayfabeRing;[I[II)Z"⟩
abbrev cL_isTold : ByteArray := method_23_code
def yL_isTold : MethodName := ⟨RL, "isTold", "(LKayfabeRing;[I[I[I[I[III)Z"⟩
abbrev cL_isPassed : ByteArray := method_24_code
def yL_isPassed : MethodName := ⟨RL, "isPassed", "(LKayfabeRing;[I[I[I[I[IZ)Z"⟩
abbrev cL_holds : ByteArray := method_25_code
def yL_holds : MethodName := ⟨RL, "holds", "([I)Z"⟩
abbrev cL_isHeld : ByteArray := method_26_code
def yL_isHeld : MethodName := ⟨RL, "isHeld", "([I)Z"⟩
abbrev cL_law : ByteArray := code
def yL_law : MethodName := ⟨RL, "law", "([I)Z"⟩
abbrev vwCl : List vw_C := [(RX0, TX0, 4), (RX1, TX1, 6), (RX2, TX2, 14), (RX3, TX3, 4), (RX4, TX4, 14), (RX5, TX5, 9)]
end
section
/-! the program as tables: by my own program (wip/p29/tools) out of the printed claim -/
abbrev RI : Type := Nat × Nat × Nat × Int
/-- 0: KayfabeRing$Card.<init>()V -/
def pg_c0 : List RI := [(3, 0, 0, 0), (43, 0, 0, 3), (3, 0, 0, 0), (0, 0, 0, 6), (39, 10, 0, 9), (36, 0, 0, 11), (0, 0, 0, 0), (2, 1, 0, 0), (1, 1, 0, 0), (0, 0, 0, 6), (18, 20, 3, 0), (3, 0, 0, 0), (34, 0, 0, 11), (1, 1, 0, 0), (37, 1, 0, 9), (13, 0, 0, 0), (42, 8, 1, 17), (32, 0, 0, 0), (5, 1, 0, 1), (16, 8, 0, 0), (47, 0, 0, 0)]
def pg_p0 : List Nat := [0, 1, 4, 5, 7, 10, 13, 14, 15, 16, 18, 21, 22, 25, 26, 29, 30, 33, 34, 37, 40]
def pg_w0 : List (List Nat) := [[], [61, 49, 50], [], [], [62], [101], [], [], [], [], [], [], [101], [], [62, 64, 22], [], [65], [], [], [], []]
/-- 1: KayfabeRing$Card.hasMatch(I)Z -/
def pg_c1 : List RI := [(1, 1, 0, 0), (17, 8, 2, 0), (1, 1, 0, 0), (3, 0, 0, 0), (33, 0, 2, 18), (18, 8, 3, 0), (0, 0, 0, 1), (16, 9, 0, 0), (0, 0, 0, 0), (45, 0, 0, 0)]
def pg_p1 : List Nat := [0, 1, 4, 5, 6, 9, 12, 13, 16, 17]
def pg_w1 : List (List Nat) := [[], [], [], [], [107], [], [], [], [], []]
/-- 2: KayfabeRing$Card.hasRoom(II)Z -/
def pg_c2 : List RI := [(3, 0, 0, 0), (33, 0, 3, 22), (17, 13, 1, 0), (3, 0, 0, 0), (33, 0, 2, 18), (0, 0, 0, 6), (18, 13, 3, 0), (3, 0, 0, 0), (41, 5, 0, 26), (1, 2, 0, 0), (6, 0, 0, 0), (0, 0, 0, 120), (18, 15, 5, 0), (0, 0, 0, 0), (45, 0, 0, 0), (3, 0, 0, 0), (33, 0, 2, 18), (17, 22, 0, 0), (3, 0, 0, 0), (33, 0, 1, 30), (1, 1, 0, 0), (18, 24, 1, 0), (0, 0, 0, 1), (16, 25, 0, 0), (0, 0, 0, 0), (45, 0, 0, 0)]
def pg_p2 : List Nat := [0, 1, 4, 7, 8, 11, 13, 16, 17, 20, 21, 22, 24, 27, 28, 29, 30, 33, 36, 37, 40, 41, 44, 45, 48, 49]
def pg_w2 : List (List Nat) := [[], [110], [], [], [107], [], [], [], [447], [], [], [], [], [], [], [], [107], [], [], [105], [], [], [], [], [], []]
/-- 3: KayfabeRing$Card.hasWrestler(I)Z -/
def pg_c3 : List RI := [(0, 0, 0, 0), (2, 2, 0, 0), (1, 2, 0, 0), (3, 0, 0, 0), (33, 0, 2, 18), (18, 24, 3, 0), (3, 0, 0, 0), (34, 0, 0, 11), (1, 2, 0, 0), (31, 0, 0, 0), (33, 1, 0, 33), (1, 1, 0, 0), (18, 20, 0, 0), (3, 0, 0, 0), (34, 0, 0, 11), (1, 2, 0, 0), (31, 0, 0, 0), (33, 1, 1, 36), (1, 1, 0, 0), (18, 22, 1, 0), (0, 0, 0, 1), (45, 0, 0, 0), (5, 2, 0, 1), (16, 2, 0, 0), (0, 0, 0, 0), (45, 0, 0, 0)]
def pg_p3 : List Nat := [0, 1, 2, 3, 4, 7, 10, 11, 14, 15, 16, 19, 20, 23, 24, 27, 28, 29, 32, 33, 36, 37, 38, 41, 44, 45]
def pg_w3 : List (List Nat) := [[], [], [], [], [107], [], [], [101], [], [], [71], [], [], [], [101], [], [], [75], [], [], [], [], [], [], [], []]
/-- 4: KayfabeRing$Card.hasTitle(I)Z -/
def pg_c4 : List RI := [(0, 0, 0, 0), (2, 2, 0, 0), (1, 2, 0, 0), (3, 0, 0, 0), (33, 0, 2, 18), (18, 20, 3, 0), (1, 1, 0, 0), (0, 0, 0, (-1)), (18, 18, 0, 0), (3, 0, 0, 0), (34, 0, 0, 11), (1, 2, 0, 0), (31, 0, 0, 0), (33, 1, 4, 39), (1, 1, 0, 0), (18, 18, 1, 0), (0, 0, 0, 1), (45, 0, 0, 0), (5, 2, 0, 1), (16, 2, 0, 0), (0, 0, 0, 0), (45, 0, 0, 0)]
def pg_p4 : List Nat := [0, 1, 2, 3, 4, 7, 10, 11, 12, 15, 16, 19, 20, 21, 24, 25, 28, 29, 30, 33, 36, 37]
def pg_w4 : List (List Nat) := [[], [], [], [], [107], [], [], [], [], [], [101], [], [], [83], [], [], [], [], [], [], [], []]
/-- 5: KayfabeRing$Card.allMinutes()I -/
def pg_c5 : List RI := [(0, 0, 0, 0), (2, 1, 0, 0), (0, 0, 0, 0), (2, 2, 0, 0), (1, 2, 0, 0), (3, 0, 0, 0), (33, 0, 2, 18), (18, 18, 3, 0), (1, 1, 0, 0), (3, 0, 0, 0), (34, 0, 0, 11), (1, 2, 0, 0), (31, 0, 0, 0), (33, 1, 3, 42), (6, 0, 0, 0), (2, 1, 0, 0), (5, 2, 0, 1), (16, 4, 0, 0), (1, 1, 0, 0), (45, 0, 0, 0)]
def pg_p5 : List Nat := [0, 1, 2, 3, 4, 5, 6, 9, 12, 13, 14, 17, 18, 19, 22, 23, 24, 27, 30, 31]
def pg_w5 : List (List Nat) := [[], [], [], [], [], [], [107], [], [], [], [101], [], [], [80], [], [], [], [], [], []]
/-- 6: KayfabeRing$Card.winsOf(II)I -/
def pg_c6 : List RI := [(0, 0, 0, 0), (2, 3, 0, 0), (0, 0, 0, 0), (2, 4, 0, 0), (1, 4, 0, 0), (3, 0, 0, 0), (33, 0, 2, 18), (18, 27, 3, 0), (3, 0, 0, 0), (34, 0, 0, 11), (1, 4, 0, 0), (31, 0, 0, 0), (4, 5, 0, 0), (3, 5, 0, 0), (33, 1, 5, 45), (17, 25, 1, 0), (3, 5, 0, 0), (41, 10, 0, 48), (1, 1, 0, 0), (18, 25, 1, 0), (3, 5, 0, 0), (41, 11, 0, 51), (1, 2, 0, 0), (18, 25, 1, 0), (5, 3, 0, 1), (5, 4, 0, 1), (16, 4, 0, 0), (1, 3, 0, 0), (45, 0, 0, 0)]
def pg_p6 : List Nat := [0, 1, 2, 3, 5, 7, 8, 11, 14, 15, 18, 20, 21, 23, 25, 28, 31, 33, 36, 37, 40, 42, 45, 46, 49, 52, 55, 58, 59]
def pg_w6 : List (List Nat) := [[], [], [], [], [], [], [107], [], [], [101], [], [], [], [], [86], [], [], [715], [], [], [], [716], [], [], [], [], [], [], []]
/-- 7: KayfabeRing$Card.remove(I)V -/
def pg_c7 : List RI := [(3, 0, 0, 0), (34, 0, 0, 11), (1, 1, 0, 0), (31, 0, 0, 0), (4, 2, 0, 0), (1, 1, 0, 0), (2, 3, 0, 0), (1, 3, 0, 0), (3, 0, 0, 0), (33, 0, 2, 18), (0, 0, 0, 1), (7, 0, 0, 0), (18, 25, 3, 0), (3, 0, 0, 0), (34, 0, 0, 11), (1, 3, 0, 0), (3, 0, 0, 0), (34, 0, 0, 11), (1, 3, 0, 0), (0, 0, 0, 1), (6, 0, 0, 0), (31, 0, 0, 0), (32, 0, 0, 0), (5, 3, 0, 1), (16, 7, 0, 0), (3, 0, 0, 0), (34, 0, 0, 11), (3, 0, 0, 0), (33, 0, 2, 18), (0, 0, 0, 1), (7, 0, 0, 0), (3, 2, 0, 0), (32, 0, 0, 0), (3, 0, 0, 0), (13, 0, 0, 0), (33, 0, 2, 18), (0, 0, 0, 1), (7, 0, 0, 0), (35, 0, 2, 18), (47, 0, 0, 0)]
def pg_p7 : List Nat := [0, 1, 4, 5, 6, 7, 8, 9, 10, 11, 14, 15, 16, 19, 20, 23, 24, 25, 28, 29, 30, 31, 32, 33, 36, 39, 40, 43, 44, 47, 48, 49, 50, 51, 52, 53, 56, 57, 58, 61]
def pg_w7 : List (List Nat) := [[], [101], [], [], [], [], [], [], [], [107], [], [], [], [], [101], [], [], [101], [], [], [], [], [], [], [], [], [101], [], [107], [], [], [], [], [], [], [107], [], [], [107], []]
/-- 8: KayfabeRing$Match.<init>()V -/
def pg_c8 : List RI := [(3, 0, 0, 0), (43, 0, 0, 1), (47, 0, 0, 0)]
def pg_p8 : List Nat := [0, 1, 4]
def pg_w8 : List (List Nat) := [[], [68, 49, 50], []]
/-- 9: KayfabeRing$Match.become(IIZII)V -/
def pg_c9 : List RI := [(3, 0, 0, 0), (1, 1, 0, 0), (35, 1, 0, 7), (3, 0, 0, 0), (1, 2, 0, 0), (35, 1, 1, 13), (3, 0, 0, 0), (1, 3, 0, 0), (50, 1, 2, 16), (3, 0, 0, 0), (1, 4, 0, 0), (35, 1, 3, 20), (3, 0, 0, 0), (1, 5, 0, 0), (35, 1, 4, 23), (3, 0, 0, 0), (0, 0, 0, 0), (50, 1, 5, 26), (47, 0, 0, 0)]
def pg_p9 : List Nat := [0, 1, 2, 5, 6, 7, 10, 11, 12, 15, 16, 18, 21, 22, 24, 27, 28, 29, 32]
def pg_w9 : List (List Nat) := [[], [], [69], [], [], [73], [], [], [77], [], [], [79], [], [], [82], [], [], [85], []]
/-- 10: KayfabeRing$Match.winner()I -/
def pg_c10 : List RI := [(3, 0, 0, 0), (33, 1, 2, 16), (17, 6, 0, 0), (3, 0, 0, 0), (33, 1, 0, 7), (16, 8, 0, 0), (3, 0, 0, 0), (33, 1, 1, 13), (45, 0, 0, 0)]
def pg_p10 : List Nat := [0, 1, 4, 7, 8, 11, 14, 15, 18]
def pg_w10 : List (List Nat) := [[], [77], [], [], [69], [], [], [73], []]
/-- 11: KayfabeRing$Match.loser()I -/
def pg_c11 : List RI := [(3, 0, 0, 0), (33, 1, 2, 16), (17, 6, 0, 0), (3, 0, 0, 0), (33, 1, 1, 13), (16, 8, 0, 0), (3, 0, 0, 0), (33, 1, 0, 7), (45, 0, 0, 0)]
def pg_p11 : List Nat := [0, 1, 4, 7, 8, 11, 14, 15, 18]
def pg_w11 : List (List Nat) := [[], [77], [], [], [73], [], [], [69], []]
/-- 12: KayfabeRing$Mender.<init>()V -/
def pg_c12 : List RI := [(3, 0, 0, 0), (43, 0, 0, 3), (3, 0, 0, 0), (0, 0, 0, 12), (38, 7, 0, 0), (36, 2, 0, 9), (3, 0, 0, 0), (0, 0, 0, 12), (38, 8, 0, 0), (36, 2, 1, 15), (3, 0, 0, 0), (0, 0, 0, 4), (38, 7, 0, 0), (36, 2, 2, 19), (3, 0, 0, 0), (0, 0, 0, 4), (38, 7, 0, 0), (36, 2, 3, 22), (3, 0, 0, 0), (0, 0, 0, 4), (38, 7, 0, 0), (36, 2, 4, 25), (3, 0, 0, 0), (0, 0, 0, 10), (38, 7, 0, 0), (36, 2, 5, 28), (3, 0, 0, 0), (0, 0, 0, 10), (38, 7, 0, 0), (36, 2, 6, 31), (3, 0, 0, 0), (0, 0, 0, 10), (38, 8, 0, 0), (36, 2, 7, 34), (3, 0, 0, 0), (0, 0, 0, 0), (39, 12, 0, 37), (36, 2, 8, 39), (3, 0, 0, 0), (37, 0, 0, 43), (13, 0, 0, 0), (42, 0, 0, 45), (36, 2, 9, 46), (47, 0, 0, 0)]
def pg_p12 : List Nat := [0, 1, 4, 5, 7, 9, 12, 13, 15, 17, 20, 21, 22, 24, 27, 28, 29, 31, 34, 35, 36, 38, 41, 42, 44, 46, 49, 50, 52, 54, 57, 58, 60, 62, 65, 66, 67, 70, 73, 74, 77, 78, 81, 84]
def pg_w12 : List (List Nat) := [[], [126, 49, 50], [], [], [174], [130], [], [], [175], [131], [], [], [174], [132], [], [], [174], [133], [], [], [174], [134], [], [], [174], [135], [], [], [174], [136], [], [], [175], [137], [], [], [127], [138], [], [128, 57, 21], [], [129], [139], []]
/-- 13: KayfabeRing$Mender.lookAt(LKayfabeRing$Card;I[LKayfabeRing$Wrestler;I)V -/
def pg_c13 : List RI := [(3, 0, 0, 0), (3, 1, 0, 0), (36, 2, 9, 46), (3, 0, 0, 0), (1, 2, 0, 0), (35, 2, 10, 50), (3, 0, 0, 0), (3, 3, 0, 0), (36, 2, 8, 39), (3, 0, 0, 0), (0, 0, 0, 0), (35, 2, 11, 54), (0, 0, 0, 0), (2, 5, 0, 0), (1, 5, 0, 0), (3, 0, 0, 0), (34, 2, 9, 46), (33, 0, 2, 57), (18, 45, 3, 0), (3, 0, 0, 0), (0, 0, 0, 2), (1, 5, 0, 0), (8, 0, 0, 0), (3, 0, 0, 0), (34, 2, 9, 46), (34, 0, 0, 60), (1, 5, 0, 0), (31, 0, 0, 0), (33, 1, 0, 64), (41, 14, 0, 69), (3, 0, 0, 0), (0, 0, 0, 2), (1, 5, 0, 0), (8, 0, 0, 0), (0, 0, 0, 1), (6, 0, 0, 0), (3, 0, 0, 0), (34, 2, 9, 46), (34, 0, 0, 60), (1, 5, 0, 0), (31, 0, 0, 0), (33, 1, 1, 73), (41, 14, 0, 69), (5, 5, 0, 1), (16, 14, 0, 0), (3, 0, 0, 0), (0, 0, 0, 0), (35, 2, 12, 76), (0, 0, 0, 0), (2, 5, 0, 0), (1, 5, 0, 0), (1, 4, 0, 0), (18, 99, 3, 0), (3, 0, 0, 0), (34, 2, 8, 39), (1, 5, 0, 0), (31, 0, 0, 0), (3, 0, 0, 0), (33, 2, 10, 50), (41, 27, 0, 79), (17, 97, 1, 0), (3, 0, 0, 0), (34, 2, 9, 46), (1, 5, 0, 0), (41, 3, 0, 83), (17, 97, 1, 0), (3, 0, 0, 0), (34, 2, 5, 28), (3, 0, 0, 0), (33, 2, 12, 76), (1, 5, 0, 0), (28, 0, 0, 0), (3, 0, 0, 0), (34, 2, 6, 31), (3, 0, 0, 0), (33, 2, 12, 76), (3, 0, 0, 0), (34, 2, 8, 39), (1, 5, 0, 0), (31, 0, 0, 0), (3, 0, 0, 0), (34, 2, 9, 46), (33, 0, 1, 86), (41, 29, 0, 89), (28, 0, 0, 0), (3, 0, 0, 0), (34, 2, 7, 34), (3, 0, 0, 0), (33, 2, 12, 76), (0, 0, 0, 0), (30, 0, 0, 0), (3, 0, 0, 0), (13, 0, 0, 0), (33, 2, 12, 76), (0, 0, 0, 1), (6, 0, 0, 0), (35, 2, 12, 76), (5, 5, 0, 1), (16, 50, 0, 0), (47, 0, 0, 0)]
def pg_p13 : List Nat := [0, 1, 2, 5, 6, 7, 10, 11, 12, 15, 16, 17, 20, 21, 23, 25, 26, 29, 32, 35, 36, 37, 39, 40, 41, 44, 47, 49, 50, 53, 56, 57, 58, 60, 61, 62, 63, 64, 67, 70, 72, 73, 76, 79, 82, 85, 86, 87, 90, 91, 93, 95, 97, 100, 101, 104, 106, 107, 108, 111, 114, 117, 118, 121, 123, 126, 129, 130, 133, 134, 137, 139, 140, 141, 144, 145, 148, 149, 152, 154, 155, 156, 159, 162, 165, 166, 167, 170, 171, 174, 175, 176, 177, 178, 181, 182, 183, 186, 189, 192]
def pg_w13 : List (List Nat) := [[], [], [139], [], [], [140], [], [], [138], [], [], [141], [], [], [], [], [139], [108], [], [], [], [], [], [], [139], [102], [], [], [70], [550], [], [], [], [], [], [], [], [139], [102], [], [], [74], [550], [], [], [], [], [143], [], [], [], [], [], [], [138], [], [], [], [140], [554], [], [], [139], [], [555], [], [], [135], [], [143], [], [], [], [136], [], [143], [], [138], [], [], [], [139], [104], [556], [], [], [137], [], [143], [], [], [], [], [143], [], [], [143], [], [], []]
/-- 14: KayfabeRing$Mender.lookAtSeat(II)V -/
def pg_c14 : List RI := [(3, 0, 0, 0), (34, 2, 1, 15), (1, 1, 0, 0), (3, 0, 0, 0), (34, 2, 8, 39), (1, 2, 0, 0), (31, 0, 0, 0), (3, 0, 0, 0), (33, 2, 10, 50), (41, 27, 0, 79), (30, 0, 0, 0), (3, 0, 0, 0), (34, 2, 0, 9), (1, 1, 0, 0), (3, 0, 0, 0), (34, 2, 1, 15), (1, 1, 0, 0), (29, 0, 0, 0), (17, 21, 0, 0), (0, 0, 0, (-1)), (16, 22, 0, 0), (1, 2, 0, 0), (28, 0, 0, 0), (3, 0, 0, 0), (34, 2, 1, 15), (1, 1, 0, 0), (29, 0, 0, 0), (17, 44, 0, 0), (3, 0, 0, 0), (33, 2, 11, 54), (0, 0, 0, 4), (18, 38, 3, 0), (3, 0, 0, 0), (34, 2, 2, 19), (3, 0, 0, 0), (33, 2, 11, 54), (1, 1, 0, 0), (28, 0, 0, 0), (3, 0, 0, 0), (13, 0, 0, 0), (33, 2, 11, 54), (0, 0, 0, 1), (6, 0, 0, 0), (35, 2, 11, 54), (47, 0, 0, 0)]
def pg_p14 : List Nat := [0, 1, 4, 5, 6, 9, 10, 11, 12, 15, 18, 19, 20, 23, 24, 25, 28, 29, 30, 33, 34, 37, 38, 39, 40, 43, 44, 45, 48, 49, 52, 53, 56, 57, 60, 61, 64, 65, 66, 67, 68, 71, 72, 73, 76]
def pg_w14 : List (List Nat) := [[], [131], [], [], [138], [], [], [], [140], [554], [], [], [130], [], [], [131], [], [], [], [], [], [], [], [], [131], [], [], [], [], [141], [], [], [], [132], [], [141], [], [], [], [], [141], [], [], [141], []]
/-- 15: KayfabeRing$Mender.findBest()I -/
def pg_c15 : List RI := [(3, 0, 0, 0), (0, 0, 0, (-1)), (35, 2, 13, 93), (3, 0, 0, 0), (0, 0, 0, 0), (0, 0, 0, 0), (40, 16, 0, 96), (3, 0, 0, 0), (33, 2, 13, 93), (45, 0, 0, 0)]
def pg_p15 : List Nat := [0, 1, 2, 5, 6, 7, 8, 11, 12, 15]
def pg_w15 : List (List Nat) := [[], [], [144], [], [], [], [569], [], [144], []]
/-- 16: KayfabeRing$Mender.fillFrom(LKayfabeRing$Mender;II)V -/
def pg_c16 : List RI := [(1, 1, 0, 0), (3, 0, 0, 0), (33, 2, 11, 54), (18, 7, 3, 0), (1, 1, 0, 0), (0, 0, 0, 4), (18, 11, 2, 0), (3, 0, 0, 0), (1, 2, 0, 0), (41, 17, 0, 100), (47, 0, 0, 0), (3, 0, 0, 0), (34, 2, 2, 19), (1, 1, 0, 0), (27, 0, 0, 0), (2, 3, 0, 0), (1, 3, 0, 0), (0, 0, 0, 2), (10, 0, 0, 0), (0, 0, 0, 1), (18, 30, 1, 0), (3, 0, 0, 0), (34, 2, 1, 15), (1, 3, 0, 0), (0, 0, 0, 1), (7, 0, 0, 0), (29, 0, 0, 0), (17, 30, 0, 0), (0, 0, 0, 1), (16, 31, 0, 0), (0, 0, 0, 0), (2, 4, 0, 0), (1, 4, 0, 0), (17, 44, 0, 0), (3, 0, 0, 0), (34, 2, 0, 9), (1, 3, 0, 0), (0, 0, 0, 1), (7, 0, 0, 0), (27, 0, 0, 0), (0, 0, 0, (-1)), (18, 44, 1, 0), (0, 0, 0, 1), (16, 45, 0, 0), (0, 0, 0, 0), (2, 5, 0, 0), (0, 0, 0, 0), (2, 6, 0, 0), (1, 6, 0, 0), (3, 0, 0, 0), (33, 2, 12, 76), (18, 97, 3, 0), (1, 5, 0, 0), (17, 97, 1, 0), (3, 0, 0, 0), (34, 2, 7, 34), (1, 6, 0, 0), (29, 0, 0, 0), (17, 60, 0, 0), (16, 95, 0, 0), (3, 0, 0, 0), (34, 2, 0, 9), (1, 3, 0, 0), (3, 0, 0, 0), (34, 2, 5, 28), (1, 6, 0, 0), (27, 0, 0, 0), (28, 0, 0, 0), (3, 0, 0, 0), (1, 3, 0, 0), (0, 0, 0, 2), (9, 0, 0, 0), (41, 18, 0, 104), (17, 95, 1, 0), (3, 0, 0, 0), (34, 2, 7, 34), (1, 6, 0, 0), (0, 0, 0, 1), (30, 0, 0, 0), (3, 0, 0, 0), (1, 1, 0, 0), (0, 0, 0, 1), (6, 0, 0, 0), (1, 2, 0, 0), (3, 0, 0, 0), (34, 2, 6, 31), (1, 6, 0, 0), (27, 0, 0, 0), (6, 0, 0, 0), (40, 16, 0, 96), (3, 0, 0, 0), (34, 2, 7, 34), (1, 6, 0, 0), (0, 0, 0, 0), (30, 0, 0, 0), (5, 6, 0, 1), (16, 48, 0, 0), (3, 0, 0, 0), (34, 2, 0, 9), (1, 3, 0, 0), (0, 0, 0, (-1)), (28, 0, 0, 0), (1, 4, 0, 0), (17, 106, 0, 0), (1, 5, 0, 0), (17, 112, 0, 0), (3, 0, 0, 0), (1, 1, 0, 0), (0, 0, 0, 1), (6, 0, 0, 0), (1, 2, 0, 0), (40, 16, 0, 96), (47, 0, 0, 0)]
def pg_p16 : List Nat := [0, 1, 2, 5, 8, 9, 10, 13, 14, 15, 18, 19, 20, 23, 24, 25, 26, 27, 28, 29, 30, 33, 34, 37, 38, 39, 40, 41, 44, 45, 48, 49, 51, 53, 56, 57, 60, 61, 62, 63, 64, 65, 68, 69, 72, 73, 75, 76, 78, 80, 81, 84, 87, 89, 92, 93, 96, 98, 99, 102, 105, 106, 109, 110, 111, 114, 116, 117, 118, 119, 120, 121, 122, 125, 128, 129, 132, 134, 135, 136, 137, 138, 139, 140, 141, 142, 145, 147, 148, 149, 152, 153, 156, 158, 159, 160, 163, 166, 167, 170, 171, 172, 173, 175, 178, 180, 183, 184, 185, 186, 187, 188, 191]
def pg_w16 : List (List Nat) := [[], [], [141], [], [], [], [], [], [], [572], [], [], [132], [], [], [], [], [], [], [], [], [], [131], [], [], [], [], [], [], [], [], [], [], [], [], [130], [], [], [], [], [], [], [], [], [], [], [], [], [], [], [143], [], [], [], [], [137], [], [], [], [], [], [130], [], [], [135], [], [], [], [], [], [], [], [576], [], [], [137], [], [], [], [], [], [], [], [], [], [136], [], [], [], [569], [], [137], [], [], [], [], [], [], [130], [], [], [], [], [], [], [], [], [], [], [], [], [569], []]
/-- 17: KayfabeRing$Mender.keepIfBetter(I)V -/
def pg_c17 : List RI := [(1, 1, 0, 0), (3, 0, 0, 0), (33, 2, 13, 93), (18, 5, 4, 0), (47, 0, 0, 0), (3, 0, 0, 0), (1, 1, 0, 0), (35, 2, 13, 93), (0, 0, 0, 0), (2, 2, 0, 0), (1, 2, 0, 0), (3, 0, 0, 0), (33, 2, 11, 54), (18, 30, 3, 0), (1, 2, 0, 0), (0, 0, 0, 4), (18, 30, 3, 0), (3, 0, 0, 0), (34, 2, 3, 22), (1, 2, 0, 0), (3, 0, 0, 0), (34, 2, 0, 9), (3, 0, 0, 0), (34, 2, 2, 19), (1, 2, 0, 0), (27, 0, 0, 0), (27, 0, 0, 0), (28, 0, 0, 0), (5, 2, 0, 1), (16, 10, 0, 0), (47, 0, 0, 0)]
def pg_p17 : List Nat := [0, 1, 2, 5, 8, 9, 10, 11, 14, 15, 16, 17, 18, 21, 24, 25, 26, 29, 30, 33, 34, 35, 38, 39, 42, 43, 44, 45, 46, 49, 52]
def pg_w17 : List (List Nat) := [[], [], [144], [], [], [], [], [144], [], [], [], [], [141], [], [], [], [], [], [133], [], [], [130], [], [132], [], [], [], [], [], [], []]
/-- 18: KayfabeRing$Mender.isBarred(I)Z -/
def pg_c18 : List RI := [(3, 0, 0, 0), (34, 2, 0, 9), (0, 0, 0, 2), (1, 1, 0, 0), (8, 0, 0, 0), (27, 0, 0, 0), (2, 2, 0, 0), (3, 0, 0, 0), (34, 2, 0, 9), (0, 0, 0, 2), (1, 1, 0, 0), (8, 0, 0, 0), (0, 0, 0, 1), (6, 0, 0, 0), (27, 0, 0, 0), (2, 3, 0, 0), (1, 2, 0, 0), (0, 0, 0, (-1)), (18, 22, 0, 0), (1, 3, 0, 0), (0, 0, 0, (-1)), (18, 24, 1, 0), (0, 0, 0, 0), (45, 0, 0, 0), (3, 0, 0, 0), (34, 2, 9, 46), (34, 0, 0, 60), (1, 1, 0, 0), (31, 0, 0, 0), (33, 1, 2, 107), (2, 4, 0, 0), (3, 0, 0, 0), (34, 2, 8, 39), (1, 4, 0, 0), (17, 37, 0, 0), (1, 3, 0, 0), (16, 38, 0, 0), (1, 2, 0, 0), (31, 0, 0, 0), (4, 5, 0, 0), (3, 5, 0, 0), (1, 4, 0, 0), (17, 45, 0, 0), (1, 2, 0, 0), (16, 46, 0, 0), (1, 3, 0, 0), (3, 0, 0, 0), (33, 2, 10, 50), (41, 28, 0, 111), (45, 0, 0, 0)]
def pg_p18 : List Nat := [0, 1, 4, 5, 6, 7, 8, 9, 10, 13, 14, 15, 16, 17, 18, 19, 20, 21, 22, 25, 26, 27, 30, 31, 32, 33, 36, 39, 40, 41, 44, 46, 47, 50, 52, 55, 56, 59, 60, 61, 63, 65, 67, 70, 71, 74, 75, 76, 79, 82]
def pg_w18 : List (List Nat) := [[], [130], [], [], [], [], [], [], [130], [], [], [], [], [], [], [], [], [], [], [], [], [], [], [], [], [139], [102], [], [], [78], [], [], [138], [], [], [], [], [], [], [], [], [], [], [], [], [], [], [140], [580], []]
/-- 19: KayfabeRing$Mender.carryOut()I -/
def pg_c19 : List RI := [(0, 0, 0, 0), (2, 1, 0, 0), (3, 0, 0, 0), (33, 2, 11, 54), (0, 0, 0, 4), (52, 0, 0, 115), (0, 0, 0, 1), (7, 0, 0, 0), (2, 2, 0, 0), (1, 2, 0, 0), (17, 77, 2, 0), (3, 0, 0, 0), (34, 2, 2, 19), (1, 2, 0, 0), (27, 0, 0, 0), (2, 3, 0, 0), (1, 3, 0, 0), (0, 0, 0, 2), (10, 0, 0, 0), (17, 22, 1, 0), (0, 0, 0, 1), (16, 23, 0, 0), (0, 0, 0, 0), (2, 4, 0, 0), (3, 0, 0, 0), (34, 2, 3, 22), (1, 2, 0, 0), (27, 0, 0, 0), (0, 0, 0, (-1)), (18, 48, 1, 0), (1, 4, 0, 0), (17, 40, 0, 0), (3, 0, 0, 0), (34, 2, 1, 15), (1, 3, 0, 0), (0, 0, 0, 1), (6, 0, 0, 0), (29, 0, 0, 0), (17, 40, 0, 0), (16, 75, 0, 0), (3, 0, 0, 0), (34, 2, 9, 46), (1, 3, 0, 0), (0, 0, 0, 2), (9, 0, 0, 0), (41, 7, 0, 121), (5, 1, 0, 1), (16, 75, 0, 0), (1, 4, 0, 0), (17, 63, 0, 0), (3, 0, 0, 0), (34, 2, 9, 46), (34, 0, 0, 60), (1, 3, 0, 0), (0, 0, 0, 2), (9, 0, 0, 0), (31, 0, 0, 0), (3, 0, 0, 0), (34, 2, 3, 22), (1, 2, 0, 0), (27, 0, 0, 0), (35, 1, 0, 64), (16, 75, 0, 0), (3, 0, 0, 0), (34, 2, 9, 46), (34, 0, 0, 60), (1, 3, 0, 0), (0, 0, 0, 2), (9, 0, 0, 0), (31, 0, 0, 0), (3, 0, 0, 0), (34, 2, 3, 22), (1, 2, 0, 0), (27, 0, 0, 0), (35, 1, 1, 73), (5, 2, 0, (-1)), (16, 9, 0, 0), (1, 1, 0, 0), (45, 0, 0, 0)]
def pg_p19 : List Nat := [0, 1, 2, 3, 6, 7, 10, 11, 12, 13, 14, 17, 18, 21, 22, 23, 24, 25, 26, 27, 30, 31, 34, 35, 37, 38, 41, 42, 43, 44, 47, 49, 52, 53, 56, 57, 58, 59, 60, 63, 66, 67, 70, 71, 72, 73, 76, 79, 82, 84, 87, 88, 91, 94, 95, 96, 97, 98, 99, 102, 103, 104, 107, 110, 111, 114, 117, 118, 119, 120, 121, 122, 125, 126, 127, 130, 133, 136, 137]
def pg_w19 : List (List Nat) := [[], [], [], [141], [], [585, 586, 33, 587], [], [], [], [], [], [], [132], [], [], [], [], [], [], [], [], [], [], [], [], [133], [], [], [], [], [], [], [], [131], [], [], [], [], [], [], [], [139], [], [], [], [588], [], [], [], [], [], [139], [102], [], [], [], [], [], [133], [], [], [70], [], [], [139], [102], [], [], [], [], [], [133], [], [], [74], [], [], [], []]
/-- 20: KayfabeRing$Mender.tryAllWays()I -/
def pg_c20 : List RI := [(3, 0, 0, 0), (34, 2, 4, 25), (0, 0, 0, 0), (40, 76, 0, 124), (0, 0, 0, 0), (2, 1, 0, 0), (0, 0, 0, 1), (2, 2, 0, 0), (0, 0, 0, 0), (2, 3, 0, 0), (1, 2, 0, 0), (17, 25, 0, 0), (1, 3, 0, 0), (0, 0, 130, 1000000), (18, 25, 3, 0), (1, 1, 0, 0), (3, 0, 0, 0), (41, 22, 0, 131), (51, 0, 0, 135), (2, 1, 0, 0), (3, 0, 0, 0), (41, 21, 0, 138), (2, 2, 0, 0), (5, 3, 0, 1), (16, 10, 0, 0), (1, 1, 0, 0), (45, 0, 0, 0)]
def pg_p20 : List Nat := [0, 1, 4, 5, 8, 9, 10, 11, 12, 13, 14, 15, 18, 19, 21, 24, 25, 26, 29, 32, 33, 34, 37, 38, 41, 44, 45]
def pg_w20 : List (List Nat) := [[], [134], [], [753], [], [], [], [], [], [], [], [], [], [754], [], [], [], [755], [763, 497, 33, 498], [], [], [764], [], [], [], [], []]
/-- 21: KayfabeRing$Mender.goToNextWay()Z -/
def pg_c21 : List RI := [(0, 0, 0, 0), (2, 1, 0, 0), (1, 1, 0, 0), (3, 0, 0, 0), (33, 2, 11, 54), (18, 33, 3, 0), (1, 1, 0, 0), (0, 0, 0, 4), (18, 33, 3, 0), (3, 0, 0, 0), (34, 2, 4, 25), (1, 1, 0, 0), (27, 0, 0, 0), (3, 0, 0, 0), (33, 2, 12, 76), (18, 26, 3, 0), (3, 0, 0, 0), (34, 2, 4, 25), (1, 1, 0, 0), (14, 0, 0, 0), (27, 0, 0, 0), (0, 0, 0, 1), (6, 0, 0, 0), (28, 0, 0, 0), (0, 0, 0, 1), (45, 0, 0, 0), (3, 0, 0, 0), (34, 2, 4, 25), (1, 1, 0, 0), (0, 0, 0, 0), (28, 0, 0, 0), (5, 1, 0, 1), (16, 2, 0, 0), (0, 0, 0, 0), (45, 0, 0, 0)]
def pg_p21 : List Nat := [0, 1, 2, 3, 4, 7, 10, 11, 12, 15, 16, 19, 20, 21, 22, 25, 28, 29, 32, 33, 34, 35, 36, 37, 38, 39, 40, 41, 44, 45, 46, 47, 50, 53, 54]
def pg_w21 : List (List Nat) := [[], [], [], [], [141], [], [], [], [], [], [134], [], [], [], [143], [], [], [134], [], [], [], [], [], [], [], [], [], [134], [], [], [], [], [], [], []]
/-- 22: KayfabeRing$Mender.sumOfWay()I -/
def pg_c22 : List RI := [(3, 0, 0, 0), (33, 2, 11, 54), (0, 0, 0, 4), (52, 0, 0, 115), (2, 1, 0, 0), (0, 0, 0, 0), (2, 2, 0, 0), (1, 2, 0, 0), (1, 1, 0, 0), (18, 35, 3, 0), (3, 0, 0, 0), (34, 2, 0, 9), (3, 0, 0, 0), (34, 2, 2, 19), (1, 2, 0, 0), (27, 0, 0, 0), (3, 0, 0, 0), (34, 2, 4, 25), (1, 2, 0, 0), (27, 0, 0, 0), (3, 0, 0, 0), (33, 2, 12, 76), (18, 31, 3, 0), (3, 0, 0, 0), (34, 2, 5, 28), (3, 0, 0, 0), (34, 2, 4, 25), (1, 2, 0, 0), (27, 0, 0, 0), (27, 0, 0, 0), (16, 32, 0, 0), (0, 0, 0, (-1)), (28, 0, 0, 0), (5, 2, 0, 1), (16, 7, 0, 0), (0, 0, 0, 0), (2, 2, 0, 0), (0, 0, 0, 0), (2, 3, 0, 0), (1, 3, 0, 0), (1, 1, 0, 0), (18, 69, 3, 0), (3, 0, 0, 0), (1, 3, 0, 0), (41, 23, 0, 142), (17, 48, 1, 0), (0, 0, 0, (-1)), (45, 0, 0, 0), (1, 2, 0, 0), (3, 0, 0, 0), (34, 2, 4, 25), (1, 3, 0, 0), (27, 0, 0, 0), (3, 0, 0, 0), (33, 2, 12, 76), (18, 64, 3, 0), (3, 0, 0, 0), (34, 2, 6, 31), (3, 0, 0, 0), (34, 2, 4, 25), (1, 3, 0, 0), (27, 0, 0, 0), (27, 0, 0, 0), (16, 65, 0, 0), (0, 0, 0, 0), (6, 0, 0, 0), (2, 2, 0, 0), (5, 3, 0, 1), (16, 39, 0, 0), (1, 2, 0, 0), (45, 0, 0, 0)]
def pg_p22 : List Nat := [0, 1, 4, 5, 8, 9, 10, 11, 12, 13, 16, 17, 20, 21, 24, 25, 26, 27, 30, 31, 32, 33, 36, 39, 40, 43, 44, 47, 48, 49, 50, 53, 54, 55, 58, 61, 62, 63, 64, 65, 66, 67, 70, 71, 72, 75, 78, 79, 80, 81, 82, 85, 86, 87, 88, 91, 94, 95, 98, 99, 102, 103, 104, 105, 108, 109, 110, 111, 114, 117, 118]
def pg_w22 : List (List Nat) := [[], [141], [], [585, 586, 33, 587], [], [], [], [], [], [], [], [130], [], [132], [], [], [], [134], [], [], [], [143], [], [], [135], [], [134], [], [], [], [], [], [], [], [], [], [], [], [], [], [], [], [], [], [759], [], [], [], [], [], [134], [], [], [], [143], [], [], [136], [], [134], [], [], [], [], [], [], [], [], [], [], []]
/-- 23: KayfabeRing$Mender.isAllowed(I)Z -/
def pg_c23 : List RI := [(3, 0, 0, 0), (34, 2, 2, 19), (1, 1, 0, 0), (27, 0, 0, 0), (2, 2, 0, 0), (1, 2, 0, 0), (0, 0, 0, 2), (10, 0, 0, 0), (17, 13, 1, 0), (1, 2, 0, 0), (0, 0, 0, 1), (6, 0, 0, 0), (16, 16, 0, 0), (1, 2, 0, 0), (0, 0, 0, 1), (7, 0, 0, 0), (2, 3, 0, 0), (3, 0, 0, 0), (34, 2, 1, 15), (1, 3, 0, 0), (29, 0, 0, 0), (17, 43, 0, 0), (3, 0, 0, 0), (34, 2, 0, 9), (1, 2, 0, 0), (27, 0, 0, 0), (0, 0, 0, (-1)), (18, 30, 1, 0), (0, 0, 0, 1), (16, 31, 0, 0), (0, 0, 0, 0), (3, 0, 0, 0), (34, 2, 0, 9), (1, 3, 0, 0), (27, 0, 0, 0), (0, 0, 0, (-1)), (18, 39, 1, 0), (0, 0, 0, 1), (16, 40, 0, 0), (0, 0, 0, 0), (18, 43, 0, 0), (0, 0, 0, 0), (45, 0, 0, 0), (0, 0, 0, 0), (2, 4, 0, 0), (1, 4, 0, 0), (1, 1, 0, 0), (18, 67, 3, 0), (3, 0, 0, 0), (34, 2, 0, 9), (1, 2, 0, 0), (27, 0, 0, 0), (0, 0, 0, (-1)), (18, 65, 0, 0), (3, 0, 0, 0), (34, 2, 4, 25), (1, 4, 0, 0), (27, 0, 0, 0), (3, 0, 0, 0), (34, 2, 4, 25), (1, 1, 0, 0), (27, 0, 0, 0), (18, 65, 1, 0), (0, 0, 0, 0), (45, 0, 0, 0), (5, 4, 0, 1), (16, 45, 0, 0), (3, 0, 0, 0), (1, 2, 0, 0), (0, 0, 0, 2), (9, 0, 0, 0), (41, 18, 0, 104), (17, 75, 1, 0), (0, 0, 0, 1), (16, 76, 0, 0), (0, 0, 0, 0), (45, 0, 0, 0)]
def pg_p23 : List Nat := [0, 1, 4, 5, 6, 7, 8, 9, 10, 13, 14, 15, 16, 19, 20, 21, 22, 23, 24, 27, 28, 29, 32, 33, 36, 37, 38, 39, 42, 43, 46, 47, 48, 51, 52, 53, 54, 57, 58, 61, 62, 65, 66, 67, 68, 70, 72, 73, 76, 77, 80, 81, 82, 83, 86, 87, 90, 92, 93, 94, 97, 98, 99, 102, 103, 104, 107, 110, 111, 112, 113, 114, 117, 120, 121, 124, 125]
def pg_w23 : List (List Nat) := [[], [132], [], [], [], [], [], [], [], [], [], [], [], [], [], [], [], [], [131], [], [], [], [], [130], [], [], [], [], [], [], [], [], [130], [], [], [], [], [], [], [], [], [], [], [], [], [], [], [], [], [130], [], [], [], [], [], [134], [], [], [], [134], [], [], [], [], [], [], [], [], [], [], [], [576], [], [], [], [], []]
/-- 24: KayfabeRing$Title.<init>()V -/
def pg_c24 : List RI := [(3, 0, 0, 0), (43, 0, 0, 3), (3, 0, 0, 0), (0, 0, 0, 512), (38, 7, 0, 0), (36, 3, 0, 9), (3, 0, 0, 0), (0, 0, 0, 512), (38, 7, 0, 0), (36, 3, 1, 15), (3, 0, 0, 0), (0, 0, 0, (-1)), (35, 3, 3, 18), (47, 0, 0, 0)]
def pg_p24 : List Nat := [0, 1, 4, 5, 8, 10, 13, 14, 17, 19, 22, 23, 24, 27]
def pg_w24 : List (List Nat) := [[], [240, 49, 50], [], [], [174], [241], [], [], [174], [243], [], [], [247], []]
/-- 25: KayfabeRing$Title.goTo(II)V -/
def pg_c25 : List RI := [(3, 0, 0, 0), (1, 1, 0, 0), (35, 3, 3, 18), (3, 0, 0, 0), (33, 3, 2, 22), (0, 0, 0, 512), (18, 25, 3, 0), (3, 0, 0, 0), (34, 3, 0, 9), (3, 0, 0, 0), (33, 3, 2, 22), (1, 1, 0, 0), (28, 0, 0, 0), (3, 0, 0, 0), (34, 3, 1, 15), (3, 0, 0, 0), (33, 3, 2, 22), (1, 2, 0, 0), (28, 0, 0, 0), (3, 0, 0, 0), (13, 0, 0, 0), (33, 3, 2, 22), (0, 0, 0, 1), (6, 0, 0, 0), (35, 3, 2, 22), (47, 0, 0, 0)]
def pg_p25 : List Nat := [0, 1, 2, 5, 6, 9, 12, 15, 16, 19, 20, 23, 24, 25, 26, 29, 30, 33, 34, 35, 36, 37, 40, 41, 42, 45]
def pg_w25 : List (List Nat) := [[], [], [247], [], [245], [], [], [], [241], [], [245], [], [], [], [243], [], [245], [], [], [], [], [245], [], [], [245], []]
/-- 26: KayfabeRing$Wrestler.<init>()V -/
def pg_c26 : List RI := [(3, 0, 0, 0), (43, 0, 0, 3), (3, 0, 0, 0), (0, 0, 0, 4), (38, 7, 0, 0), (36, 4, 0, 9), (3, 0, 0, 0), (0, 0, 0, 10), (38, 7, 0, 0), (36, 4, 1, 15), (3, 0, 0, 0), (0, 0, 0, 10), (38, 7, 0, 0), (36, 4, 2, 18), (3, 0, 0, 0), (0, 0, 0, (-1)), (35, 4, 13, 21), (3, 0, 0, 0), (34, 4, 1, 15), (0, 0, 0, (-1)), (40, 76, 0, 25), (47, 0, 0, 0)]
def pg_p26 : List Nat := [0, 1, 4, 5, 6, 8, 11, 12, 14, 16, 19, 20, 22, 24, 27, 28, 29, 32, 33, 36, 37, 40]
def pg_w26 : List (List Nat) := [[], [180, 49, 50], [], [], [174], [184], [], [], [174], [186], [], [], [174], [188], [], [], [205], [], [186], [], [181], []]
/-- 27: KayfabeRing$Wrestler.isHurtOn(I)Z -/
def pg_c27 : List RI := [(1, 1, 0, 0), (3, 0, 0, 0), (33, 4, 7, 31), (18, 6, 3, 0), (0, 0, 0, 1), (16, 7, 0, 0), (0, 0, 0, 0), (45, 0, 0, 0)]
def pg_p27 : List Nat := [0, 1, 2, 5, 8, 9, 12, 13]
def pg_w27 : List (List Nat) := [[], [], [197], [], [], [], [], []]
/-- 28: KayfabeRing$Wrestler.isBarredFromLosing(II)Z -/
def pg_c28 : List RI := [(1, 2, 0, 0), (3, 0, 0, 0), (34, 4, 1, 15), (1, 1, 0, 0), (27, 0, 0, 0), (18, 10, 5, 0), (1, 2, 0, 0), (3, 0, 0, 0), (33, 4, 12, 34), (18, 12, 3, 0), (0, 0, 0, 1), (16, 13, 0, 0), (0, 0, 0, 0), (45, 0, 0, 0)]
def pg_p28 : List Nat := [0, 1, 2, 5, 6, 7, 10, 11, 12, 15, 18, 19, 22, 23]
def pg_w28 : List (List Nat) := [[], [], [186], [], [], [], [], [], [203], [], [], [], [], []]
/-- 29: KayfabeRing$Wrestler.worthIn(I)I -/
def pg_c29 : List RI := [(0, 0, 0, 1), (3, 0, 0, 0), (33, 4, 3, 37), (3, 0, 0, 0), (34, 4, 0, 9), (1, 1, 0, 0), (27, 0, 0, 0), (53, 0, 0, 40), (6, 0, 0, 0), (3, 0, 0, 0), (33, 4, 6, 46), (0, 0, 0, 10), (9, 0, 0, 0), (7, 0, 0, 0), (51, 0, 0, 49), (45, 0, 0, 0)]
def pg_p29 : List Nat := [0, 1, 2, 5, 6, 9, 10, 11, 14, 15, 16, 19, 21, 22, 23, 26]
def pg_w29 : List (List Nat) := [[], [], [191], [], [184], [], [], [560, 561, 33, 562], [], [], [195], [], [], [], [563, 497, 33, 498], []]
/-- 30: KayfabeRing$Wrestler.addLove(II)V -/
def pg_c30 : List RI := [(3, 0, 0, 0), (34, 4, 0, 9), (1, 1, 0, 0), (0, 0, 0, (-99)), (0, 0, 0, 99), (3, 0, 0, 0), (34, 4, 0, 9), (1, 1, 0, 0), (27, 0, 0, 0), (1, 2, 0, 0), (6, 0, 0, 0), (52, 0, 0, 53), (51, 0, 0, 49), (28, 0, 0, 0), (47, 0, 0, 0)]
def pg_p30 : List Nat := [0, 1, 4, 5, 7, 9, 10, 13, 14, 15, 16, 17, 20, 23, 24]
def pg_w30 : List (List Nat) := [[], [184], [], [], [], [], [184], [], [], [], [], [622, 586, 33, 587], [563, 497, 33, 498], [], []]
/-- 31: KayfabeRing$Wrestler.turn()V -/
def pg_c31 : List RI := [(0, 0, 0, 0), (2, 1, 0, 0), (0, 0, 0, 0), (2, 2, 0, 0), (0, 0, 0, 0), (2, 3, 0, 0), (1, 3, 0, 0), (0, 0, 0, 4), (18, 25, 3, 0), (3, 0, 0, 0), (34, 4, 0, 9), (1, 3, 0, 0), (27, 0, 0, 0), (0, 0, 0, 50), (18, 16, 2, 0), (5, 1, 0, 1), (3, 0, 0, 0), (34, 4, 0, 9), (1, 3, 0, 0), (27, 0, 0, 0), (0, 0, 0, (-50)), (18, 23, 4, 0), (5, 2, 0, 1), (5, 3, 0, 1), (16, 6, 0, 0), (3, 0, 0, 0), (33, 4, 5, 56), (0, 0, 0, 1), (18, 36, 1, 0), (1, 1, 0, 0), (0, 0, 0, 2), (18, 36, 2, 0), (3, 0, 0, 0), (0, 0, 0, 0), (35, 4, 5, 56), (16, 45, 0, 0), (3, 0, 0, 0), (33, 4, 5, 56), (17, 45, 1, 0), (1, 2, 0, 0), (0, 0, 0, 2), (18, 45, 2, 0), (3, 0, 0, 0), (0, 0, 0, 1), (35, 4, 5, 56), (47, 0, 0, 0)]
def pg_p31 : List Nat := [0, 1, 2, 3, 4, 5, 6, 7, 8, 11, 12, 15, 16, 17, 19, 22, 25, 26, 29, 30, 31, 33, 36, 39, 42, 45, 46, 49, 50, 53, 54, 55, 58, 59, 60, 63, 66, 67, 70, 73, 74, 75, 78, 79, 80, 83]
def pg_w31 : List (List Nat) := [[], [], [], [], [], [], [], [], [], [], [184], [], [], [], [], [], [], [184], [], [], [], [], [], [], [], [], [194], [], [], [], [], [], [], [], [194], [], [], [194], [], [], [], [], [], [], [194], []]
/-- 32: KayfabeRing.<init>()V -/
def pg_c32 : List RI := [(3, 0, 0, 0), (43, 0, 0, 3), (3, 0, 0, 0), (0, 0, 0, 10), (39, 12, 0, 9), (36, 5, 0, 11), (3, 0, 0, 0), (0, 0, 0, 4), (39, 11, 0, 15), (36, 5, 1, 17), (3, 0, 0, 0), (0, 0, 0, 1000), (39, 9, 0, 21), (36, 5, 2, 23), (3, 0, 0, 0), (37, 0, 0, 21), (13, 0, 0, 0), (42, 0, 0, 27), (36, 5, 3, 28), (3, 0, 0, 0), (0, 0, 0, 4), (38, 7, 0, 0), (36, 5, 4, 32), (3, 0, 0, 0), (37, 2, 0, 36), (13, 0, 0, 0), (42, 12, 1, 38), (36, 5, 5, 39), (0, 0, 0, 0), (2, 1, 0, 0), (1, 1, 0, 0), (0, 0, 0, 10), (18, 42, 3, 0), (3, 0, 0, 0), (34, 5, 0, 11), (1, 1, 0, 0), (37, 4, 0, 9), (13, 0, 0, 0), (42, 26, 0, 43), (32, 0, 0, 0), (5, 1, 0, 1), (16, 30, 0, 0), (0, 0, 0, 0), (2, 1, 0, 0), (1, 1, 0, 0), (0, 0, 0, 4), (18, 56, 3, 0), (3, 0, 0, 0), (34, 5, 1, 17), (1, 1, 0, 0), (37, 3, 0, 15), (13, 0, 0, 0), (42, 24, 1, 44), (32, 0, 0, 0), (5, 1, 0, 1), (16, 44, 0, 0), (47, 0, 0, 0)]
def pg_p32 : List Nat := [0, 1, 4, 5, 7, 10, 13, 14, 15, 18, 21, 22, 25, 28, 31, 32, 35, 36, 39, 42, 43, 44, 46, 49, 50, 53, 54, 57, 60, 61, 62, 63, 65, 68, 69, 72, 73, 76, 77, 80, 81, 84, 87, 88, 89, 90, 91, 94, 95, 98, 99, 102, 103, 106, 107, 110, 113]
def pg_w32 : List (List Nat) := [[], [48, 49, 50], [], [], [51], [258], [], [], [53], [259], [], [], [55], [260], [], [55, 57, 21], [], [58], [261], [], [], [174], [262], [], [121, 122, 23], [], [123], [263], [], [], [], [], [], [], [258], [], [51, 176, 24], [], [177], [], [], [], [], [], [], [], [], [], [259], [], [53, 236, 26], [], [237], [], [], [], []]
/-- 33: KayfabeRing.wrestler(III)I -/
def pg_c33 : List RI := [(1, 1, 0, 0), (0, 0, 0, 0), (0, 0, 0, 99), (40, 59, 0, 45), (17, 15, 0, 0), (1, 2, 0, 0), (0, 0, 0, 0), (0, 0, 0, 99), (40, 59, 0, 45), (17, 15, 0, 0), (1, 3, 0, 0), (0, 0, 0, 0), (0, 0, 0, 1), (40, 59, 0, 45), (17, 20, 1, 0), (44, 1, 0, 0), (49, 0, 0, 0), (49, 0, 0, 0), (49, 0, 0, 0), (49, 0, 0, 0), (3, 0, 0, 0), (33, 5, 6, 56), (0, 0, 0, 10), (18, 29, 2, 0), (44, 2, 1, 0), (49, 0, 0, 0), (49, 0, 0, 0), (49, 0, 0, 0), (49, 0, 0, 0), (3, 0, 0, 0), (34, 5, 0, 11), (3, 0, 0, 0), (33, 5, 6, 56), (31, 0, 0, 0), (4, 4, 0, 0), (3, 4, 0, 0), (1, 1, 0, 0), (35, 4, 3, 65), (3, 4, 0, 0), (1, 2, 0, 0), (35, 4, 4, 68), (3, 4, 0, 0), (1, 3, 0, 0), (35, 4, 5, 71), (3, 0, 0, 0), (13, 0, 0, 0), (33, 5, 6, 56), (0, 0, 0, 1), (6, 0, 0, 0), (35, 5, 6, 56), (3, 0, 0, 0), (33, 5, 6, 56), (0, 0, 0, 1), (7, 0, 0, 0), (45, 0, 0, 0)]
def pg_p33 : List Nat := [0, 1, 2, 4, 7, 10, 11, 12, 14, 17, 20, 21, 22, 23, 26, 29, 32, 33, 35, 38, 39, 40, 43, 45, 48, 51, 52, 54, 57, 58, 59, 62, 63, 66, 67, 69, 71, 72, 75, 77, 78, 81, 83, 84, 87, 88, 89, 92, 93, 94, 97, 98, 101, 102, 103]
def pg_w33 : List (List Nat) := [[], [], [], [367], [], [], [], [], [367], [], [], [], [], [367], [], [370, 31, 49, 53, 0], [], [], [], [], [], [264], [], [], [290, 30, 60, 64, 0], [], [], [], [], [], [258], [], [264], [], [], [], [], [190], [], [], [192], [], [], [193], [], [], [264], [], [], [264], [], [264], [], [], []]
/-- 34: KayfabeRing.title()I -/
def pg_c34 : List RI := [(3, 0, 0, 0), (33, 5, 7, 74), (0, 0, 0, 4), (18, 9, 2, 0), (44, 2, 2, 0), (49, 0, 0, 0), (49, 0, 0, 0), (49, 0, 0, 0), (49, 0, 0, 0), (3, 0, 0, 0), (13, 0, 0, 0), (33, 5, 7, 74), (0, 0, 0, 1), (6, 0, 0, 0), (35, 5, 7, 74), (3, 0, 0, 0), (33, 5, 7, 74), (0, 0, 0, 1), (7, 0, 0, 0), (45, 0, 0, 0)]
def pg_p34 : List Nat := [0, 1, 4, 5, 8, 11, 12, 14, 17, 18, 19, 20, 23, 24, 25, 28, 29, 32, 33, 34]
def pg_w34 : List (List Nat) := [[], [265], [], [], [290, 30, 60, 64, 0], [], [], [], [], [], [], [265], [], [], [265], [], [265], [], [], []]
/-- 35: KayfabeRing.clause(III)I -/
def pg_c35 : List RI := [(3, 0, 0, 0), (1, 1, 0, 0), (41, 60, 0, 79), (17, 8, 0, 0), (3, 0, 0, 0), (1, 2, 0, 0), (41, 60, 0, 79), (17, 13, 1, 0), (44, 3, 3, 0), (49, 0, 0, 0), (49, 0, 0, 0), (49, 0, 0, 0), (49, 0, 0, 0), (1, 1, 0, 0), (1, 2, 0, 0), (18, 21, 0, 0), (1, 3, 0, 0), (0, 0, 0, (-1)), (0, 0, 0, 999), (40, 59, 0, 45), (17, 26, 1, 0), (44, 1, 4, 0), (49, 0, 0, 0), (49, 0, 0, 0), (49, 0, 0, 0), (49, 0, 0, 0), (3, 0, 0, 0), (34, 5, 0, 11), (1, 1, 0, 0), (31, 0, 0, 0), (34, 4, 1, 90), (4, 4, 0, 0), (3, 4, 0, 0), (1, 2, 0, 0), (27, 0, 0, 0), (2, 5, 0, 0), (3, 4, 0, 0), (1, 2, 0, 0), (1, 3, 0, 0), (28, 0, 0, 0), (1, 5, 0, 0), (45, 0, 0, 0)]
def pg_p35 : List Nat := [0, 1, 2, 5, 8, 9, 10, 13, 16, 19, 20, 22, 25, 26, 27, 28, 31, 32, 33, 36, 39, 42, 45, 46, 48, 51, 52, 53, 56, 57, 58, 61, 63, 65, 66, 67, 69, 71, 72, 73, 74, 76]
def pg_w35 : List (List Nat) := [[], [], [414], [], [], [], [414], [], [422, 32, 83, 87, 0], [], [], [], [], [], [], [], [], [], [], [367], [], [370, 31, 49, 53, 0], [], [], [], [], [], [258], [], [], [187], [], [], [], [], [], [], [], [], [], [], []]
/-- 36: KayfabeRing.protect(II)I -/
def pg_c36 : List RI := [(3, 0, 0, 0), (1, 1, 0, 0), (41, 60, 0, 79), (17, 9, 1, 0), (44, 3, 3, 0), (49, 0, 0, 0), (49, 0, 0, 0), (49, 0, 0, 0), (49, 0, 0, 0), (1, 2, 0, 0), (0, 0, 0, 0), (0, 0, 0, 999), (40, 59, 0, 45), (17, 19, 1, 0), (44, 1, 5, 0), (49, 0, 0, 0), (49, 0, 0, 0), (49, 0, 0, 0), (49, 0, 0, 0), (3, 0, 0, 0), (34, 5, 0, 11), (1, 1, 0, 0), (31, 0, 0, 0), (33, 4, 12, 95), (2, 3, 0, 0), (3, 0, 0, 0), (34, 5, 0, 11), (1, 1, 0, 0), (31, 0, 0, 0), (1, 2, 0, 0), (35, 4, 12, 95), (1, 3, 0, 0), (45, 0, 0, 0)]
def pg_p36 : List Nat := [0, 1, 2, 5, 8, 11, 12, 14, 17, 18, 19, 20, 23, 26, 29, 32, 33, 35, 38, 39, 40, 43, 44, 45, 48, 49, 50, 53, 54, 55, 56, 59, 60]
def pg_w36 : List (List Nat) := [[], [], [414], [], [422, 32, 83, 87, 0], [], [], [], [], [], [], [], [367], [], [370, 31, 49, 53, 0], [], [], [], [], [], [258], [], [], [204], [], [], [258], [], [], [], [204], [], []]
/-- 37: KayfabeRing.book(IIIIZII)I -/
def pg_c37 : List RI := [(1, 2, 0, 0), (40, 62, 0, 98), (17, 18, 0, 0), (3, 0, 0, 0), (1, 3, 0, 0), (41, 60, 0, 79), (17, 18, 0, 0), (3, 0, 0, 0), (1, 4, 0, 0), (41, 60, 0, 79), (17, 18, 0, 0), (1, 7, 0, 0), (0, 0, 0, (-1)), (18, 23, 0, 0), (3, 0, 0, 0), (1, 7, 0, 0), (41, 61, 0, 101), (17, 23, 1, 0), (44, 3, 6, 0), (49, 0, 0, 0), (49, 0, 0, 0), (49, 0, 0, 0), (49, 0, 0, 0), (1, 1, 0, 0), (3, 0, 0, 0), (33, 5, 8, 106), (0, 0, 0, 999), (40, 59, 0, 45), (17, 37, 0, 0), (1, 6, 0, 0), (0, 0, 0, 1), (0, 0, 0, 60), (40, 59, 0, 45), (17, 37, 0, 0), (1, 3, 0, 0), (1, 4, 0, 0), (18, 42, 1, 0), (44, 1, 7, 0), (49, 0, 0, 0), (49, 0, 0, 0), (49, 0, 0, 0), (49, 0, 0, 0), (3, 0, 0, 0), (1, 1, 0, 0), (41, 63, 0, 111), (4, 8, 0, 0), (3, 8, 0, 0), (1, 2, 0, 0), (1, 6, 0, 0), (41, 2, 0, 115), (17, 63, 0, 0), (3, 8, 0, 0), (1, 3, 0, 0), (41, 3, 0, 119), (17, 63, 1, 0), (3, 8, 0, 0), (1, 4, 0, 0), (41, 3, 0, 119), (17, 63, 1, 0), (3, 8, 0, 0), (1, 7, 0, 0), (41, 4, 0, 122), (17, 68, 0, 0), (44, 2, 8, 0), (49, 0, 0, 0), (49, 0, 0, 0), (49, 0, 0, 0), (49, 0, 0, 0), (1, 5, 0, 0), (17, 72, 0, 0), (1, 3, 0, 0), (16, 73, 0, 0), (1, 4, 0, 0), (2, 9, 0, 0), (1, 5, 0, 0), (17, 78, 0, 0), (1, 4, 0, 0), (16, 79, 0, 0), (1, 3, 0, 0), (2, 10, 0, 0), (3, 0, 0, 0), (34, 5, 0, 11), (1, 3, 0, 0), (31, 0, 0, 0), (1, 1, 0, 0), (41, 27, 0, 127), (17, 108, 1, 0), (3, 0, 0, 0), (34, 5, 0, 11), (1, 4, 0, 0), (31, 0, 0, 0), (1, 1, 0, 0), (41, 27, 0, 127), (17, 108, 1, 0), (3, 0, 0, 0), (1, 7, 0, 0), (1, 3, 0, 0), (1, 4, 0, 0), (41, 65, 0, 130), (17, 108, 0, 0), (3, 0, 0, 0), (34, 5, 0, 11), (1, 10, 0, 0), (31, 0, 0, 0), (1, 9, 0, 0), (1, 1, 0, 0), (41, 28, 0, 133), (17, 113, 0, 0), (44, 2, 9, 0), (49, 0, 0, 0), (49, 0, 0, 0), (49, 0, 0, 0), (49, 0, 0, 0), (3, 0, 0, 0), (1, 1, 0, 0), (41, 64, 0, 138), (4, 11, 0, 0), (3, 11, 0, 0), (1, 2, 0, 0), (35, 0, 1, 141), (3, 11, 0, 0), (13, 0, 0, 0), (33, 0, 2, 144), (0, 0, 0, 1), (6, 0, 0, 0), (35, 0, 2, 144), (3, 11, 0, 0), (34, 0, 0, 147), (3, 11, 0, 0), (33, 0, 2, 144), (0, 0, 0, 1), (7, 0, 0, 0), (31, 0, 0, 0), (1, 3, 0, 0), (1, 4, 0, 0), (1, 5, 0, 0), (1, 6, 0, 0), (1, 7, 0, 0), (41, 9, 0, 151), (3, 11, 0, 0), (33, 0, 2, 144), (0, 0, 0, 1), (7, 0, 0, 0), (45, 0, 0, 0)]
def pg_p37 : List Nat := [0, 1, 4, 7, 8, 9, 12, 15, 16, 18, 21, 24, 26, 27, 30, 31, 33, 36, 39, 42, 43, 45, 48, 49, 50, 51, 54, 57, 60, 63, 65, 66, 68, 71, 74, 75, 77, 80, 83, 84, 86, 89, 90, 91, 92, 95, 97, 99, 100, 102, 105, 108, 110, 111, 114, 117, 119, 121, 124, 127, 129, 131, 134, 137, 140, 141, 143, 146, 147, 149, 152, 153, 156, 158, 160, 162, 165, 167, 170, 171, 173, 174, 177, 178, 179, 180, 183, 186, 187, 190, 192, 193, 194, 197, 200, 201, 203, 204, 206, 209, 212, 213, 216, 218, 219, 221, 222, 225, 228, 231, 232, 234, 237, 238, 239, 240, 243, 245, 247, 248, 251, 253, 254, 257, 258, 259, 262, 264, 267, 269, 272, 273, 274, 275, 276, 278, 280, 282, 284, 287, 289, 292, 293, 294]
def pg_w37 : List (List Nat) := [[], [411], [], [], [], [414], [], [], [], [414], [], [], [], [], [], [], [418], [], [422, 32, 83, 87, 0], [], [], [], [], [], [], [266], [], [367], [], [], [], [], [367], [], [], [], [], [370, 31, 49, 53, 0], [], [], [], [], [], [], [439], [], [], [], [], [443], [], [], [], [451], [], [], [], [451], [], [], [], [455], [], [290, 30, 60, 64, 0], [], [], [], [], [], [], [], [], [], [], [], [], [], [], [], [], [], [258], [], [], [], [460], [], [], [258], [], [], [], [460], [], [], [], [], [], [464], [], [], [258], [], [], [], [], [468], [], [290, 30, 60, 64, 0], [], [], [], [], [], [], [473], [], [], [], [106], [], [], [109], [], [], [109], [], [103], [], [109], [], [], [], [], [], [], [], [], [477], [], [109], [], [], []]
/-- 38: KayfabeRing.strike(II)I -/
def pg_c38 : List RI := [(3, 0, 0, 0), (1, 1, 0, 0), (41, 63, 0, 111), (4, 3, 0, 0), (3, 3, 0, 0), (1, 2, 0, 0), (41, 1, 0, 157), (17, 13, 1, 0), (44, 3, 10, 0), (49, 0, 0, 0), (49, 0, 0, 0), (49, 0, 0, 0), (49, 0, 0, 0), (3, 3, 0, 0), (33, 0, 3, 162), (17, 21, 0, 0), (44, 2, 11, 0), (49, 0, 0, 0), (49, 0, 0, 0), (49, 0, 0, 0), (49, 0, 0, 0), (3, 3, 0, 0), (1, 2, 0, 0), (41, 7, 0, 168), (3, 3, 0, 0), (33, 0, 2, 144), (45, 0, 0, 0)]
def pg_p38 : List Nat := [0, 1, 2, 5, 6, 7, 8, 11, 14, 17, 18, 20, 23, 24, 25, 28, 31, 34, 35, 37, 40, 41, 42, 43, 46, 47, 50]
def pg_w38 : List (List Nat) := [[], [], [439], [], [], [], [631], [], [422, 32, 83, 87, 0], [], [], [], [], [], [111], [], [290, 30, 60, 64, 0], [], [], [], [], [], [], [641], [], [109], []]
/-- 39: KayfabeRing.shoot(I)Z -/
def pg_c39 : List RI := [(3, 0, 0, 0), (3, 0, 0, 0), (33, 5, 8, 106), (41, 63, 0, 111), (4, 2, 0, 0), (3, 2, 0, 0), (1, 1, 0, 0), (41, 1, 0, 157), (17, 14, 1, 0), (44, 3, 10, 0), (49, 0, 0, 0), (49, 0, 0, 0), (49, 0, 0, 0), (49, 0, 0, 0), (3, 2, 0, 0), (33, 0, 3, 162), (17, 22, 0, 0), (44, 2, 11, 0), (49, 0, 0, 0), (49, 0, 0, 0), (49, 0, 0, 0), (49, 0, 0, 0), (3, 2, 0, 0), (34, 0, 0, 147), (1, 1, 0, 0), (31, 0, 0, 0), (33, 1, 5, 172), (2, 3, 0, 0), (3, 2, 0, 0), (34, 0, 0, 147), (1, 1, 0, 0), (31, 0, 0, 0), (0, 0, 0, 1), (50, 1, 5, 172), (1, 3, 0, 0), (45, 0, 0, 0)]
def pg_p39 : List Nat := [0, 1, 2, 5, 8, 9, 10, 11, 14, 17, 20, 21, 23, 26, 27, 28, 31, 34, 37, 38, 40, 43, 44, 45, 48, 49, 50, 53, 54, 55, 58, 59, 60, 61, 64, 65]
def pg_w39 : List (List Nat) := [[], [], [266], [439], [], [], [], [631], [], [422, 32, 83, 87, 0], [], [], [], [], [], [111], [], [290, 30, 60, 64, 0], [], [], [], [], [], [103], [], [], [87], [], [], [103], [], [], [], [87], [], []]
/-- 40: KayfabeRing.hurt(II)I -/
def pg_c40 : List RI := [(3, 0, 0, 0), (1, 1, 0, 0), (41, 60, 0, 79), (17, 9, 1, 0), (44, 3, 3, 0), (49, 0, 0, 0), (49, 0, 0, 0), (49, 0, 0, 0), (49, 0, 0, 0), (1, 2, 0, 0), (0, 0, 0, 1), (0, 0, 0, 200), (40, 59, 0, 45), (17, 19, 1, 0), (44, 1, 12, 0), (49, 0, 0, 0), (49, 0, 0, 0), (49, 0, 0, 0), (49, 0, 0, 0), (3, 0, 0, 0), (1, 1, 0, 0), (3, 0, 0, 0), (33, 5, 8, 106), (1, 2, 0, 0), (6, 0, 0, 0), (41, 66, 0, 177), (45, 0, 0, 0)]
def pg_p40 : List Nat := [0, 1, 2, 5, 8, 11, 12, 14, 17, 18, 19, 20, 23, 26, 29, 32, 33, 35, 38, 39, 40, 41, 42, 45, 46, 47, 50]
def pg_w40 : List (List Nat) := [[], [], [414], [], [422, 32, 83, 87, 0], [], [], [], [], [], [], [], [367], [], [370, 31, 49, 53, 0], [], [], [], [], [], [], [], [266], [], [], [492], []]
/-- 41: KayfabeRing.head(I)I -/
def pg_c41 : List RI := [(3, 0, 0, 0), (1, 1, 0, 0), (41, 60, 0, 79), (17, 9, 1, 0), (44, 3, 3, 0), (49, 0, 0, 0), (49, 0, 0, 0), (49, 0, 0, 0), (49, 0, 0, 0), (3, 0, 0, 0), (34, 5, 0, 11), (1, 1, 0, 0), (31, 0, 0, 0), (4, 2, 0, 0), (3, 2, 0, 0), (13, 0, 0, 0), (33, 4, 8, 181), (0, 0, 0, 1), (6, 0, 0, 0), (35, 4, 8, 181), (3, 2, 0, 0), (33, 4, 8, 181), (0, 0, 0, 1), (18, 32, 1, 0), (3, 0, 0, 0), (1, 1, 0, 0), (3, 0, 0, 0), (33, 5, 8, 106), (0, 0, 0, 30), (6, 0, 0, 0), (41, 66, 0, 177), (45, 0, 0, 0), (3, 0, 0, 0), (1, 1, 0, 0), (3, 2, 0, 0), (33, 4, 8, 181), (0, 0, 0, 2), (18, 43, 1, 0), (3, 0, 0, 0), (33, 5, 8, 106), (0, 0, 0, 60), (6, 0, 0, 0), (16, 44, 0, 0), (0, 0, 0, 10000), (41, 66, 0, 177), (45, 0, 0, 0)]
def pg_p41 : List Nat := [0, 1, 2, 5, 8, 11, 12, 14, 17, 18, 19, 22, 23, 24, 25, 26, 27, 30, 31, 32, 35, 36, 39, 40, 43, 44, 45, 46, 49, 51, 52, 55, 56, 57, 58, 59, 62, 63, 66, 67, 70, 72, 73, 76, 79, 82]
def pg_w41 : List (List Nat) := [[], [], [414], [], [422, 32, 83, 87, 0], [], [], [], [], [], [258], [], [], [], [], [], [199], [], [], [199], [], [199], [], [], [], [], [], [266], [], [], [492], [], [], [], [], [199], [], [], [], [266], [], [], [], [], [492], []]
/-- 42: KayfabeRing.mend()I -/
def pg_c42 : List RI := [(3, 0, 0, 0), (41, 72, 0, 184), (4, 1, 0, 0), (3, 1, 0, 0), (41, 15, 0, 188), (15, 0, 0, 0), (3, 1, 0, 0), (41, 19, 0, 192), (45, 0, 0, 0)]
def pg_p42 : List Nat := [0, 1, 4, 5, 6, 9, 10, 11, 14]
def pg_w42 : List (List Nat) := [[], [541], [], [], [565], [], [], [581], []]
/-- 43: KayfabeRing.play()I -/
def pg_c43 : List RI := [(3, 0, 0, 0), (3, 0, 0, 0), (33, 5, 8, 106), (41, 63, 0, 111), (4, 1, 0, 0), (3, 1, 0, 0), (33, 0, 2, 144), (17, 15, 0, 0), (3, 1, 0, 0), (33, 0, 3, 162), (17, 15, 1, 0), (3, 0, 0, 0), (3, 1, 0, 0), (41, 68, 0, 195), (17, 20, 0, 0), (44, 2, 13, 0), (49, 0, 0, 0), (49, 0, 0, 0), (49, 0, 0, 0), (49, 0, 0, 0), (0, 0, 0, 0), (2, 2, 0, 0), (0, 0, 0, 0), (2, 3, 0, 0), (1, 3, 0, 0), (3, 1, 0, 0), (33, 0, 2, 144), (18, 41, 3, 0), (1, 2, 0, 0), (3, 0, 0, 0), (3, 1, 0, 0), (34, 0, 0, 147), (1, 3, 0, 0), (31, 0, 0, 0), (3, 1, 0, 0), (33, 0, 1, 141), (41, 69, 0, 201), (6, 0, 0, 0), (2, 2, 0, 0), (5, 3, 0, 1), (16, 24, 0, 0), (3, 1, 0, 0), (0, 0, 0, 1), (50, 0, 3, 162), (1, 2, 0, 0), (45, 0, 0, 0)]
def pg_p43 : List Nat := [0, 1, 2, 5, 8, 9, 10, 13, 16, 17, 20, 23, 24, 25, 28, 31, 34, 35, 37, 40, 41, 42, 43, 44, 45, 46, 47, 50, 53, 54, 55, 56, 59, 60, 61, 62, 65, 68, 69, 70, 73, 76, 77, 78, 81, 82]
def pg_w43 : List (List Nat) := [[], [], [266], [439], [], [], [109], [], [], [111], [], [], [], [652], [], [290, 30, 60, 64, 0], [], [], [], [], [], [], [], [], [], [], [109], [], [], [], [], [103], [], [], [], [106], [657], [], [], [], [], [], [], [111], [], []]
/-- 44: KayfabeRing.promo(III)I -/
def pg_c44 : List RI := [(1, 1, 0, 0), (40, 62, 0, 98), (17, 7, 0, 0), (3, 0, 0, 0), (1, 2, 0, 0), (41, 60, 0, 79), (17, 12, 1, 0), (44, 3, 14, 0), (49, 0, 0, 0), (49, 0, 0, 0), (49, 0, 0, 0), (49, 0, 0, 0), (1, 3, 0, 0), (0, 0, 0, 0), (0, 0, 0, 9), (40, 59, 0, 45), (17, 22, 1, 0), (44, 1, 15, 0), (49, 0, 0, 0), (49, 0, 0, 0), (49, 0, 0, 0), (49, 0, 0, 0), (3, 0, 0, 0), (34, 5, 0, 11), (1, 2, 0, 0), (31, 0, 0, 0), (4, 4, 0, 0), (3, 4, 0, 0), (3, 0, 0, 0), (33, 5, 8, 106), (41, 27, 0, 127), (17, 37, 1, 0), (3, 4, 0, 0), (33, 4, 13, 209), (3, 0, 0, 0), (33, 5, 8, 106), (18, 42, 1, 0), (44, 2, 16, 0), (49, 0, 0, 0), (49, 0, 0, 0), (49, 0, 0, 0), (49, 0, 0, 0), (3, 4, 0, 0), (3, 0, 0, 0), (33, 5, 8, 106), (35, 4, 13, 209), (0, 0, 0, 0), (3, 4, 0, 0), (33, 4, 4, 68), (0, 0, 0, 10), (9, 0, 0, 0), (1, 3, 0, 0), (7, 0, 0, 0), (51, 0, 0, 214), (2, 5, 0, 0), (3, 4, 0, 0), (1, 1, 0, 0), (3, 4, 0, 0), (33, 4, 5, 71), (17, 62, 1, 0), (1, 5, 0, 0), (16, 64, 0, 0), (1, 5, 0, 0), (11, 0, 0, 0), (41, 30, 0, 219), (3, 4, 0, 0), (41, 31, 0, 223), (3, 4, 0, 0), (34, 4, 0, 226), (1, 1, 0, 0), (27, 0, 0, 0), (45, 0, 0, 0)]
def pg_p44 : List Nat := [0, 1, 4, 7, 8, 9, 12, 15, 18, 19, 21, 24, 25, 26, 27, 29, 32, 35, 38, 39, 41, 44, 45, 46, 49, 50, 51, 53, 55, 56, 59, 62, 65, 67, 70, 71, 74, 77, 80, 81, 83, 86, 87, 89, 90, 93, 96, 97, 99, 102, 104, 105, 106, 107, 110, 112, 114, 115, 117, 120, 123, 125, 128, 130, 131, 134, 136, 139, 141, 144, 145, 146]
def pg_w44 : List (List Nat) := [[], [411], [], [], [], [414], [], [422, 32, 83, 87, 0], [], [], [], [], [], [], [], [367], [], [370, 31, 49, 53, 0], [], [], [], [], [], [258], [], [], [], [], [], [266], [460], [], [], [206], [], [266], [], [290, 30, 60, 64, 0], [], [], [], [], [], [], [266], [206], [], [], [192], [], [], [], [], [496, 497, 33, 498], [], [], [], [], [193], [], [], [], [], [], [618], [], [623], [], [185], [], [], []]
/-- 45: KayfabeRing.pass()I -/
def pg_c45 : List RI := [(3, 0, 0, 0), (33, 5, 8, 106), (0, 0, 0, 999), (18, 9, 2, 0), (44, 2, 17, 0), (49, 0, 0, 0), (49, 0, 0, 0), (49, 0, 0, 0), (49, 0, 0, 0), (3, 0, 0, 0), (3, 0, 0, 0), (33, 5, 8, 106), (41, 63, 0, 111), (4, 1, 0, 0), (3, 1, 0, 0), (33, 0, 3, 162), (17, 20, 1, 0), (3, 1, 0, 0), (0, 0, 0, 0), (35, 0, 2, 144), (0, 0, 0, 0), (2, 2, 0, 0), (1, 2, 0, 0), (3, 0, 0, 0), (33, 5, 6, 56), (18, 42, 3, 0), (3, 0, 0, 0), (34, 5, 0, 11), (1, 2, 0, 0), (31, 0, 0, 0), (0, 0, 0, 0), (3, 0, 0, 0), (34, 5, 0, 11), (1, 2, 0, 0), (31, 0, 0, 0), (33, 4, 6, 231), (0, 0, 0, 10), (7, 0, 0, 0), (51, 0, 0, 214), (35, 4, 6, 231), (5, 2, 0, 1), (16, 22, 0, 0), (3, 0, 0, 0), (13, 0, 0, 0), (33, 5, 8, 106), (0, 0, 0, 1), (6, 0, 0, 0), (35, 5, 8, 106), (3, 0, 0, 0), (33, 5, 8, 106), (45, 0, 0, 0)]
def pg_p45 : List Nat := [0, 1, 4, 7, 10, 13, 14, 16, 19, 20, 21, 22, 25, 28, 29, 30, 33, 36, 37, 38, 41, 42, 43, 44, 45, 48, 51, 52, 55, 56, 57, 58, 59, 62, 63, 64, 67, 69, 70, 73, 76, 79, 82, 83, 84, 87, 88, 89, 92, 93, 96]
def pg_w45 : List (List Nat) := [[], [266], [], [], [290, 30, 60, 64, 0], [], [], [], [], [], [], [266], [439], [], [], [111], [], [], [], [109], [], [], [], [], [264], [], [], [258], [], [], [], [], [258], [], [], [196], [], [], [496, 497, 33, 498], [196], [], [], [], [], [266], [], [], [266], [], [266], []]
/-- 46: KayfabeRing.day()I -/
def pg_c46 : List RI := [(3, 0, 0, 0), (33, 5, 8, 106), (45, 0, 0, 0)]
def pg_p46 : List Nat := [0, 1, 4]
def pg_w46 : List (List Nat) := [[], [266], []]
/-- 47: KayfabeRing.ofWrestler(II)I -/
def pg_c47 : List RI := [(3, 0, 0, 0), (1, 1, 0, 0), (41, 60, 0, 79), (17, 9, 1, 0), (44, 3, 3, 0), (49, 0, 0, 0), (49, 0, 0, 0), (49, 0, 0, 0), (49, 0, 0, 0), (3, 0, 0, 0), (34, 5, 0, 11), (1, 1, 0, 0), (31, 0, 0, 0), (4, 3, 0, 0), (1, 2, 0, 0), (20, 0, 0, 0), (3, 3, 0, 0), (33, 4, 5, 71), (45, 0, 0, 0), (3, 3, 0, 0), (33, 4, 6, 231), (45, 0, 0, 0), (3, 3, 0, 0), (3, 0, 0, 0), (33, 5, 8, 106), (41, 27, 0, 127), (17, 30, 0, 0), (3, 3, 0, 0), (33, 4, 7, 234), (16, 31, 0, 0), (0, 0, 0, 0), (45, 0, 0, 0), (3, 3, 0, 0), (33, 4, 8, 181), (45, 0, 0, 0), (3, 3, 0, 0), (33, 4, 9, 237), (45, 0, 0, 0), (3, 3, 0, 0), (33, 4, 10, 240), (45, 0, 0, 0), (3, 3, 0, 0), (33, 4, 11, 243), (45, 0, 0, 0), (44, 1, 18, 0), (49, 0, 0, 0), (49, 0, 0, 0), (49, 0, 0, 0), (49, 0, 0, 0)]
def pg_p47 : List Nat := [0, 1, 2, 5, 8, 11, 12, 14, 17, 18, 19, 22, 23, 24, 25, 26, 68, 69, 72, 73, 74, 77, 78, 79, 80, 83, 86, 89, 90, 93, 96, 97, 98, 99, 102, 103, 104, 107, 108, 109, 112, 113, 114, 117, 118, 121, 122, 124, 127]
def pg_w47 : List (List Nat) := [[], [], [414], [], [422, 32, 83, 87, 0], [], [], [], [], [], [258], [], [], [], [], [], [], [193], [], [], [196], [], [], [], [266], [460], [], [], [198], [], [], [], [], [199], [], [], [200], [], [], [201], [], [], [202], [], [370, 31, 49, 53, 0], [], [], [], []]
/-- 48: KayfabeRing.love(II)I -/
def pg_c48 : List RI := [(1, 1, 0, 0), (40, 62, 0, 98), (17, 7, 0, 0), (3, 0, 0, 0), (1, 2, 0, 0), (41, 60, 0, 79), (17, 12, 1, 0), (44, 3, 14, 0), (49, 0, 0, 0), (49, 0, 0, 0), (49, 0, 0, 0), (49, 0, 0, 0), (3, 0, 0, 0), (34, 5, 0, 11), (1, 2, 0, 0), (31, 0, 0, 0), (34, 4, 0, 226), (1, 1, 0, 0), (27, 0, 0, 0), (45, 0, 0, 0)]
def pg_p48 : List Nat := [0, 1, 4, 7, 8, 9, 12, 15, 18, 19, 21, 24, 25, 26, 29, 30, 31, 34, 35, 36]
def pg_w48 : List (List Nat) := [[], [411], [], [], [], [414], [], [422, 32, 83, 87, 0], [], [], [], [], [], [258], [], [], [185], [], [], []]
/-- 49: KayfabeRing.worth(II)I -/
def pg_c49 : List RI := [(1, 1, 0, 0), (40, 62, 0, 98), (17, 7, 0, 0), (3, 0, 0, 0), (1, 2, 0, 0), (41, 60, 0, 79), (17, 12, 1, 0), (44, 3, 14, 0), (49, 0, 0, 0), (49, 0, 0, 0), (49, 0, 0, 0), (49, 0, 0, 0), (3, 0, 0, 0), (34, 5, 0, 11), (1, 2, 0, 0), (31, 0, 0, 0), (1, 1, 0, 0), (41, 29, 0, 248), (45, 0, 0, 0)]
def pg_p49 : List Nat := [0, 1, 4, 7, 8, 9, 12, 15, 18, 19, 21, 24, 25, 26, 29, 30, 31, 32, 35]
def pg_w49 : List (List Nat) := [[], [411], [], [], [], [414], [], [422, 32, 83, 87, 0], [], [], [], [], [], [258], [], [], [], [661], []]
/-- 50: KayfabeRing.ofCard(II)I -/
def pg_c50 : List RI := [(1, 1, 0, 0), (0, 0, 0, 0), (0, 0, 0, 999), (40, 59, 0, 45), (17, 10, 1, 0), (44, 1, 5, 0), (49, 0, 0, 0), (49, 0, 0, 0), (49, 0, 0, 0), (49, 0, 0, 0), (3, 0, 0, 0), (1, 1, 0, 0), (41, 63, 0, 111), (4, 3, 0, 0), (1, 2, 0, 0), (20, 1, 0, 0), (3, 3, 0, 0), (33, 0, 2, 144), (17, 21, 1, 0), (0, 0, 0, (-1)), (16, 23, 0, 0), (3, 3, 0, 0), (33, 0, 1, 141), (45, 0, 0, 0), (3, 3, 0, 0), (33, 0, 2, 144), (45, 0, 0, 0), (3, 3, 0, 0), (41, 5, 0, 252), (45, 0, 0, 0), (3, 3, 0, 0), (33, 0, 3, 162), (17, 35, 0, 0), (0, 0, 0, 1), (16, 36, 0, 0), (0, 0, 0, 0), (45, 0, 0, 0), (44, 1, 18, 0), (49, 0, 0, 0), (49, 0, 0, 0), (49, 0, 0, 0), (49, 0, 0, 0)]
def pg_p50 : List Nat := [0, 1, 2, 5, 8, 11, 14, 15, 17, 20, 21, 22, 23, 26, 27, 28, 60, 61, 64, 67, 68, 71, 72, 75, 76, 77, 80, 81, 82, 85, 86, 87, 90, 93, 94, 97, 98, 99, 102, 103, 105, 108]
def pg_w50 : List (List Nat) := [[], [], [], [367], [], [370, 31, 49, 53, 0], [], [], [], [], [], [], [439], [], [], [], [], [109], [], [], [], [], [106], [], [], [109], [], [], [740], [], [], [111], [], [], [], [], [], [370, 31, 49, 53, 0], [], [], [], []]
/-- 51: KayfabeRing.ofMatch(III)I -/
def pg_c51 : List RI := [(3, 0, 0, 0), (1, 1, 0, 0), (41, 63, 0, 111), (4, 4, 0, 0), (3, 4, 0, 0), (1, 2, 0, 0), (41, 1, 0, 157), (17, 13, 1, 0), (44, 3, 10, 0), (49, 0, 0, 0), (49, 0, 0, 0), (49, 0, 0, 0), (49, 0, 0, 0), (3, 4, 0, 0), (34, 0, 0, 147), (1, 2, 0, 0), (31, 0, 0, 0), (4, 5, 0, 0), (1, 3, 0, 0), (20, 2, 0, 0), (3, 5, 0, 0), (33, 1, 0, 255), (45, 0, 0, 0), (3, 5, 0, 0), (33, 1, 1, 258), (45, 0, 0, 0), (3, 4, 0, 0), (33, 0, 3, 162), (17, 34, 0, 0), (3, 5, 0, 0), (33, 1, 5, 172), (17, 34, 0, 0), (0, 0, 0, (-1)), (16, 36, 0, 0), (3, 5, 0, 0), (41, 10, 0, 261), (45, 0, 0, 0), (3, 5, 0, 0), (33, 1, 3, 264), (45, 0, 0, 0), (3, 5, 0, 0), (33, 1, 4, 267), (45, 0, 0, 0), (3, 5, 0, 0), (33, 1, 5, 172), (17, 48, 0, 0), (0, 0, 0, 1), (16, 49, 0, 0), (0, 0, 0, 0), (45, 0, 0, 0), (44, 1, 18, 0), (49, 0, 0, 0), (49, 0, 0, 0), (49, 0, 0, 0), (49, 0, 0, 0)]
def pg_p51 : List Nat := [0, 1, 2, 5, 7, 9, 10, 13, 16, 19, 20, 22, 25, 26, 28, 31, 32, 33, 35, 36, 76, 78, 81, 82, 84, 87, 88, 90, 93, 96, 98, 101, 104, 105, 108, 110, 113, 114, 116, 119, 120, 122, 125, 126, 128, 131, 134, 135, 138, 139, 140, 143, 144, 146, 149]
def pg_w51 : List (List Nat) := [[], [], [439], [], [], [], [631], [], [422, 32, 83, 87, 0], [], [], [], [], [], [103], [], [], [], [], [], [], [72], [], [], [76], [], [], [111], [], [], [87], [], [], [], [], [662], [], [], [81], [], [], [84], [], [], [87], [], [], [], [], [], [370, 31, 49, 53, 0], [], [], [], []]
/-- 52: KayfabeRing.lineage(IIZ)I -/
def pg_c52 : List RI := [(3, 0, 0, 0), (1, 1, 0, 0), (41, 61, 0, 101), (17, 15, 0, 0), (1, 2, 0, 0), (0, 0, 0, 0), (3, 0, 0, 0), (34, 5, 1, 17), (1, 1, 0, 0), (31, 0, 0, 0), (33, 3, 2, 270), (0, 0, 0, 1), (7, 0, 0, 0), (40, 59, 0, 45), (17, 20, 1, 0), (44, 3, 19, 0), (49, 0, 0, 0), (49, 0, 0, 0), (49, 0, 0, 0), (49, 0, 0, 0), (1, 3, 0, 0), (17, 30, 0, 0), (3, 0, 0, 0), (34, 5, 1, 17), (1, 1, 0, 0), (31, 0, 0, 0), (34, 3, 1, 275), (1, 2, 0, 0), (27, 0, 0, 0), (16, 37, 0, 0), (3, 0, 0, 0), (34, 5, 1, 17), (1, 1, 0, 0), (31, 0, 0, 0), (34, 3, 0, 278), (1, 2, 0, 0), (27, 0, 0, 0), (45, 0, 0, 0)]
def pg_p52 : List Nat := [0, 1, 2, 5, 8, 9, 10, 11, 14, 15, 16, 19, 20, 21, 24, 27, 30, 31, 34, 37, 38, 39, 42, 43, 46, 47, 48, 51, 52, 53, 56, 57, 60, 61, 62, 65, 66, 67]
def pg_w52 : List (List Nat) := [[], [], [418], [], [], [], [], [259], [], [], [246], [], [], [367], [], [422, 32, 83, 87, 1], [], [], [], [], [], [], [], [259], [], [], [244], [], [], [], [], [259], [], [], [242], [], [], []]
/-- 53: KayfabeRing.champion(I)I -/
def pg_c53 : List RI := [(3, 0, 0, 0), (1, 1, 0, 0), (41, 61, 0, 101), (17, 9, 1, 0), (44, 3, 20, 0), (49, 0, 0, 0), (49, 0, 0, 0), (49, 0, 0, 0), (49, 0, 0, 0), (3, 0, 0, 0), (34, 5, 1, 17), (1, 1, 0, 0), (31, 0, 0, 0), (33, 3, 3, 283), (45, 0, 0, 0)]
def pg_p53 : List Nat := [0, 1, 2, 5, 8, 11, 12, 15, 18, 19, 20, 23, 24, 25, 28]
def pg_w53 : List (List Nat) := [[], [], [418], [], [422, 32, 83, 87, 1], [], [], [], [], [], [259], [], [], [248], []]
/-- 54: KayfabeRing.beat(II)I -/
def pg_c54 : List RI := [(3, 0, 0, 0), (1, 1, 0, 0), (41, 60, 0, 79), (17, 8, 0, 0), (3, 0, 0, 0), (1, 2, 0, 0), (41, 60, 0, 79), (17, 13, 1, 0), (44, 3, 3, 0), (49, 0, 0, 0), (49, 0, 0, 0), (49, 0, 0, 0), (49, 0, 0, 0), (3, 0, 0, 0), (34, 5, 0, 11), (1, 1, 0, 0), (31, 0, 0, 0), (34, 4, 2, 286), (1, 2, 0, 0), (27, 0, 0, 0), (45, 0, 0, 0)]
def pg_p54 : List Nat := [0, 1, 2, 5, 8, 9, 10, 13, 16, 19, 20, 22, 25, 26, 27, 30, 31, 32, 35, 36, 37]
def pg_w54 : List (List Nat) := [[], [], [414], [], [], [], [414], [], [422, 32, 83, 87, 0], [], [], [], [], [], [258], [], [], [189], [], [], []]
/-- 55: KayfabeRing.beatAnew(II)I -/
def pg_c55 : List RI := [(3, 0, 0, 0), (1, 1, 0, 0), (41, 60, 0, 79), (17, 8, 0, 0), (3, 0, 0, 0), (1, 2, 0, 0), (41, 60, 0, 79), (17, 13, 1, 0), (44, 3, 3, 0), (49, 0, 0, 0), (49, 0, 0, 0), (49, 0, 0, 0), (49, 0, 0, 0), (0, 0, 0, 0), (2, 3, 0, 0), (0, 0, 0, 0), (2, 4, 0, 0), (1, 4, 0, 0), (3, 0, 0, 0), (33, 5, 8, 106), (18, 37, 4, 0), (3, 0, 0, 0), (1, 4, 0, 0), (41, 63, 0, 111), (4, 5, 0, 0), (3, 5, 0, 0), (33, 0, 3, 162), (17, 35, 0, 0), (1, 3, 0, 0), (3, 5, 0, 0), (1, 1, 0, 0), (1, 2, 0, 0), (41, 6, 0, 289), (6, 0, 0, 0), (2, 3, 0, 0), (5, 4, 0, 1), (16, 17, 0, 0), (1, 3, 0, 0), (45, 0, 0, 0)]
def pg_p55 : List Nat := [0, 1, 2, 5, 8, 9, 10, 13, 16, 19, 20, 22, 25, 26, 27, 28, 29, 31, 33, 34, 37, 40, 41, 43, 46, 48, 50, 53, 56, 57, 59, 60, 61, 64, 65, 66, 69, 72, 73]
def pg_w55 : List (List Nat) := [[], [], [414], [], [], [], [414], [], [422, 32, 83, 87, 0], [], [], [], [], [], [], [], [], [], [], [266], [], [], [], [439], [], [], [111], [], [], [], [], [], [711], [], [], [], [], [], []]
/-- 56: KayfabeRing.gate(I)I -/
def pg_c56 : List RI := [(1, 1, 0, 0), (40, 62, 0, 98), (17, 8, 1, 0), (44, 3, 21, 0), (49, 0, 0, 0), (49, 0, 0, 0), (49, 0, 0, 0), (49, 0, 0, 0), (3, 0, 0, 0), (34, 5, 4, 32), (1, 1, 0, 0), (27, 0, 0, 0), (45, 0, 0, 0)]
def pg_p56 : List Nat := [0, 1, 4, 7, 10, 11, 14, 17, 18, 19, 22, 23, 24]
def pg_w56 : List (List Nat) := [[], [411], [], [422, 32, 83, 87, 1], [], [], [], [], [], [262], [], [], []]
/-- 57: KayfabeRing.mending()I -/
def pg_c57 : List RI := [(3, 0, 0, 0), (41, 72, 0, 184), (41, 15, 0, 188), (45, 0, 0, 0)]
def pg_p57 : List Nat := [0, 1, 4, 7]
def pg_w57 : List (List Nat) := [[], [541], [565], []]
/-- 58: KayfabeRing.mendingAnew()I -/
def pg_c58 : List RI := [(3, 0, 0, 0), (41, 72, 0, 184), (41, 20, 0, 294), (45, 0, 0, 0)]
def pg_p58 : List Nat := [0, 1, 4, 7]
def pg_w58 : List (List Nat) := [[], [541], [749], []]
/-- 59: KayfabeRing.isWithin(III)Z -/
def pg_c59 : List RI := [(1, 0, 0, 0), (1, 1, 0, 0), (18, 8, 2, 0), (1, 0, 0, 0), (1, 2, 0, 0), (18, 8, 4, 0), (0, 0, 0, 1), (16, 9, 0, 0), (0, 0, 0, 0), (45, 0, 0, 0)]
def pg_p59 : List Nat := [0, 1, 2, 5, 6, 7, 10, 11, 14, 15]
def pg_w59 : List (List Nat) := [[], [], [], [], [], [], [], [], [], []]
/-- 60: KayfabeRing.isWrestler(I)Z -/
def pg_c60 : List RI := [(1, 1, 0, 0), (17, 8, 2, 0), (1, 1, 0, 0), (3, 0, 0, 0), (33, 5, 6, 56), (18, 8, 3, 0), (0, 0, 0, 1), (16, 9, 0, 0), (0, 0, 0, 0), (45, 0, 0, 0)]
def pg_p60 : List Nat := [0, 1, 4, 5, 6, 9, 12, 13, 16, 17]
def pg_w60 : List (List Nat) := [[], [], [], [], [264], [], [], [], [], []]
/-- 61: KayfabeRing.isTitle(I)Z -/
def pg_c61 : List RI := [(1, 1, 0, 0), (17, 8, 2, 0), (1, 1, 0, 0), (3, 0, 0, 0), (33, 5, 7, 74), (18, 8, 3, 0), (0, 0, 0, 1), (16, 9, 0, 0), (0, 0, 0, 0), (45, 0, 0, 0)]
def pg_p61 : List Nat := [0, 1, 4, 5, 6, 9, 12, 13, 16, 17]
def pg_w61 : List (List Nat) := [[], [], [], [], [265], [], [], [], [], []]
/-- 62: KayfabeRing.isTown(I)Z -/
def pg_c62 : List RI := [(1, 0, 0, 0), (17, 7, 2, 0), (1, 0, 0, 0), (0, 0, 0, 4), (18, 7, 3, 0), (0, 0, 0, 1), (16, 8, 0, 0), (0, 0, 0, 0), (45, 0, 0, 0)]
def pg_p62 : List Nat := [0, 1, 4, 5, 6, 9, 10, 13, 14]
def pg_w62 : List (List Nat) := [[], [], [], [], [], [], [], [], []]
/-- 63: KayfabeRing.cardOf(I)LKayfabeRing$Card; -/
def pg_c63 : List RI := [(1, 1, 0, 0), (0, 0, 0, 0), (0, 0, 0, 999), (40, 59, 0, 45), (17, 10, 0, 0), (3, 0, 0, 0), (34, 5, 2, 23), (1, 1, 0, 0), (31, 0, 0, 0), (19, 13, 0, 0), (3, 0, 0, 0), (34, 5, 3, 28), (46, 0, 0, 0), (3, 0, 0, 0), (34, 5, 2, 23), (1, 1, 0, 0), (31, 0, 0, 0), (46, 0, 0, 0)]
def pg_p63 : List Nat := [0, 1, 2, 5, 8, 11, 12, 15, 16, 17, 20, 21, 24, 25, 26, 29, 30, 31]
def pg_w63 : List (List Nat) := [[], [], [], [367], [], [], [260], [], [], [], [], [261], [], [], [260], [], [], []]
/-- 64: KayfabeRing.cardToBook(I)LKayfabeRing$Card; -/
def pg_c64 : List RI := [(3, 0, 0, 0), (34, 5, 2, 23), (1, 1, 0, 0), (31, 0, 0, 0), (19, 12, 0, 0), (3, 0, 0, 0), (34, 5, 2, 23), (1, 1, 0, 0), (37, 0, 0, 21), (13, 0, 0, 0), (42, 0, 0, 27), (32, 0, 0, 0), (3, 0, 0, 0), (34, 5, 2, 23), (1, 1, 0, 0), (31, 0, 0, 0), (46, 0, 0, 0)]
def pg_p64 : List Nat := [0, 1, 4, 5, 6, 9, 10, 13, 14, 17, 18, 21, 22, 23, 26, 27, 28]
def pg_w64 : List (List Nat) := [[], [260], [], [], [], [], [260], [], [55, 57, 21], [], [58], [], [], [260], [], [], []]
/-- 65: KayfabeRing.isAtStake(III)Z -/
def pg_c65 : List RI := [(1, 1, 0, 0), (0, 0, 0, (-1)), (18, 5, 1, 0), (0, 0, 0, 1), (45, 0, 0, 0), (3, 0, 0, 0), (34, 5, 1, 17), (1, 1, 0, 0), (31, 0, 0, 0), (33, 3, 3, 283), (2, 4, 0, 0), (1, 4, 0, 0), (0, 0, 0, (-1)), (18, 20, 0, 0), (1, 4, 0, 0), (1, 2, 0, 0), (18, 20, 0, 0), (1, 4, 0, 0), (1, 3, 0, 0), (18, 22, 1, 0), (0, 0, 0, 1), (16, 23, 0, 0), (0, 0, 0, 0), (45, 0, 0, 0)]
def pg_p65 : List Nat := [0, 1, 2, 5, 6, 7, 8, 11, 12, 13, 16, 18, 20, 21, 24, 26, 27, 30, 32, 33, 36, 37, 40, 41]
def pg_w65 : List (List Nat) := [[], [], [], [], [], [], [259], [], [], [248], [], [], [], [], [], [], [], [], [], [], [], [], [], []]
/-- 66: KayfabeRing.injure(II)I -/
def pg_c66 : List RI := [(3, 0, 0, 0), (34, 5, 0, 11), (1, 1, 0, 0), (31, 0, 0, 0), (4, 3, 0, 0), (3, 3, 0, 0), (3, 3, 0, 0), (33, 4, 7, 234), (1, 2, 0, 0), (51, 0, 0, 214), (35, 4, 7, 234), (3, 3, 0, 0), (33, 4, 7, 234), (3, 0, 0, 0), (33, 5, 8, 106), (7, 0, 0, 0), (0, 0, 0, 60), (18, 21, 5, 0), (3, 0, 0, 0), (1, 1, 0, 0), (41, 67, 0, 297), (3, 3, 0, 0), (33, 4, 7, 234), (45, 0, 0, 0)]
def pg_p66 : List Nat := [0, 1, 4, 5, 6, 7, 8, 9, 12, 13, 16, 19, 20, 23, 24, 27, 28, 30, 33, 34, 35, 38, 39, 42]
def pg_w66 : List (List Nat) := [[], [258], [], [], [], [], [], [198], [], [496, 497, 33, 498], [198], [], [198], [], [266], [], [], [], [], [], [499], [], [198], []]
/-- 67: KayfabeRing.vacateTitlesOf(I)V -/
def pg_c67 : List RI := [(0, 0, 0, 0), (2, 2, 0, 0), (1, 2, 0, 0), (3, 0, 0, 0), (33, 5, 7, 74), (18, 23, 3, 0), (3, 0, 0, 0), (34, 5, 1, 17), (1, 2, 0, 0), (31, 0, 0, 0), (33, 3, 3, 283), (1, 1, 0, 0), (18, 21, 1, 0), (3, 0, 0, 0), (34, 5, 1, 17), (1, 2, 0, 0), (31, 0, 0, 0), (0, 0, 0, (-1)), (3, 0, 0, 0), (33, 5, 8, 106), (41, 25, 0, 300), (5, 2, 0, 1), (16, 2, 0, 0), (47, 0, 0, 0)]
def pg_p67 : List Nat := [0, 1, 2, 3, 4, 7, 10, 11, 14, 15, 16, 19, 20, 23, 24, 27, 28, 29, 30, 31, 34, 37, 40, 43]
def pg_w67 : List (List Nat) := [[], [], [], [], [265], [], [], [259], [], [], [248], [], [], [], [259], [], [], [], [], [266], [503], [], [], []]
/-- 68: KayfabeRing.hasHurtOnes(LKayfabeRing$Card;)Z -/
def pg_c68 : List RI := [(0, 0, 0, 0), (2, 2, 0, 0), (1, 2, 0, 0), (3, 1, 0, 0), (33, 0, 2, 144), (18, 33, 3, 0), (3, 1, 0, 0), (34, 0, 0, 147), (1, 2, 0, 0), (31, 0, 0, 0), (4, 3, 0, 0), (3, 0, 0, 0), (34, 5, 0, 11), (3, 3, 0, 0), (33, 1, 0, 255), (31, 0, 0, 0), (3, 0, 0, 0), (33, 5, 8, 106), (41, 27, 0, 127), (17, 29, 1, 0), (3, 0, 0, 0), (34, 5, 0, 11), (3, 3, 0, 0), (33, 1, 1, 258), (31, 0, 0, 0), (3, 0, 0, 0), (33, 5, 8, 106), (41, 27, 0, 127), (17, 31, 0, 0), (0, 0, 0, 1), (45, 0, 0, 0), (5, 2, 0, 1), (16, 2, 0, 0), (0, 0, 0, 0), (45, 0, 0, 0)]
def pg_p68 : List Nat := [0, 1, 2, 3, 4, 7, 10, 11, 14, 15, 16, 17, 18, 21, 22, 25, 26, 27, 30, 33, 36, 37, 40, 41, 44, 45, 46, 49, 52, 55, 56, 57, 60, 63, 64]
def pg_w68 : List (List Nat) := [[], [], [], [], [109], [], [], [103], [], [], [], [], [258], [], [72], [], [], [266], [460], [], [], [258], [], [76], [], [], [266], [460], [], [], [], [], [], [], []]
/-- 69: KayfabeRing.playMatch(LKayfabeRing$Match;I)I -/
def pg_c69 : List RI := [(3, 0, 0, 0), (34, 5, 0, 11), (3, 1, 0, 0), (33, 1, 0, 255), (31, 0, 0, 0), (4, 3, 0, 0), (3, 0, 0, 0), (34, 5, 0, 11), (3, 1, 0, 0), (33, 1, 1, 258), (31, 0, 0, 0), (4, 4, 0, 0), (3, 3, 0, 0), (1, 2, 0, 0), (41, 29, 0, 248), (3, 4, 0, 0), (1, 2, 0, 0), (41, 29, 0, 248), (6, 0, 0, 0), (2, 5, 0, 0), (3, 0, 0, 0), (34, 5, 4, 32), (1, 2, 0, 0), (14, 0, 0, 0), (27, 0, 0, 0), (1, 5, 0, 0), (6, 0, 0, 0), (28, 0, 0, 0), (3, 1, 0, 0), (33, 1, 5, 172), (17, 44, 0, 0), (3, 3, 0, 0), (13, 0, 0, 0), (33, 4, 11, 243), (0, 0, 0, 1), (6, 0, 0, 0), (35, 4, 11, 243), (3, 4, 0, 0), (13, 0, 0, 0), (33, 4, 11, 243), (0, 0, 0, 1), (6, 0, 0, 0), (35, 4, 11, 243), (16, 51, 0, 0), (3, 0, 0, 0), (3, 1, 0, 0), (41, 10, 0, 261), (3, 1, 0, 0), (41, 11, 0, 303), (1, 2, 0, 0), (41, 70, 0, 306), (3, 3, 0, 0), (13, 0, 0, 0), (33, 4, 6, 231), (3, 1, 0, 0), (33, 1, 3, 264), (6, 0, 0, 0), (35, 4, 6, 231), (3, 4, 0, 0), (13, 0, 0, 0), (33, 4, 6, 231), (3, 1, 0, 0), (33, 1, 3, 264), (6, 0, 0, 0), (35, 4, 6, 231), (3, 1, 0, 0), (33, 1, 5, 172), (17, 71, 1, 0), (3, 0, 0, 0), (3, 1, 0, 0), (41, 71, 0, 310), (3, 3, 0, 0), (41, 31, 0, 223), (3, 4, 0, 0), (41, 31, 0, 223), (1, 5, 0, 0), (45, 0, 0, 0)]
def pg_p69 : List Nat := [0, 1, 4, 5, 8, 9, 10, 11, 14, 15, 18, 19, 21, 22, 23, 26, 28, 29, 32, 33, 35, 36, 39, 40, 41, 42, 44, 45, 46, 47, 50, 53, 54, 55, 58, 59, 60, 63, 65, 66, 69, 70, 71, 74, 77, 78, 79, 82, 83, 86, 87, 90, 91, 92, 95, 96, 99, 100, 103, 105, 106, 109, 110, 113, 114, 117, 118, 121, 124, 125, 126, 129, 130, 133, 135, 138, 140]
def pg_w69 : List (List Nat) := [[], [258], [], [72], [], [], [], [258], [], [76], [], [], [], [], [661], [], [], [661], [], [], [], [262], [], [], [], [], [], [], [], [87], [], [], [], [202], [], [], [202], [], [], [202], [], [], [202], [], [], [], [662], [], [666], [], [670], [], [], [196], [], [81], [], [196], [], [], [196], [], [81], [], [196], [], [87], [], [], [], [674], [], [623], [], [623], [], []]
/-- 70: KayfabeRing.decide(III)V -/
def pg_c70 : List RI := [(3, 0, 0, 0), (34, 5, 0, 11), (1, 1, 0, 0), (31, 0, 0, 0), (4, 4, 0, 0), (3, 0, 0, 0), (34, 5, 0, 11), (1, 2, 0, 0), (31, 0, 0, 0), (4, 5, 0, 0), (3, 4, 0, 0), (13, 0, 0, 0), (33, 4, 9, 237), (0, 0, 0, 1), (6, 0, 0, 0), (35, 4, 9, 237), (3, 5, 0, 0), (13, 0, 0, 0), (33, 4, 10, 240), (0, 0, 0, 1), (6, 0, 0, 0), (35, 4, 10, 240), (3, 4, 0, 0), (34, 4, 2, 286), (1, 2, 0, 0), (14, 0, 0, 0), (27, 0, 0, 0), (0, 0, 0, 1), (6, 0, 0, 0), (28, 0, 0, 0), (3, 4, 0, 0), (33, 4, 5, 71), (3, 5, 0, 0), (33, 4, 5, 71), (18, 44, 1, 0), (3, 4, 0, 0), (1, 3, 0, 0), (0, 0, 0, 3), (41, 30, 0, 219), (3, 5, 0, 0), (1, 3, 0, 0), (0, 0, 0, (-1)), (41, 30, 0, 219), (16, 62, 0, 0), (3, 4, 0, 0), (1, 3, 0, 0), (3, 4, 0, 0), (33, 4, 5, 71), (17, 51, 1, 0), (0, 0, 0, 6), (16, 52, 0, 0), (0, 0, 0, (-6)), (41, 30, 0, 219), (3, 5, 0, 0), (1, 3, 0, 0), (3, 5, 0, 0), (33, 4, 5, 71), (17, 60, 1, 0), (0, 0, 0, 2), (16, 61, 0, 0), (0, 0, 0, (-2)), (41, 30, 0, 219), (47, 0, 0, 0)]
def pg_p70 : List Nat := [0, 1, 4, 5, 6, 8, 9, 12, 13, 14, 16, 18, 19, 22, 23, 24, 27, 29, 30, 33, 34, 35, 38, 40, 43, 44, 45, 46, 47, 48, 49, 51, 54, 56, 59, 62, 64, 65, 66, 69, 71, 72, 73, 76, 79, 81, 82, 84, 87, 90, 92, 95, 97, 100, 102, 103, 105, 108, 111, 112, 115, 117, 120]
def pg_w70 : List (List Nat) := [[], [258], [], [], [], [], [258], [], [], [], [], [], [200], [], [], [200], [], [], [201], [], [], [201], [], [189], [], [], [], [], [], [], [], [193], [], [193], [], [], [], [], [618], [], [], [], [618], [], [], [], [], [193], [], [], [], [], [618], [], [], [], [193], [], [], [], [], [618], []]
/-- 71: KayfabeRing.handOver(LKayfabeRing$Match;)V -/
def pg_c71 : List RI := [(3, 1, 0, 0), (33, 1, 4, 267), (0, 0, 0, (-1)), (18, 13, 0, 0), (3, 0, 0, 0), (3, 1, 0, 0), (33, 1, 4, 267), (3, 1, 0, 0), (33, 1, 0, 255), (3, 1, 0, 0), (33, 1, 1, 258), (41, 65, 0, 130), (17, 14, 1, 0), (47, 0, 0, 0), (3, 0, 0, 0), (34, 5, 1, 17), (3, 1, 0, 0), (33, 1, 4, 267), (31, 0, 0, 0), (4, 2, 0, 0), (3, 2, 0, 0), (33, 3, 3, 283), (3, 1, 0, 0), (41, 10, 0, 261), (18, 31, 0, 0), (3, 2, 0, 0), (3, 1, 0, 0), (41, 10, 0, 261), (3, 0, 0, 0), (33, 5, 8, 106), (41, 25, 0, 300), (47, 0, 0, 0)]
def pg_p71 : List Nat := [0, 1, 4, 5, 8, 9, 10, 13, 14, 17, 18, 21, 24, 27, 28, 29, 32, 33, 36, 37, 38, 39, 42, 43, 46, 49, 50, 51, 54, 55, 58, 61]
def pg_w71 : List (List Nat) := [[], [84], [], [], [], [], [84], [], [72], [], [76], [464], [], [], [], [259], [], [84], [], [], [], [248], [], [662], [], [], [], [662], [], [266], [503], []]
/-- 72: KayfabeRing.mendersView()LKayfabeRing$Mender; -/
def pg_c72 : List RI := [(3, 0, 0, 0), (3, 0, 0, 0), (33, 5, 8, 106), (41, 63, 0, 111), (4, 1, 0, 0), (3, 1, 0, 0), (33, 0, 2, 144), (17, 11, 0, 0), (3, 1, 0, 0), (33, 0, 3, 162), (17, 16, 0, 0), (44, 2, 22, 0), (49, 0, 0, 0), (49, 0, 0, 0), (49, 0, 0, 0), (49, 0, 0, 0), (3, 0, 0, 0), (34, 5, 5, 39), (3, 1, 0, 0), (3, 0, 0, 0), (33, 5, 8, 106), (3, 0, 0, 0), (34, 5, 0, 11), (3, 0, 0, 0), (33, 5, 6, 56), (41, 13, 0, 316), (3, 0, 0, 0), (34, 5, 5, 39), (48, 2, 11, 320), (0, 0, 0, 4), (18, 36, 5, 0), (44, 2, 23, 0), (49, 0, 0, 0), (49, 0, 0, 0), (49, 0, 0, 0), (49, 0, 0, 0), (3, 0, 0, 0), (34, 5, 5, 39), (46, 0, 0, 0)]
def pg_p72 : List Nat := [0, 1, 2, 5, 8, 9, 10, 13, 16, 17, 20, 23, 26, 27, 30, 33, 34, 35, 38, 39, 40, 43, 44, 47, 48, 51, 54, 55, 58, 61, 62, 65, 68, 69, 72, 75, 76, 77, 80]
def pg_w72 : List (List Nat) := [[], [], [266], [439], [], [], [109], [], [], [111], [], [290, 30, 60, 64, 1], [], [], [], [], [], [263], [], [], [266], [], [258], [], [264], [546], [], [263], [142], [], [], [290, 30, 60, 64, 1], [], [], [], [], [], [263], []]
/-- 73: java/lang/Math.abs(I)I -/
def pg_c73 : List RI := [(1, 0, 0, 0), (17, 5, 3, 0), (1, 0, 0, 0), (11, 0, 0, 0), (16, 6, 0, 0), (1, 0, 0, 0), (45, 0, 0, 0)]
def pg_p73 : List Nat := [0, 1, 4, 5, 6, 9, 10]
def pg_w73 : List (List Nat) := [[], [], [], [], [], [], []]
/-- 74: java/lang/Math.max(II)I -/
def pg_c74 : List RI := [(1, 0, 0, 0), (1, 1, 0, 0), (18, 5, 2, 0), (1, 0, 0, 0), (16, 6, 0, 0), (1, 1, 0, 0), (45, 0, 0, 0)]
def pg_p74 : List Nat := [0, 1, 2, 5, 6, 9, 10]
def pg_w74 : List (List Nat) := [[], [], [], [], [], [], []]
/-- 75: java/lang/Math.min(II)I -/
def pg_c75 : List RI := [(1, 0, 0, 0), (1, 1, 0, 0), (18, 5, 4, 0), (1, 0, 0, 0), (16, 6, 0, 0), (1, 1, 0, 0), (45, 0, 0, 0)]
def pg_p75 : List Nat := [0, 1, 2, 5, 6, 9, 10]
def pg_w75 : List (List Nat) := [[], [], [], [], [], [], []]
/-- 76: java/util/Arrays.fill([II)V -/
def pg_c76 : List RI := [(0, 0, 0, 0), (2, 2, 0, 0), (3, 0, 0, 0), (26, 0, 0, 0), (2, 3, 0, 0), (1, 2, 0, 0), (1, 3, 0, 0), (18, 14, 3, 0), (3, 0, 0, 0), (1, 2, 0, 0), (1, 1, 0, 0), (28, 0, 0, 0), (5, 2, 0, 1), (16, 5, 0, 0), (47, 0, 0, 0)]
def pg_p76 : List Nat := [0, 1, 2, 3, 4, 5, 6, 7, 10, 11, 12, 13, 14, 17, 20]
def pg_w76 : List (List Nat) := [[], [], [], [], [], [], [], [], [], [], [], [], [], [], []]
/-- 77: KayfabeRingLaw.from([III)I -/
def pg_c77 : List RI := [(3, 0, 0, 0), (26, 0, 0, 0), (17, 9, 1, 0), (0, 0, 0, 907), (1, 1, 0, 0), (8, 0, 0, 0), (0, 0, 0, 101), (6, 0, 0, 0), (16, 19, 0, 0), (3, 0, 0, 0), (1, 1, 0, 0), (3, 0, 0, 0), (26, 0, 0, 0), (10, 0, 0, 0), (27, 0, 0, 0), (0, 0, 7, 1346269), (1, 1, 0, 0), (8, 0, 0, 0), (55, 0, 0, 0), (2, 3, 0, 0), (1, 3, 0, 0), (0, 0, 8, 2147483647), (12, 0, 0, 0), (1, 2, 0, 0), (10, 0, 0, 0), (45, 0, 0, 0)]
def pg_p77 : List Nat := [0, 1, 2, 5, 8, 9, 10, 12, 13, 16, 17, 18, 19, 20, 21, 22, 24, 25, 26, 27, 28, 29, 31, 32, 33, 34]
def pg_w77 : List (List Nat) := [[], [], [], [], [], [], [], [], [], [], [], [], [], [], [], [361], [], [], [], [], [], [362], [], [], [], []]
/-- 78: KayfabeRingLaw.slot([II)I -/
def pg_c78 : List RI := [(0, 0, 0, 18), (1, 1, 0, 0), (0, 0, 0, 3), (10, 0, 0, 0), (8, 0, 0, 0), (45, 0, 0, 0)]
def pg_p78 : List Nat := [0, 2, 3, 4, 5, 6]
def pg_w78 : List (List Nat) := [[], [], [], [], [], []]
/-- 79: KayfabeRingLaw.many([II)I -/
def pg_c79 : List RI := [(3, 0, 0, 0), (0, 0, 0, 1), (1, 1, 0, 0), (0, 0, 0, 3), (10, 0, 0, 0), (6, 0, 0, 0), (27, 0, 0, 0), (45, 0, 0, 0)]
def pg_p79 : List Nat := [0, 1, 2, 3, 4, 5, 6, 7]
def pg_w79 : List (List Nat) := [[], [], [], [], [], [], [], []]
/-- 80: KayfabeRingLaw.isHurt([III)Z -/
def pg_c80 : List RI := [(1, 2, 0, 0), (3, 0, 0, 0), (0, 0, 0, 9), (1, 1, 0, 0), (8, 0, 0, 0), (0, 0, 0, 4), (6, 0, 0, 0), (27, 0, 0, 0), (18, 11, 3, 0), (0, 0, 0, 1), (16, 12, 0, 0), (0, 0, 0, 0), (45, 0, 0, 0)]
def pg_p80 : List Nat := [0, 1, 2, 4, 5, 6, 7, 8, 9, 12, 13, 16, 17]
def pg_w80 : List (List Nat) := [[], [], [], [], [], [], [], [], [], [], [], [], []]
/-- 81: KayfabeRingLaw.worth([I[III)I -/
def pg_c81 : List RI := [(3, 1, 0, 0), (0, 0, 0, 7), (1, 2, 0, 0), (8, 0, 0, 0), (1, 3, 0, 0), (6, 0, 0, 0), (27, 0, 0, 0), (2, 4, 0, 0), (3, 0, 0, 0), (0, 0, 0, 9), (1, 3, 0, 0), (8, 0, 0, 0), (27, 0, 0, 0), (1, 4, 0, 0), (17, 17, 5, 0), (1, 4, 0, 0), (16, 19, 0, 0), (1, 4, 0, 0), (11, 0, 0, 0), (6, 0, 0, 0), (3, 0, 0, 0), (0, 0, 0, 9), (1, 3, 0, 0), (8, 0, 0, 0), (0, 0, 0, 3), (6, 0, 0, 0), (27, 0, 0, 0), (0, 0, 0, 10), (9, 0, 0, 0), (7, 0, 0, 0), (2, 5, 0, 0), (1, 5, 0, 0), (0, 0, 0, 1), (18, 36, 5, 0), (1, 5, 0, 0), (16, 37, 0, 0), (0, 0, 0, 1), (45, 0, 0, 0)]
def pg_p81 : List Nat := [0, 1, 3, 4, 5, 6, 7, 8, 10, 11, 13, 14, 15, 16, 18, 21, 23, 26, 28, 29, 30, 31, 33, 34, 35, 36, 37, 38, 40, 41, 42, 44, 46, 47, 50, 52, 55, 56]
def pg_w81 : List (List Nat) := [[], [], [], [], [], [], [], [], [], [], [], [], [], [], [], [], [], [], [], [], [], [], [], [], [], [], [], [], [], [], [], [], [], [], [], [], [], []]
/-- 82: KayfabeRingLaw.isBarred([I[IIII)Z -/
def pg_c82 : List RI := [(1, 4, 0, 0), (3, 1, 0, 0), (0, 0, 0, 7), (1, 2, 0, 0), (8, 0, 0, 0), (1, 3, 0, 0), (6, 0, 0, 0), (27, 0, 0, 0), (0, 0, 0, 1), (7, 0, 0, 0), (18, 22, 5, 0), (1, 4, 0, 0), (3, 0, 0, 0), (0, 0, 0, 9), (1, 2, 0, 0), (8, 0, 0, 0), (0, 0, 0, 8), (6, 0, 0, 0), (27, 0, 0, 0), (0, 0, 0, 2), (9, 0, 0, 0), (18, 24, 3, 0), (0, 0, 0, 1), (16, 25, 0, 0), (0, 0, 0, 0), (45, 0, 0, 0)]
def pg_p82 : List Nat := [0, 2, 3, 5, 6, 7, 8, 9, 10, 11, 12, 15, 17, 18, 20, 21, 22, 24, 25, 26, 27, 28, 31, 32, 35, 36]
def pg_w82 : List (List Nat) := [[], [], [], [], [], [], [], [], [], [], [], [], [], [], [], [], [], [], [], [], [], [], [], [], [], []]
/-- 83: KayfabeRingLaw.isOn([I[III)Z -/
def pg_c83 : List RI := [(0, 0, 0, 0), (2, 4, 0, 0), (0, 0, 0, 0), (2, 5, 0, 0), (1, 5, 0, 0), (3, 1, 0, 0), (1, 2, 0, 0), (40, 79, 0, 9), (18, 37, 3, 0), (3, 1, 0, 0), (1, 2, 0, 0), (40, 78, 0, 15), (0, 0, 0, 6), (1, 5, 0, 0), (8, 0, 0, 0), (6, 0, 0, 0), (2, 6, 0, 0), (1, 4, 0, 0), (17, 31, 1, 0), (3, 0, 0, 0), (1, 6, 0, 0), (27, 0, 0, 0), (1, 3, 0, 0), (18, 31, 0, 0), (3, 0, 0, 0), (1, 6, 0, 0), (0, 0, 0, 1), (6, 0, 0, 0), (27, 0, 0, 0), (1, 3, 0, 0), (18, 33, 1, 0), (0, 0, 0, 1), (16, 34, 0, 0), (0, 0, 0, 0), (2, 4, 0, 0), (5, 5, 0, 1), (16, 4, 0, 0), (1, 4, 0, 0), (45, 0, 0, 0)]
def pg_p83 : List Nat := [0, 1, 3, 4, 6, 8, 9, 10, 13, 16, 17, 18, 21, 23, 25, 26, 27, 29, 31, 34, 35, 37, 38, 39, 42, 43, 45, 46, 47, 48, 49, 52, 53, 56, 57, 59, 62, 65, 67]
def pg_w83 : List (List Nat) := [[], [], [], [], [], [], [], [391], [], [], [], [398], [], [], [], [], [], [], [], [], [], [], [], [], [], [], [], [], [], [], [], [], [], [], [], [], [], [], []]
/-- 84: KayfabeRingLaw.crown([III)V -/
def pg_c84 : List RI := [(3, 0, 0, 0), (0, 0, 0, 10), (1, 1, 0, 0), (6, 0, 0, 0), (1, 2, 0, 0), (0, 0, 0, 1), (6, 0, 0, 0), (28, 0, 0, 0), (3, 0, 0, 0), (0, 0, 0, 12), (1, 1, 0, 0), (6, 0, 0, 0), (14, 0, 0, 0), (27, 0, 0, 0), (0, 0, 0, 1), (6, 0, 0, 0), (28, 0, 0, 0), (47, 0, 0, 0)]
def pg_p84 : List Nat := [0, 1, 3, 4, 5, 6, 7, 8, 9, 10, 12, 13, 14, 15, 16, 17, 18, 19]
def pg_w84 : List (List Nat) := [[], [], [], [], [], [], [], [], [], [], [], [], [], [], [], [], [], []]
/-- 85: KayfabeRingLaw.isBooked(LKayfabeRing;[I[I[I[II)Z -/
def pg_c85 : List RI := [(3, 4, 0, 0), (0, 0, 0, 0), (27, 0, 0, 0), (1, 5, 0, 0), (0, 0, 0, 3), (10, 0, 0, 0), (6, 0, 0, 0), (2, 6, 0, 0), (3, 4, 0, 0), (1, 6, 0, 0), (40, 79, 0, 9), (17, 20, 5, 0), (3, 4, 0, 0), (0, 0, 0, 4), (1, 6, 0, 0), (0, 0, 0, 3), (10, 0, 0, 0), (6, 0, 0, 0), (27, 0, 0, 0), (16, 25, 0, 0), (1, 5, 0, 0), (0, 0, 0, 3), (9, 0, 0, 0), (0, 0, 0, 4), (10, 0, 0, 0), (2, 7, 0, 0), (1, 5, 0, 0), (0, 0, 0, 12), (9, 0, 0, 0), (0, 0, 0, 7), (10, 0, 0, 0), (2, 8, 0, 0), (1, 8, 0, 0), (0, 0, 0, 1), (6, 0, 0, 0), (1, 5, 0, 0), (0, 0, 0, 84), (9, 0, 0, 0), (0, 0, 0, 6), (10, 0, 0, 0), (6, 0, 0, 0), (0, 0, 0, 7), (10, 0, 0, 0), (2, 9, 0, 0), (0, 0, 0, 1), (1, 5, 0, 0), (0, 0, 0, 504), (9, 0, 0, 0), (0, 0, 0, 50), (10, 0, 0, 0), (6, 0, 0, 0), (2, 10, 0, 0), (1, 5, 0, 0), (0, 0, 0, 25200), (9, 0, 0, 0), (0, 0, 0, 3), (10, 0, 0, 0), (0, 0, 0, 1), (7, 0, 0, 0), (2, 11, 0, 0), (1, 5, 0, 0), (0, 0, 18, 75600), (9, 0, 0, 0), (0, 0, 0, 2), (10, 0, 0, 0), (2, 12, 0, 0), (1, 10, 0, 0), (2, 13, 0, 0), (3, 4, 0, 0), (0, 0, 0, 7), (1, 6, 0, 0), (0, 0, 0, 3), (10, 0, 0, 0), (6, 0, 0, 0), (27, 0, 0, 0), (17, 105, 1, 0), (3, 4, 0, 0), (1, 6, 0, 0), (40, 79, 0, 9), (0, 0, 0, 3), (18, 105, 3, 0), (3, 3, 0, 0), (3, 4, 0, 0), (1, 6, 0, 0), (1, 8, 0, 0), (40, 83, 0, 19), (17, 105, 1, 0), (3, 3, 0, 0), (3, 4, 0, 0), (1, 6, 0, 0), (1, 9, 0, 0), (40, 83, 0, 19), (17, 105, 1, 0), (3, 1, 0, 0), (1, 8, 0, 0), (1, 6, 0, 0), (40, 80, 0, 23), (17, 105, 1, 0), (3, 1, 0, 0), (1, 9, 0, 0), (1, 6, 0, 0), (40, 80, 0, 23), (17, 105, 1, 0), (0, 0, 0, 1), (16, 106, 0, 0), (0, 0, 0, 0), (2, 14, 0, 0), (0, 0, 0, 0), (2, 15, 0, 0), (1, 15, 0, 0), (3, 4, 0, 0), (1, 6, 0, 0), (40, 79, 0, 9), (18, 153, 3, 0), (1, 13, 0, 0), (3, 3, 0, 0), (3, 4, 0, 0), (1, 6, 0, 0), (40, 78, 0, 15), (0, 0, 0, 6), (1, 15, 0, 0), (8, 0, 0, 0), (6, 0, 0, 0), (0, 0, 0, 3), (6, 0, 0, 0), (27, 0, 0, 0), (6, 0, 0, 0), (2, 13, 0, 0), (1, 14, 0, 0), (17, 149, 0, 0), (1, 11, 0, 0), (17, 147, 2, 0), (3, 3, 0, 0), (3, 4, 0, 0), (1, 6, 0, 0), (40, 78, 0, 15), (0, 0, 0, 6), (1, 15, 0, 0), (8, 0, 0, 0), (6, 0, 0, 0), (0, 0, 0, 4), (6, 0, 0, 0), (27, 0, 0, 0), (1, 11, 0, 0), (0, 0, 0, 1), (6, 0, 0, 0), (18, 149, 0, 0), (0, 0, 0, 1), (16, 150, 0, 0), (0, 0, 0, 0), (2, 14, 0, 0), (5, 15, 0, 1), (16, 109, 0, 0), (1, 11, 0, 0), (17, 157, 3, 0), (0, 0, 0, (-1)), (16, 164, 0, 0), (3, 4, 0, 0), (0, 0, 0, 10), (1, 11, 0, 0), (6, 0, 0, 0), (27, 0, 0, 0), (0, 0, 0, 1), (7, 0, 0, 0), (2, 15, 0, 0), (1, 14, 0, 0), (17, 195, 0, 0), (1, 13, 0, 0), (0, 0, 0, 120), (18, 195, 4, 0), (1, 15, 0, 0), (17, 178, 2, 0), (1, 15, 0, 0), (1, 8, 0, 0), (18, 178, 0, 0), (1, 15, 0, 0), (1, 9, 0, 0), (18, 195, 1, 0), (3, 1, 0, 0), (3, 2, 0, 0), (1, 12, 0, 0), (17, 184, 1, 0), (1, 9, 0, 0), (16, 185, 0, 0), (1, 8, 0, 0), (1, 12, 0, 0), (17, 189, 1, 0), (1, 8, 0, 0), (16, 190, 0, 0), (1, 9, 0, 0), (1, 6, 0, 0), (40, 82, 0, 27), (17, 195, 1, 0), (0, 0, 0, 1), (16, 196, 0, 0), (0, 0, 0, 0), (2, 14, 0, 0), (1, 14, 0, 0), (17, 201, 1, 0), (0, 0, 0, 1), (45, 0, 0, 0), (3, 4, 0, 0), (1, 6, 0, 0), (40, 78, 0, 15), (0, 0, 0, 6), (3, 4, 0, 0), (1, 6, 0, 0), (40, 79, 0, 9), (8, 0, 0, 0), (6, 0, 0, 0), (2, 16, 0, 0), (3, 3, 0, 0), (1, 16, 0, 0), (1, 8, 0, 0), (28, 0, 0, 0), (3, 3, 0, 0), (1, 16, 0, 0), (0, 0, 0, 1), (6, 0, 0, 0), (1, 9, 0, 0), (28, 0, 0, 0), (3, 3, 0, 0), (1, 16, 0, 0), (0, 0, 0, 2), (6, 0, 0, 0), (1, 12, 0, 0), (28, 0, 0, 0), (3, 3, 0, 0), (1, 16, 0, 0), (0, 0, 0, 3), (6, 0, 0, 0), (1, 10, 0, 0), (28, 0, 0, 0), (3, 3, 0, 0), (1, 16, 0, 0), (0, 0, 0, 4), (6, 0, 0, 0), (1, 11, 0, 0), (0, 0, 0, 1), (6, 0, 0, 0), (28, 0, 0, 0), (3, 3, 0, 0), (1, 16, 0, 0), (0, 0, 0, 5), (6, 0, 0, 0), (0, 0, 0, 0), (28, 0, 0, 0), (3, 4, 0, 0), (0, 0, 0, 4), (1, 6, 0, 0), (0, 0, 0, 3), (10, 0, 0, 0), (6, 0, 0, 0), (1, 7, 0, 0), (28, 0, 0, 0), (3, 4, 0, 0), (0, 0, 0, 1), (1, 6, 0, 0), (0, 0, 0, 3), (10, 0, 0, 0), (6, 0, 0, 0), (14, 0, 0, 0), (27, 0, 0, 0), (0, 0, 0, 1), (6, 0, 0, 0), (28, 0, 0, 0), (3, 0, 0, 0), (1, 6, 0, 0), (1, 7, 0, 0), (1, 8, 0, 0), (1, 9, 0, 0), (1, 12, 0, 0), (17, 275, 1, 0), (0, 0, 0, 1), (16, 276, 0, 0), (0, 0, 0, 0), (1, 10, 0, 0), (1, 11, 0, 0), (41, 37, 0, 31), (3, 4, 0, 0), (1, 6, 0, 0), (40, 79, 0, 9), (0, 0, 0, 1), (7, 0, 0, 0), (18, 287, 1, 0), (0, 0, 0, 1), (16, 288, 0, 0), (0, 0, 0, 0), (45, 0, 0, 0)]
def pg_p85 : List Nat := [0, 2, 3, 4, 6, 7, 8, 9, 11, 13, 15, 18, 21, 23, 24, 26, 27, 28, 29, 30, 33, 35, 36, 37, 38, 39, 41, 43, 45, 46, 48, 49, 51, 53, 54, 55, 57, 59, 60, 62, 63, 64, 66, 67, 69, 70, 72, 75, 76, 78, 79, 80, 82, 84, 87, 88, 89, 90, 91, 92, 94, 96, 98, 99, 100, 101, 103, 105, 107, 109, 111, 113, 114, 115, 116, 117, 120, 122, 124, 127, 128, 131, 132, 134, 136, 138, 141, 144, 145, 147, 149, 151, 154, 157, 158, 160, 162, 165, 168, 169, 171, 173, 176, 179, 180, 183, 184, 186, 187, 189, 191, 193, 195, 198, 201, 203, 204, 206, 208, 211, 213, 215, 216, 217, 218, 219, 220, 221, 223, 225, 228, 230, 233, 234, 236, 238, 241, 243, 245, 246, 247, 248, 249, 250, 252, 253, 254, 257, 258, 261, 262, 264, 267, 270, 272, 275, 276, 279, 281, 283, 285, 286, 287, 288, 289, 291, 293, 296, 298, 300, 303, 305, 308, 310, 312, 315, 317, 319, 322, 323, 324, 326, 329, 331, 334, 336, 338, 341, 343, 346, 348, 350, 353, 356, 357, 360, 361, 363, 365, 368, 369, 370, 372, 374, 377, 379, 381, 383, 386, 387, 388, 390, 391, 393, 395, 396, 397, 399, 400, 401, 403, 404, 405, 407, 408, 409, 411, 412, 413, 415, 416, 417, 419, 420, 421, 423, 424, 425, 427, 428, 429, 430, 431, 433, 434, 435, 436, 437, 439, 440, 442, 443, 444, 445, 447, 448, 450, 451, 453, 454, 455, 456, 457, 458, 459, 460, 461, 462, 464, 466, 468, 470, 472, 475, 476, 479, 480, 482, 484, 487, 489, 491, 494, 495, 496, 499, 500, 503, 504]
def pg_w85 : List (List Nat) := [[], [], [], [], [], [], [], [], [], [], [391], [], [], [], [], [], [], [], [], [], [], [], [], [], [], [], [], [], [], [], [], [], [], [], [], [], [], [], [], [], [], [], [], [], [], [], [], [], [], [], [], [], [], [], [], [], [], [], [], [], [], [394], [], [], [], [], [], [], [], [], [], [], [], [], [], [], [], [], [391], [], [], [], [], [], [], [395], [], [], [], [], [], [395], [], [], [], [], [401], [], [], [], [], [401], [], [], [], [], [], [], [], [], [], [], [391], [], [], [], [], [], [398], [], [], [], [], [], [], [], [], [], [], [], [], [], [], [], [], [398], [], [], [], [], [], [], [], [], [], [], [], [], [], [], [], [], [], [], [], [], [], [], [], [], [], [], [], [], [], [], [], [], [], [], [], [], [], [], [], [], [], [], [], [], [], [], [], [], [], [], [], [], [], [], [], [404], [], [], [], [], [], [], [], [], [], [], [], [398], [], [], [], [391], [], [], [], [], [], [], [], [], [], [], [], [], [], [], [], [], [], [], [], [], [], [], [], [], [], [], [], [], [], [], [], [], [], [], [], [], [], [], [], [], [], [], [], [], [], [], [], [], [], [], [], [], [], [], [], [], [], [], [], [], [], [], [], [], [], [], [], [], [], [], [407], [], [], [391], [], [], [], [], [], [], []]
/-- 86: KayfabeRingLaw.strike([I[III)V -/
def pg_c86 : List RI := [(3, 1, 0, 0), (1, 2, 0, 0), (40, 78, 0, 15), (0, 0, 0, 6), (3, 1, 0, 0), (1, 2, 0, 0), (40, 79, 0, 9), (8, 0, 0, 0), (6, 0, 0, 0), (2, 4, 0, 0), (3, 1, 0, 0), (1, 2, 0, 0), (40, 78, 0, 15), (0, 0, 0, 6), (1, 3, 0, 0), (8, 0, 0, 0), (6, 0, 0, 0), (0, 0, 0, 6), (6, 0, 0, 0), (2, 5, 0, 0), (1, 5, 0, 0), (1, 4, 0, 0), (18, 33, 3, 0), (3, 0, 0, 0), (1, 5, 0, 0), (0, 0, 0, 6), (7, 0, 0, 0), (3, 0, 0, 0), (1, 5, 0, 0), (27, 0, 0, 0), (28, 0, 0, 0), (5, 5, 0, 1), (16, 20, 0, 0), (3, 1, 0, 0), (0, 0, 0, 1), (1, 2, 0, 0), (0, 0, 0, 3), (10, 0, 0, 0), (6, 0, 0, 0), (14, 0, 0, 0), (27, 0, 0, 0), (0, 0, 0, 1), (7, 0, 0, 0), (28, 0, 0, 0), (47, 0, 0, 0)]
def pg_p86 : List Nat := [0, 1, 2, 5, 7, 8, 9, 12, 13, 14, 16, 17, 18, 21, 23, 24, 25, 26, 28, 29, 31, 33, 35, 38, 39, 41, 43, 44, 45, 47, 48, 49, 52, 55, 56, 57, 58, 59, 60, 61, 62, 63, 64, 65, 66]
def pg_w86 : List (List Nat) := [[], [], [398], [], [], [], [391], [], [], [], [], [], [398], [], [], [], [], [], [], [], [], [], [], [], [], [], [], [], [], [], [], [], [], [], [], [], [], [], [], [], [], [], [], [], []]
/-- 87: KayfabeRingLaw.opens([I[I[I)I -/
def pg_c87 : List RI := [(0, 0, 0, 0), (2, 3, 0, 0), (0, 0, 0, 0), (2, 4, 0, 0), (1, 4, 0, 0), (3, 2, 0, 0), (3, 2, 0, 0), (0, 0, 0, 0), (27, 0, 0, 0), (40, 79, 0, 9), (18, 63, 3, 0), (3, 2, 0, 0), (3, 2, 0, 0), (0, 0, 0, 0), (27, 0, 0, 0), (40, 78, 0, 15), (0, 0, 0, 6), (1, 4, 0, 0), (8, 0, 0, 0), (6, 0, 0, 0), (2, 5, 0, 0), (1, 3, 0, 0), (3, 0, 0, 0), (3, 1, 0, 0), (1, 5, 0, 0), (27, 0, 0, 0), (3, 2, 0, 0), (0, 0, 0, 0), (27, 0, 0, 0), (40, 80, 0, 23), (17, 37, 0, 0), (0, 0, 0, 1), (0, 0, 0, 2), (1, 4, 0, 0), (8, 0, 0, 0), (56, 0, 0, 0), (16, 38, 0, 0), (0, 0, 0, 0), (54, 0, 0, 0), (2, 3, 0, 0), (1, 3, 0, 0), (3, 0, 0, 0), (3, 1, 0, 0), (1, 5, 0, 0), (0, 0, 0, 1), (6, 0, 0, 0), (27, 0, 0, 0), (3, 2, 0, 0), (0, 0, 0, 0), (27, 0, 0, 0), (40, 80, 0, 23), (17, 58, 0, 0), (0, 0, 0, 2), (0, 0, 0, 2), (1, 4, 0, 0), (8, 0, 0, 0), (56, 0, 0, 0), (16, 59, 0, 0), (0, 0, 0, 0), (54, 0, 0, 0), (2, 3, 0, 0), (5, 4, 0, 1), (16, 4, 0, 0), (1, 3, 0, 0), (45, 0, 0, 0)]
def pg_p87 : List Nat := [0, 1, 2, 3, 5, 7, 8, 9, 10, 11, 14, 17, 18, 19, 20, 21, 24, 26, 28, 29, 30, 32, 33, 34, 35, 37, 38, 39, 40, 41, 44, 47, 48, 49, 51, 52, 53, 56, 57, 58, 59, 60, 61, 62, 64, 65, 66, 67, 68, 69, 70, 73, 76, 77, 78, 80, 81, 82, 85, 86, 87, 88, 91, 94, 95]
def pg_w87 : List (List Nat) := [[], [], [], [], [], [], [], [], [], [391], [], [], [], [], [], [398], [], [], [], [], [], [], [], [], [], [], [], [], [], [401], [], [], [], [], [], [], [], [], [], [], [], [], [], [], [], [], [], [], [], [], [401], [], [], [], [], [], [], [], [], [], [], [], [], [], []]
/-- 88: KayfabeRingLaw.count(I)I -/
def pg_c88 : List RI := [(0, 0, 0, 0), (2, 1, 0, 0), (0, 0, 0, 0), (2, 2, 0, 0), (1, 2, 0, 0), (0, 0, 0, 6), (18, 17, 3, 0), (1, 1, 0, 0), (1, 0, 0, 0), (1, 2, 0, 0), (57, 0, 0, 0), (0, 0, 0, 1), (12, 0, 0, 0), (6, 0, 0, 0), (2, 1, 0, 0), (5, 2, 0, 1), (16, 4, 0, 0), (1, 1, 0, 0), (45, 0, 0, 0)]
def pg_p88 : List Nat := [0, 1, 2, 3, 4, 5, 7, 10, 11, 12, 13, 14, 15, 16, 17, 18, 21, 24, 25]
def pg_w88 : List (List Nat) := [[], [], [], [], [], [], [], [], [], [], [], [], [], [], [], [], [], [], []]
/-- 89: KayfabeRingLaw.sumOf([I[I[I[I[III)I -/
def pg_c89 : List RI := [(0, 0, 0, 0), (2, 7, 0, 0), (0, 0, 0, 0), (2, 8, 0, 0), (0, 0, 0, 0), (2, 9, 0, 0), (1, 9, 0, 0), (0, 0, 0, 6), (18, 75, 3, 0), (1, 6, 0, 0), (0, 0, 0, 3), (1, 9, 0, 0), (8, 0, 0, 0), (57, 0, 0, 0), (0, 0, 0, 7), (12, 0, 0, 0), (2, 10, 0, 0), (1, 5, 0, 0), (1, 9, 0, 0), (57, 0, 0, 0), (0, 0, 0, 1), (12, 0, 0, 0), (0, 0, 0, 1), (18, 73, 1, 0), (1, 10, 0, 0), (0, 0, 0, 7), (18, 73, 3, 0), (3, 0, 0, 0), (1, 10, 0, 0), (3, 4, 0, 0), (0, 0, 0, 0), (27, 0, 0, 0), (40, 80, 0, 23), (17, 49, 1, 0), (3, 3, 0, 0), (3, 4, 0, 0), (3, 4, 0, 0), (0, 0, 0, 0), (27, 0, 0, 0), (1, 10, 0, 0), (40, 83, 0, 19), (17, 49, 1, 0), (1, 8, 0, 0), (1, 10, 0, 0), (57, 0, 0, 0), (0, 0, 0, 1), (12, 0, 0, 0), (0, 0, 0, 1), (18, 51, 1, 0), (0, 0, 0, (-1)), (45, 0, 0, 0), (1, 8, 0, 0), (0, 0, 0, 1), (1, 10, 0, 0), (56, 0, 0, 0), (54, 0, 0, 0), (2, 8, 0, 0), (1, 7, 0, 0), (3, 0, 0, 0), (3, 1, 0, 0), (3, 4, 0, 0), (0, 0, 0, 4), (3, 4, 0, 0), (0, 0, 0, 0), (27, 0, 0, 0), (0, 0, 0, 3), (10, 0, 0, 0), (6, 0, 0, 0), (27, 0, 0, 0), (1, 10, 0, 0), (40, 81, 0, 37), (6, 0, 0, 0), (2, 7, 0, 0), (5, 9, 0, 1), (16, 6, 0, 0), (0, 0, 0, 0), (2, 9, 0, 0), (1, 9, 0, 0), (0, 0, 0, 3), (18, 226, 3, 0), (3, 4, 0, 0), (3, 4, 0, 0), (0, 0, 0, 0), (27, 0, 0, 0), (40, 78, 0, 15), (0, 0, 0, 6), (1, 9, 0, 0), (8, 0, 0, 0), (6, 0, 0, 0), (2, 10, 0, 0), (1, 5, 0, 0), (0, 0, 0, 2), (1, 9, 0, 0), (8, 0, 0, 0), (57, 0, 0, 0), (0, 0, 0, 1), (12, 0, 0, 0), (0, 0, 0, 1), (18, 107, 1, 0), (1, 6, 0, 0), (0, 0, 0, 6), (1, 9, 0, 0), (8, 0, 0, 0), (57, 0, 0, 0), (0, 0, 0, 7), (12, 0, 0, 0), (16, 110, 0, 0), (3, 3, 0, 0), (1, 10, 0, 0), (27, 0, 0, 0), (2, 11, 0, 0), (1, 5, 0, 0), (0, 0, 0, 2), (1, 9, 0, 0), (8, 0, 0, 0), (0, 0, 0, 1), (6, 0, 0, 0), (57, 0, 0, 0), (0, 0, 0, 1), (12, 0, 0, 0), (0, 0, 0, 1), (18, 132, 1, 0), (1, 6, 0, 0), (0, 0, 0, 6), (1, 9, 0, 0), (8, 0, 0, 0), (0, 0, 0, 3), (6, 0, 0, 0), (57, 0, 0, 0), (0, 0, 0, 7), (12, 0, 0, 0), (16, 137, 0, 0), (3, 3, 0, 0), (1, 10, 0, 0), (0, 0, 0, 1), (6, 0, 0, 0), (27, 0, 0, 0), (2, 12, 0, 0), (1, 9, 0, 0), (3, 4, 0, 0), (3, 4, 0, 0), (0, 0, 0, 0), (27, 0, 0, 0), (40, 79, 0, 9), (18, 155, 3, 0), (1, 5, 0, 0), (0, 0, 0, 2), (1, 9, 0, 0), (8, 0, 0, 0), (57, 0, 0, 0), (0, 0, 0, 3), (12, 0, 0, 0), (17, 155, 5, 0), (0, 0, 0, 1), (16, 156, 0, 0), (0, 0, 0, 0), (2, 13, 0, 0), (1, 5, 0, 0), (0, 0, 0, 2), (1, 9, 0, 0), (8, 0, 0, 0), (57, 0, 0, 0), (0, 0, 0, 3), (12, 0, 0, 0), (0, 0, 0, 3), (18, 168, 1, 0), (0, 0, 0, 1), (16, 169, 0, 0), (0, 0, 0, 0), (2, 14, 0, 0), (1, 13, 0, 0), (17, 189, 0, 0), (1, 14, 0, 0), (17, 189, 0, 0), (1, 11, 0, 0), (0, 0, 0, 7), (18, 179, 1, 0), (0, 0, 0, 1), (16, 180, 0, 0), (0, 0, 0, 0), (1, 12, 0, 0), (0, 0, 0, 7), (18, 185, 1, 0), (0, 0, 0, 1), (16, 186, 0, 0), (0, 0, 0, 0), (18, 189, 0, 0), (0, 0, 0, (-1)), (45, 0, 0, 0), (1, 13, 0, 0), (17, 224, 0, 0), (1, 11, 0, 0), (0, 0, 0, 7), (18, 224, 3, 0), (1, 12, 0, 0), (0, 0, 0, 7), (18, 224, 3, 0), (3, 0, 0, 0), (3, 2, 0, 0), (3, 3, 0, 0), (1, 10, 0, 0), (0, 0, 0, 2), (6, 0, 0, 0), (27, 0, 0, 0), (17, 207, 1, 0), (1, 12, 0, 0), (16, 208, 0, 0), (1, 11, 0, 0), (3, 3, 0, 0), (1, 10, 0, 0), (0, 0, 0, 2), (6, 0, 0, 0), (27, 0, 0, 0), (17, 216, 1, 0), (1, 11, 0, 0), (16, 217, 0, 0), (1, 12, 0, 0), (3, 4, 0, 0), (0, 0, 0, 0), (27, 0, 0, 0), (40, 82, 0, 27), (17, 224, 0, 0), (0, 0, 0, (-1)), (45, 0, 0, 0), (5, 9, 0, 1), (16, 77, 0, 0), (1, 7, 0, 0), (45, 0, 0, 0)]
def pg_p89 : List Nat := [0, 1, 3, 4, 6, 7, 9, 11, 13, 16, 18, 19, 21, 22, 23, 25, 26, 28, 30, 32, 33, 34, 35, 36, 39, 41, 43, 46, 47, 49, 51, 52, 53, 56, 59, 60, 62, 64, 65, 66, 68, 71, 74, 76, 78, 79, 80, 81, 82, 85, 86, 87, 89, 90, 92, 93, 94, 96, 98, 99, 100, 102, 103, 105, 106, 107, 108, 109, 110, 111, 113, 116, 117, 119, 122, 125, 126, 128, 130, 131, 134, 136, 138, 139, 140, 143, 145, 147, 148, 149, 151, 153, 154, 156, 157, 158, 159, 160, 161, 164, 166, 168, 170, 171, 172, 174, 175, 178, 179, 181, 182, 184, 186, 187, 189, 190, 191, 192, 193, 194, 195, 196, 199, 201, 203, 205, 206, 207, 208, 209, 211, 212, 215, 216, 218, 219, 220, 221, 223, 225, 227, 229, 230, 231, 234, 237, 239, 240, 242, 243, 244, 245, 246, 249, 250, 253, 254, 256, 258, 259, 261, 262, 263, 264, 265, 266, 269, 270, 273, 274, 276, 278, 281, 283, 286, 288, 290, 293, 294, 297, 298, 300, 302, 305, 306, 309, 310, 313, 314, 315, 317, 320, 322, 324, 327, 329, 331, 334, 335, 336, 337, 339, 340, 341, 342, 345, 347, 350, 352, 353, 355, 356, 357, 358, 361, 363, 366, 368, 370, 371, 372, 375, 378, 379, 380, 383, 386, 388]
def pg_w89 : List (List Nat) := [[], [], [], [], [], [], [], [], [], [], [], [], [], [], [], [], [], [], [], [], [], [], [], [], [], [], [], [], [], [], [], [], [401], [], [], [], [], [], [], [], [395], [], [], [], [], [], [], [], [], [], [], [], [], [], [], [], [], [], [], [], [], [], [], [], [], [], [], [], [], [], [528], [], [], [], [], [], [], [], [], [], [], [], [], [], [398], [], [], [], [], [], [], [], [], [], [], [], [], [], [], [], [], [], [], [], [], [], [], [], [], [], [], [], [], [], [], [], [], [], [], [], [], [], [], [], [], [], [], [], [], [], [], [], [], [], [], [], [], [], [], [], [], [], [], [391], [], [], [], [], [], [], [], [], [], [], [], [], [], [], [], [], [], [], [], [], [], [], [], [], [], [], [], [], [], [], [], [], [], [], [], [], [], [], [], [], [], [], [], [], [], [], [], [], [], [], [], [], [], [], [], [], [], [], [], [], [], [], [], [], [], [], [], [], [], [], [], [], [], [], [], [], [404], [], [], [], [], [], [], []]
/-- 90: KayfabeRingLaw.isAhead(II)Z -/
def pg_c90 : List RI := [(0, 0, 0, 0), (2, 2, 0, 0), (1, 2, 0, 0), (0, 0, 0, 6), (18, 31, 3, 0), (1, 0, 0, 0), (0, 0, 0, 3), (1, 2, 0, 0), (8, 0, 0, 0), (57, 0, 0, 0), (0, 0, 0, 7), (12, 0, 0, 0), (1, 1, 0, 0), (0, 0, 0, 3), (1, 2, 0, 0), (8, 0, 0, 0), (57, 0, 0, 0), (0, 0, 0, 7), (12, 0, 0, 0), (7, 0, 0, 0), (2, 3, 0, 0), (1, 3, 0, 0), (17, 29, 0, 0), (1, 3, 0, 0), (17, 27, 3, 0), (0, 0, 0, 1), (16, 28, 0, 0), (0, 0, 0, 0), (45, 0, 0, 0), (5, 2, 0, 1), (16, 2, 0, 0), (0, 0, 0, 0), (45, 0, 0, 0)]
def pg_p90 : List Nat := [0, 1, 2, 3, 5, 8, 9, 10, 11, 12, 13, 15, 16, 17, 18, 19, 20, 21, 23, 24, 25, 26, 27, 30, 31, 34, 35, 38, 39, 40, 43, 46, 47]
def pg_w90 : List (List Nat) := [[], [], [], [], [], [], [], [], [], [], [], [], [], [], [], [], [], [], [], [], [], [], [], [], [], [], [], [], [], [], [], [], []]
/-- 91: KayfabeRingLaw.best([I[I[I[I[II)I -/
def pg_c91 : List RI := [(0, 0, 41, 262143), (2, 6, 0, 0), (0, 0, 0, 0), (2, 7, 0, 0), (0, 0, 0, 1), (2, 8, 0, 0), (0, 0, 0, 0), (2, 9, 0, 0), (1, 9, 0, 0), (1, 5, 0, 0), (40, 88, 0, 42), (18, 18, 3, 0), (1, 8, 0, 0), (0, 0, 0, 8), (8, 0, 0, 0), (2, 8, 0, 0), (5, 9, 0, 1), (16, 8, 0, 0), (1, 8, 0, 0), (0, 0, 0, 1), (7, 0, 0, 0), (2, 9, 0, 0), (1, 9, 0, 0), (17, 93, 2, 0), (1, 9, 0, 0), (2, 10, 0, 0), (0, 0, 0, 0), (2, 11, 0, 0), (0, 0, 0, 0), (2, 12, 0, 0), (1, 12, 0, 0), (0, 0, 0, 6), (18, 68, 3, 0), (1, 5, 0, 0), (1, 12, 0, 0), (57, 0, 0, 0), (0, 0, 0, 1), (12, 0, 0, 0), (0, 0, 0, 1), (18, 42, 1, 0), (0, 0, 0, 1), (16, 43, 0, 0), (0, 0, 0, 0), (2, 13, 0, 0), (1, 11, 0, 0), (1, 13, 0, 0), (17, 51, 0, 0), (1, 10, 0, 0), (0, 0, 0, 7), (12, 0, 0, 0), (16, 52, 0, 0), (0, 0, 0, 7), (0, 0, 0, 3), (1, 12, 0, 0), (8, 0, 0, 0), (56, 0, 0, 0), (54, 0, 0, 0), (2, 11, 0, 0), (1, 13, 0, 0), (17, 64, 0, 0), (1, 10, 0, 0), (0, 0, 0, 3), (57, 0, 0, 0), (16, 65, 0, 0), (1, 10, 0, 0), (2, 10, 0, 0), (5, 12, 0, 1), (16, 30, 0, 0), (3, 0, 0, 0), (3, 1, 0, 0), (3, 2, 0, 0), (3, 3, 0, 0), (3, 4, 0, 0), (1, 5, 0, 0), (1, 11, 0, 0), (40, 89, 0, 46), (2, 12, 0, 0), (1, 12, 0, 0), (1, 7, 0, 0), (18, 87, 4, 0), (1, 12, 0, 0), (1, 7, 0, 0), (18, 91, 1, 0), (1, 11, 0, 0), (1, 6, 0, 0), (40, 90, 0, 50), (17, 91, 0, 0), (1, 12, 0, 0), (2, 7, 0, 0), (1, 11, 0, 0), (2, 6, 0, 0), (5, 9, 0, (-1)), (16, 22, 0, 0), (1, 6, 0, 0), (45, 0, 0, 0)]
def pg_p91 : List Nat := [0, 2, 4, 5, 7, 8, 10, 11, 13, 15, 17, 20, 23, 25, 27, 28, 30, 33, 36, 38, 39, 40, 42, 44, 47, 49, 51, 52, 54, 55, 57, 59, 61, 64, 66, 68, 69, 70, 71, 72, 75, 76, 79, 80, 82, 84, 86, 89, 91, 93, 94, 97, 99, 100, 102, 103, 104, 105, 107, 109, 112, 114, 115, 116, 119, 121, 123, 126, 129, 130, 131, 132, 133, 135, 137, 139, 142, 144, 146, 148, 151, 153, 155, 158, 160, 162, 165, 168, 170, 172, 174, 176, 179, 182, 184]
def pg_w91 : List (List Nat) := [[524], [], [], [], [], [], [], [], [], [], [518], [], [], [], [], [], [], [], [], [], [], [], [], [], [], [], [], [], [], [], [], [], [], [], [], [], [], [], [], [], [], [], [], [], [], [], [], [], [], [], [], [], [], [], [], [], [], [], [], [], [], [], [], [], [], [], [], [], [], [], [], [], [], [], [], [525], [], [], [], [], [], [], [], [], [], [531], [], [], [], [], [], [], [], [], []]
/-- 92: KayfabeRingLaw.isMended(LKayfabeRing;[I[I[I[I[I)Z -/
def pg_c92 : List RI := [(3, 1, 0, 0), (3, 4, 0, 0), (3, 5, 0, 0), (40, 87, 0, 54), (2, 6, 0, 0), (3, 5, 0, 0), (3, 5, 0, 0), (0, 0, 0, 0), (27, 0, 0, 0), (40, 79, 0, 9), (17, 26, 0, 0), (3, 5, 0, 0), (0, 0, 0, 7), (3, 5, 0, 0), (0, 0, 0, 0), (27, 0, 0, 0), (0, 0, 0, 3), (10, 0, 0, 0), (6, 0, 0, 0), (27, 0, 0, 0), (0, 0, 0, 1), (18, 26, 0, 0), (1, 6, 0, 0), (40, 88, 0, 42), (0, 0, 0, 4), (18, 28, 5, 0), (0, 0, 0, 1), (45, 0, 0, 0), (3, 1, 0, 0), (3, 2, 0, 0), (3, 3, 0, 0), (3, 4, 0, 0), (3, 5, 0, 0), (1, 6, 0, 0), (40, 91, 0, 58), (2, 7, 0, 0), (0, 0, 0, 0), (2, 8, 0, 0), (3, 5, 0, 0), (3, 5, 0, 0), (0, 0, 0, 0), (27, 0, 0, 0), (40, 79, 0, 9), (0, 0, 0, 1), (7, 0, 0, 0), (2, 9, 0, 0), (1, 9, 0, 0), (17, 159, 2, 0), (3, 5, 0, 0), (3, 5, 0, 0), (0, 0, 0, 0), (27, 0, 0, 0), (40, 78, 0, 15), (0, 0, 0, 6), (1, 9, 0, 0), (8, 0, 0, 0), (6, 0, 0, 0), (2, 10, 0, 0), (1, 6, 0, 0), (0, 0, 0, 2), (1, 9, 0, 0), (8, 0, 0, 0), (57, 0, 0, 0), (0, 0, 0, 1), (12, 0, 0, 0), (0, 0, 0, 1), (18, 69, 1, 0), (0, 0, 0, 1), (16, 70, 0, 0), (0, 0, 0, 0), (2, 11, 0, 0), (1, 6, 0, 0), (0, 0, 0, 2), (1, 9, 0, 0), (8, 0, 0, 0), (0, 0, 0, 1), (6, 0, 0, 0), (57, 0, 0, 0), (0, 0, 0, 1), (12, 0, 0, 0), (0, 0, 0, 1), (18, 84, 1, 0), (0, 0, 0, 1), (16, 85, 0, 0), (0, 0, 0, 0), (2, 12, 0, 0), (1, 11, 0, 0), (17, 97, 0, 0), (1, 7, 0, 0), (0, 0, 0, 6), (1, 9, 0, 0), (8, 0, 0, 0), (57, 0, 0, 0), (0, 0, 0, 7), (12, 0, 0, 0), (0, 0, 0, 7), (18, 110, 0, 0), (1, 12, 0, 0), (17, 119, 0, 0), (1, 7, 0, 0), (0, 0, 0, 6), (1, 9, 0, 0), (8, 0, 0, 0), (0, 0, 0, 3), (6, 0, 0, 0), (57, 0, 0, 0), (0, 0, 0, 7), (12, 0, 0, 0), (0, 0, 0, 7), (18, 119, 1, 0), (3, 4, 0, 0), (3, 5, 0, 0), (3, 5, 0, 0), (0, 0, 0, 0), (27, 0, 0, 0), (1, 9, 0, 0), (40, 86, 0, 62), (5, 8, 0, 1), (16, 157, 0, 0), (3, 4, 0, 0), (1, 10, 0, 0), (1, 11, 0, 0), (17, 131, 0, 0), (1, 7, 0, 0), (0, 0, 0, 6), (1, 9, 0, 0), (8, 0, 0, 0), (57, 0, 0, 0), (0, 0, 0, 7), (12, 0, 0, 0), (16, 134, 0, 0), (3, 4, 0, 0), (1, 10, 0, 0), (27, 0, 0, 0), (28, 0, 0, 0), (3, 4, 0, 0), (1, 10, 0, 0), (0, 0, 0, 1), (6, 0, 0, 0), (1, 12, 0, 0), (17, 151, 0, 0), (1, 7, 0, 0), (0, 0, 0, 6), (1, 9, 0, 0), (8, 0, 0, 0), (0, 0, 0, 3), (6, 0, 0, 0), (57, 0, 0, 0), (0, 0, 0, 7), (12, 0, 0, 0), (16, 156, 0, 0), (3, 4, 0, 0), (1, 10, 0, 0), (0, 0, 0, 1), (6, 0, 0, 0), (27, 0, 0, 0), (28, 0, 0, 0), (5, 9, 0, (-1)), (16, 46, 0, 0), (3, 0, 0, 0), (41, 42, 0, 66), (1, 8, 0, 0), (18, 165, 1, 0), (0, 0, 0, 1), (16, 166, 0, 0), (0, 0, 0, 0), (45, 0, 0, 0)]
def pg_p92 : List Nat := [0, 1, 3, 5, 8, 10, 12, 14, 15, 16, 19, 22, 24, 26, 28, 29, 30, 31, 32, 33, 34, 35, 38, 40, 43, 44, 47, 48, 49, 50, 51, 52, 54, 56, 58, 61, 63, 64, 66, 68, 70, 71, 72, 75, 76, 77, 79, 81, 84, 86, 88, 89, 90, 93, 95, 97, 98, 99, 101, 103, 104, 106, 107, 108, 109, 110, 111, 114, 115, 118, 119, 121, 123, 124, 126, 127, 128, 129, 130, 131, 132, 133, 136, 137, 140, 141, 143, 145, 148, 150, 152, 154, 155, 156, 158, 159, 161, 164, 166, 169, 171, 173, 175, 176, 177, 178, 179, 181, 182, 184, 187, 189, 191, 193, 194, 195, 197, 200, 203, 206, 208, 210, 212, 215, 217, 219, 221, 222, 223, 225, 226, 229, 231, 233, 234, 235, 237, 239, 240, 241, 243, 246, 248, 250, 252, 253, 254, 255, 256, 258, 259, 262, 264, 266, 267, 268, 269, 270, 273, 276, 277, 280, 282, 285, 286, 289, 290]
def pg_w92 : List (List Nat) := [[], [], [], [515], [], [], [], [], [], [391], [], [], [], [], [], [], [], [], [], [], [], [], [], [518], [], [], [], [], [], [], [], [], [], [], [521], [], [], [], [], [], [], [], [391], [], [], [], [], [], [], [], [], [], [398], [], [], [], [], [], [], [], [], [], [], [], [], [], [], [], [], [], [], [], [], [], [], [], [], [], [], [], [], [], [], [], [], [], [], [], [], [], [], [], [], [], [], [], [], [], [], [], [], [], [], [], [], [], [], [], [], [], [], [], [], [], [], [], [534], [], [], [], [], [], [], [], [], [], [], [], [], [], [], [], [], [], [], [], [], [], [], [], [], [], [], [], [], [], [], [], [], [], [], [], [], [], [], [], [], [], [], [], [537], [], [], [], [], [], []]
/-- 93: KayfabeRingLaw.love([IIII)V -/
def pg_c93 : List RI := [(3, 0, 0, 0), (0, 0, 0, 7), (1, 1, 0, 0), (8, 0, 0, 0), (1, 2, 0, 0), (6, 0, 0, 0), (27, 0, 0, 0), (1, 3, 0, 0), (6, 0, 0, 0), (2, 4, 0, 0), (3, 0, 0, 0), (0, 0, 0, 7), (1, 1, 0, 0), (8, 0, 0, 0), (1, 2, 0, 0), (6, 0, 0, 0), (1, 4, 0, 0), (0, 0, 0, (-99)), (18, 21, 3, 0), (0, 0, 0, (-99)), (16, 27, 0, 0), (1, 4, 0, 0), (0, 0, 0, 99), (18, 26, 5, 0), (0, 0, 0, 99), (16, 27, 0, 0), (1, 4, 0, 0), (28, 0, 0, 0), (47, 0, 0, 0)]
def pg_p93 : List Nat := [0, 1, 3, 4, 5, 6, 7, 8, 9, 10, 12, 13, 15, 16, 17, 18, 19, 21, 23, 26, 28, 31, 33, 35, 38, 40, 43, 45, 46]
def pg_w93 : List (List Nat) := [[], [], [], [], [], [], [], [], [], [], [], [], [], [], [], [], [], [], [], [], [], [], [], [], [], [], [], [], []]
/-- 94: KayfabeRingLaw.turn([I[II)V -/
def pg_c94 : List RI := [(3, 0, 0, 0), (0, 0, 0, 9), (1, 2, 0, 0), (8, 0, 0, 0), (0, 0, 0, 2), (6, 0, 0, 0), (27, 0, 0, 0), (0, 0, 0, 1), (18, 11, 1, 0), (0, 0, 0, 1), (16, 12, 0, 0), (0, 0, 0, (-1)), (2, 3, 0, 0), (0, 0, 0, 0), (2, 4, 0, 0), (0, 0, 0, 0), (2, 5, 0, 0), (1, 5, 0, 0), (0, 0, 0, 4), (18, 39, 3, 0), (1, 4, 0, 0), (1, 3, 0, 0), (3, 1, 0, 0), (0, 0, 0, 7), (1, 5, 0, 0), (8, 0, 0, 0), (1, 2, 0, 0), (6, 0, 0, 0), (27, 0, 0, 0), (8, 0, 0, 0), (0, 0, 0, 50), (18, 34, 2, 0), (0, 0, 0, 1), (16, 35, 0, 0), (0, 0, 0, 0), (6, 0, 0, 0), (2, 4, 0, 0), (5, 5, 0, 1), (16, 17, 0, 0), (3, 0, 0, 0), (0, 0, 0, 9), (1, 2, 0, 0), (8, 0, 0, 0), (0, 0, 0, 2), (6, 0, 0, 0), (1, 4, 0, 0), (0, 0, 0, 1), (18, 58, 5, 0), (0, 0, 0, 1), (3, 0, 0, 0), (0, 0, 0, 9), (1, 2, 0, 0), (8, 0, 0, 0), (0, 0, 0, 2), (6, 0, 0, 0), (27, 0, 0, 0), (7, 0, 0, 0), (16, 65, 0, 0), (3, 0, 0, 0), (0, 0, 0, 9), (1, 2, 0, 0), (8, 0, 0, 0), (0, 0, 0, 2), (6, 0, 0, 0), (27, 0, 0, 0), (28, 0, 0, 0), (47, 0, 0, 0)]
def pg_p94 : List Nat := [0, 1, 3, 4, 5, 6, 7, 8, 9, 12, 13, 16, 17, 18, 19, 21, 22, 24, 26, 27, 30, 32, 33, 34, 36, 38, 39, 40, 41, 42, 43, 45, 48, 49, 52, 53, 54, 56, 59, 62, 63, 65, 66, 67, 68, 69, 71, 72, 75, 76, 77, 79, 80, 81, 82, 83, 84, 85, 88, 89, 91, 92, 93, 94, 95, 96, 97]
def pg_w94 : List (List Nat) := [[], [], [], [], [], [], [], [], [], [], [], [], [], [], [], [], [], [], [], [], [], [], [], [], [], [], [], [], [], [], [], [], [], [], [], [], [], [], [], [], [], [], [], [], [], [], [], [], [], [], [], [], [], [], [], [], [], [], [], [], [], [], [], [], [], [], []]
/-- 95: KayfabeRingLaw.played([I[I[I[I[II)I -/
def pg_c95 : List RI := [(3, 4, 0, 0), (3, 4, 0, 0), (0, 0, 0, 0), (27, 0, 0, 0), (40, 78, 0, 15), (0, 0, 0, 6), (1, 5, 0, 0), (8, 0, 0, 0), (6, 0, 0, 0), (2, 6, 0, 0), (3, 4, 0, 0), (0, 0, 0, 4), (3, 4, 0, 0), (0, 0, 0, 0), (27, 0, 0, 0), (0, 0, 0, 3), (10, 0, 0, 0), (6, 0, 0, 0), (27, 0, 0, 0), (2, 7, 0, 0), (3, 3, 0, 0), (1, 6, 0, 0), (3, 3, 0, 0), (1, 6, 0, 0), (0, 0, 0, 2), (6, 0, 0, 0), (27, 0, 0, 0), (6, 0, 0, 0), (27, 0, 0, 0), (2, 8, 0, 0), (3, 3, 0, 0), (1, 6, 0, 0), (0, 0, 0, 1), (6, 0, 0, 0), (3, 3, 0, 0), (1, 6, 0, 0), (0, 0, 0, 2), (6, 0, 0, 0), (27, 0, 0, 0), (7, 0, 0, 0), (27, 0, 0, 0), (2, 9, 0, 0), (3, 0, 0, 0), (3, 1, 0, 0), (1, 7, 0, 0), (1, 8, 0, 0), (40, 81, 0, 37), (3, 0, 0, 0), (3, 1, 0, 0), (1, 7, 0, 0), (1, 9, 0, 0), (40, 81, 0, 37), (6, 0, 0, 0), (2, 10, 0, 0), (3, 0, 0, 0), (0, 0, 0, 9), (1, 8, 0, 0), (8, 0, 0, 0), (0, 0, 0, 2), (6, 0, 0, 0), (27, 0, 0, 0), (3, 0, 0, 0), (0, 0, 0, 9), (1, 9, 0, 0), (8, 0, 0, 0), (0, 0, 0, 2), (6, 0, 0, 0), (27, 0, 0, 0), (18, 71, 1, 0), (0, 0, 0, 1), (16, 72, 0, 0), (0, 0, 0, 0), (2, 11, 0, 0), (3, 3, 0, 0), (1, 6, 0, 0), (0, 0, 0, 5), (6, 0, 0, 0), (27, 0, 0, 0), (0, 0, 0, 1), (18, 103, 1, 0), (3, 0, 0, 0), (0, 0, 0, 9), (1, 8, 0, 0), (8, 0, 0, 0), (0, 0, 0, 7), (6, 0, 0, 0), (14, 0, 0, 0), (27, 0, 0, 0), (0, 0, 0, 1), (6, 0, 0, 0), (28, 0, 0, 0), (3, 0, 0, 0), (0, 0, 0, 9), (1, 9, 0, 0), (8, 0, 0, 0), (0, 0, 0, 7), (6, 0, 0, 0), (14, 0, 0, 0), (27, 0, 0, 0), (0, 0, 0, 1), (6, 0, 0, 0), (28, 0, 0, 0), (16, 197, 0, 0), (3, 2, 0, 0), (0, 0, 0, 7), (1, 8, 0, 0), (8, 0, 0, 0), (1, 9, 0, 0), (6, 0, 0, 0), (14, 0, 0, 0), (27, 0, 0, 0), (0, 0, 0, 1), (6, 0, 0, 0), (28, 0, 0, 0), (3, 0, 0, 0), (0, 0, 0, 9), (1, 9, 0, 0), (8, 0, 0, 0), (0, 0, 0, 6), (6, 0, 0, 0), (14, 0, 0, 0), (27, 0, 0, 0), (0, 0, 0, 1), (6, 0, 0, 0), (28, 0, 0, 0), (3, 1, 0, 0), (1, 7, 0, 0), (1, 8, 0, 0), (1, 11, 0, 0), (17, 132, 0, 0), (0, 0, 0, 3), (16, 143, 0, 0), (3, 0, 0, 0), (0, 0, 0, 9), (1, 8, 0, 0), (8, 0, 0, 0), (0, 0, 0, 2), (6, 0, 0, 0), (27, 0, 0, 0), (17, 142, 1, 0), (0, 0, 0, 6), (16, 143, 0, 0), (0, 0, 0, (-6)), (40, 93, 0, 70), (3, 1, 0, 0), (1, 7, 0, 0), (1, 9, 0, 0), (1, 11, 0, 0), (17, 151, 0, 0), (0, 0, 0, (-1)), (16, 162, 0, 0), (3, 0, 0, 0), (0, 0, 0, 9), (1, 9, 0, 0), (8, 0, 0, 0), (0, 0, 0, 2), (6, 0, 0, 0), (27, 0, 0, 0), (17, 161, 1, 0), (0, 0, 0, 2), (16, 162, 0, 0), (0, 0, 0, (-2)), (40, 93, 0, 70), (3, 3, 0, 0), (1, 6, 0, 0), (0, 0, 0, 4), (6, 0, 0, 0), (27, 0, 0, 0), (0, 0, 0, 1), (7, 0, 0, 0), (2, 12, 0, 0), (1, 12, 0, 0), (17, 175, 3, 0), (0, 0, 0, (-1)), (16, 182, 0, 0), (3, 4, 0, 0), (0, 0, 0, 10), (1, 12, 0, 0), (6, 0, 0, 0), (27, 0, 0, 0), (0, 0, 0, 1), (7, 0, 0, 0), (2, 13, 0, 0), (1, 12, 0, 0), (17, 197, 2, 0), (1, 13, 0, 0), (1, 8, 0, 0), (18, 197, 0, 0), (1, 13, 0, 0), (17, 193, 2, 0), (1, 13, 0, 0), (1, 9, 0, 0), (18, 197, 1, 0), (3, 4, 0, 0), (1, 12, 0, 0), (1, 8, 0, 0), (40, 84, 0, 74), (3, 0, 0, 0), (0, 0, 0, 9), (1, 8, 0, 0), (8, 0, 0, 0), (0, 0, 0, 3), (6, 0, 0, 0), (14, 0, 0, 0), (27, 0, 0, 0), (3, 3, 0, 0), (1, 6, 0, 0), (0, 0, 0, 3), (6, 0, 0, 0), (27, 0, 0, 0), (6, 0, 0, 0), (28, 0, 0, 0), (3, 0, 0, 0), (0, 0, 0, 9), (1, 9, 0, 0), (8, 0, 0, 0), (0, 0, 0, 3), (6, 0, 0, 0), (14, 0, 0, 0), (27, 0, 0, 0), (3, 3, 0, 0), (1, 6, 0, 0), (0, 0, 0, 3), (6, 0, 0, 0), (27, 0, 0, 0), (6, 0, 0, 0), (28, 0, 0, 0), (3, 0, 0, 0), (3, 1, 0, 0), (1, 8, 0, 0), (40, 94, 0, 78), (3, 0, 0, 0), (3, 1, 0, 0), (1, 9, 0, 0), (40, 94, 0, 78), (3, 4, 0, 0), (0, 0, 0, 14), (1, 7, 0, 0), (6, 0, 0, 0), (14, 0, 0, 0), (27, 0, 0, 0), (1, 10, 0, 0), (6, 0, 0, 0), (28, 0, 0, 0), (1, 10, 0, 0), (45, 0, 0, 0)]
def pg_p95 : List Nat := [0, 2, 4, 5, 6, 9, 11, 13, 14, 15, 17, 19, 20, 22, 23, 24, 25, 26, 27, 28, 30, 31, 33, 34, 36, 37, 38, 39, 40, 41, 43, 44, 46, 47, 48, 49, 51, 52, 53, 54, 55, 56, 58, 59, 60, 62, 64, 67, 68, 69, 71, 73, 76, 77, 79, 80, 82, 84, 85, 86, 87, 88, 89, 91, 93, 94, 95, 96, 97, 100, 101, 104, 105, 107, 108, 110, 111, 112, 113, 114, 117, 118, 120, 122, 123, 125, 126, 127, 128, 129, 130, 131, 132, 134, 136, 137, 139, 140, 141, 142, 143, 144, 145, 148, 149, 151, 153, 154, 156, 157, 158, 159, 160, 161, 162, 163, 165, 167, 168, 170, 171, 172, 173, 174, 175, 176, 177, 179, 181, 183, 186, 187, 190, 191, 193, 195, 196, 197, 198, 199, 202, 204, 207, 209, 212, 213, 215, 217, 219, 222, 223, 226, 227, 229, 231, 232, 233, 234, 235, 238, 239, 242, 244, 247, 248, 250, 251, 252, 253, 254, 255, 257, 259, 262, 263, 266, 268, 270, 272, 273, 274, 275, 276, 278, 280, 283, 285, 287, 290, 292, 295, 297, 299, 302, 304, 306, 308, 311, 312, 314, 316, 317, 318, 319, 320, 321, 322, 324, 325, 326, 327, 328, 329, 330, 332, 334, 335, 336, 337, 338, 339, 340, 342, 343, 344, 345, 346, 347, 348, 349, 351, 354, 355, 356, 358, 361, 363, 365, 367, 368, 369, 370, 372, 373, 374, 376]
def pg_w95 : List (List Nat) := [[], [], [], [], [398], [], [], [], [], [], [], [], [], [], [], [], [], [], [], [], [], [], [], [], [], [], [], [], [], [], [], [], [], [], [], [], [], [], [], [], [], [], [], [], [], [], [528], [], [], [], [], [528], [], [], [], [], [], [], [], [], [], [], [], [], [], [], [], [], [], [], [], [], [], [], [], [], [], [], [], [], [], [], [], [], [], [], [], [], [], [], [], [], [], [], [], [], [], [], [], [], [], [], [], [], [], [], [], [], [], [], [], [], [], [], [], [], [], [], [], [], [], [], [], [], [], [], [], [], [], [], [], [], [], [], [], [], [], [], [], [], [], [], [], [605], [], [], [], [], [], [], [], [], [], [], [], [], [], [], [], [], [], [], [605], [], [], [], [], [], [], [], [], [], [], [], [], [], [], [], [], [], [], [], [], [], [], [], [], [], [], [], [], [], [], [], [], [], [484], [], [], [], [], [], [], [], [], [], [], [], [], [], [], [], [], [], [], [], [], [], [], [], [], [], [], [], [], [], [], [], [], [], [608], [], [], [], [608], [], [], [], [], [], [], [], [], [], [], []]
/-- 96: KayfabeRingLaw.isSame(LKayfabeRing;[I[I[I[I[I[II)Z -/
def pg_c96 : List RI := [(1, 7, 0, 0), (0, 0, 0, 7), (10, 0, 0, 0), (2, 8, 0, 0), (1, 7, 0, 0), (0, 0, 0, 7), (9, 0, 0, 0), (0, 0, 0, 7), (10, 0, 0, 0), (2, 9, 0, 0), (1, 7, 0, 0), (0, 0, 0, 49), (9, 0, 0, 0), (0, 0, 0, 4), (10, 0, 0, 0), (2, 10, 0, 0), (3, 6, 0, 0), (0, 0, 0, 0), (27, 0, 0, 0), (1, 7, 0, 0), (0, 0, 0, 196), (9, 0, 0, 0), (0, 0, 0, 3), (10, 0, 0, 0), (6, 0, 0, 0), (2, 11, 0, 0), (1, 7, 0, 0), (0, 0, 0, 588), (9, 0, 0, 0), (0, 0, 0, 2), (10, 0, 0, 0), (2, 12, 0, 0), (0, 0, 0, 0), (2, 13, 0, 0), (0, 0, 0, 0), (2, 14, 0, 0), (1, 14, 0, 0), (0, 0, 0, 7), (18, 51, 3, 0), (1, 13, 0, 0), (3, 4, 0, 0), (0, 0, 0, 7), (1, 8, 0, 0), (8, 0, 0, 0), (1, 14, 0, 0), (6, 0, 0, 0), (27, 0, 0, 0), (6, 0, 0, 0), (2, 13, 0, 0), (5, 14, 0, 1), (16, 36, 0, 0), (3, 0, 0, 0), (41, 46, 0, 82), (3, 6, 0, 0), (0, 0, 0, 0), (27, 0, 0, 0), (18, 146, 1, 0), (3, 0, 0, 0), (1, 8, 0, 0), (0, 0, 0, 0), (41, 47, 0, 85), (3, 1, 0, 0), (0, 0, 0, 9), (1, 8, 0, 0), (8, 0, 0, 0), (0, 0, 0, 2), (6, 0, 0, 0), (27, 0, 0, 0), (18, 146, 1, 0), (3, 0, 0, 0), (1, 8, 0, 0), (0, 0, 0, 1), (41, 47, 0, 85), (3, 1, 0, 0), (0, 0, 0, 9), (1, 8, 0, 0), (8, 0, 0, 0), (0, 0, 0, 3), (6, 0, 0, 0), (27, 0, 0, 0), (18, 146, 1, 0), (3, 0, 0, 0), (1, 8, 0, 0), (0, 0, 0, 2), (41, 47, 0, 85), (3, 1, 0, 0), (1, 8, 0, 0), (3, 6, 0, 0), (0, 0, 0, 0), (27, 0, 0, 0), (40, 80, 0, 23), (17, 100, 0, 0), (3, 1, 0, 0), (0, 0, 0, 9), (1, 8, 0, 0), (8, 0, 0, 0), (0, 0, 0, 4), (6, 0, 0, 0), (27, 0, 0, 0), (16, 101, 0, 0), (0, 0, 0, 0), (18, 146, 1, 0), (3, 0, 0, 0), (1, 8, 0, 0), (0, 0, 0, 3), (41, 47, 0, 85), (3, 1, 0, 0), (0, 0, 0, 9), (1, 8, 0, 0), (8, 0, 0, 0), (0, 0, 0, 5), (6, 0, 0, 0), (27, 0, 0, 0), (18, 146, 1, 0), (3, 0, 0, 0), (1, 8, 0, 0), (0, 0, 0, 4), (41, 47, 0, 85), (1, 13, 0, 0), (18, 146, 1, 0), (3, 0, 0, 0), (1, 8, 0, 0), (0, 0, 0, 5), (41, 47, 0, 85), (3, 1, 0, 0), (0, 0, 0, 9), (1, 8, 0, 0), (8, 0, 0, 0), (0, 0, 0, 6), (6, 0, 0, 0), (27, 0, 0, 0), (18, 146, 1, 0), (3, 0, 0, 0), (1, 8, 0, 0), (0, 0, 0, 6), (41, 47, 0, 85), (3, 1, 0, 0), (0, 0, 0, 9), (1, 8, 0, 0), (8, 0, 0, 0), (0, 0, 0, 7), (6, 0, 0, 0), (27, 0, 0, 0), (18, 146, 1, 0), (0, 0, 0, 1), (16, 147, 0, 0), (0, 0, 0, 0), (2, 14, 0, 0), (1, 14, 0, 0), (17, 243, 0, 0), (3, 0, 0, 0), (1, 10, 0, 0), (1, 8, 0, 0), (41, 48, 0, 89), (3, 2, 0, 0), (0, 0, 0, 7), (1, 10, 0, 0), (8, 0, 0, 0), (1, 8, 0, 0), (6, 0, 0, 0), (27, 0, 0, 0), (18, 243, 1, 0), (3, 0, 0, 0), (1, 10, 0, 0), (1, 8, 0, 0), (41, 49, 0, 91), (3, 1, 0, 0), (3, 2, 0, 0), (1, 10, 0, 0), (1, 8, 0, 0), (40, 81, 0, 37), (18, 243, 1, 0), (3, 0, 0, 0), (1, 8, 0, 0), (1, 9, 0, 0), (41, 54, 0, 93), (3, 4, 0, 0), (0, 0, 0, 7), (1, 8, 0, 0), (8, 0, 0, 0), (1, 9, 0, 0), (6, 0, 0, 0), (27, 0, 0, 0), (18, 243, 1, 0), (3, 0, 0, 0), (1, 8, 0, 0), (1, 9, 0, 0), (41, 55, 0, 96), (3, 4, 0, 0), (0, 0, 0, 7), (1, 8, 0, 0), (8, 0, 0, 0), (1, 9, 0, 0), (6, 0, 0, 0), (27, 0, 0, 0), (18, 243, 1, 0), (3, 0, 0, 0), (1, 10, 0, 0), (41, 56, 0, 99), (3, 6, 0, 0), (0, 0, 0, 14), (1, 10, 0, 0), (6, 0, 0, 0), (27, 0, 0, 0), (18, 243, 1, 0), (3, 0, 0, 0), (1, 12, 0, 0), (41, 53, 0, 102), (3, 6, 0, 0), (0, 0, 0, 10), (1, 12, 0, 0), (6, 0, 0, 0), (27, 0, 0, 0), (0, 0, 0, 1), (7, 0, 0, 0), (18, 243, 1, 0), (3, 6, 0, 0), (0, 0, 0, 12), (1, 12, 0, 0), (6, 0, 0, 0), (27, 0, 0, 0), (17, 241, 0, 0), (3, 0, 0, 0), (1, 12, 0, 0), (3, 6, 0, 0), (0, 0, 0, 12), (1, 12, 0, 0), (6, 0, 0, 0), (27, 0, 0, 0), (0, 0, 0, 1), (7, 0, 0, 0), (0, 0, 0, 0), (41, 52, 0, 105), (3, 6, 0, 0), (0, 0, 0, 10), (1, 12, 0, 0), (6, 0, 0, 0), (27, 0, 0, 0), (0, 0, 0, 1), (7, 0, 0, 0), (18, 243, 1, 0), (0, 0, 0, 1), (16, 244, 0, 0), (0, 0, 0, 0), (2, 14, 0, 0), (3, 6, 0, 0), (1, 11, 0, 0), (40, 79, 0, 9), (2, 15, 0, 0), (0, 0, 0, 0), (2, 16, 0, 0), (0, 0, 0, 0), (2, 17, 0, 0), (1, 17, 0, 0), (1, 15, 0, 0), (18, 374, 3, 0), (1, 14, 0, 0), (17, 374, 0, 0), (3, 6, 0, 0), (1, 11, 0, 0), (40, 78, 0, 15), (0, 0, 0, 6), (1, 17, 0, 0), (8, 0, 0, 0), (6, 0, 0, 0), (2, 18, 0, 0), (3, 6, 0, 0), (0, 0, 0, 7), (1, 11, 0, 0), (0, 0, 0, 3), (10, 0, 0, 0), (6, 0, 0, 0), (27, 0, 0, 0), (0, 0, 0, 1), (18, 284, 1, 0), (3, 5, 0, 0), (1, 18, 0, 0), (0, 0, 0, 5), (6, 0, 0, 0), (27, 0, 0, 0), (0, 0, 0, 1), (18, 284, 1, 0), (0, 0, 0, 1), (16, 285, 0, 0), (0, 0, 0, 0), (2, 19, 0, 0), (1, 16, 0, 0), (3, 5, 0, 0), (1, 18, 0, 0), (0, 0, 0, 3), (6, 0, 0, 0), (27, 0, 0, 0), (6, 0, 0, 0), (2, 16, 0, 0), (3, 0, 0, 0), (1, 11, 0, 0), (1, 17, 0, 0), (0, 0, 0, 0), (41, 51, 0, 109), (3, 5, 0, 0), (1, 18, 0, 0), (27, 0, 0, 0), (18, 370, 1, 0), (3, 0, 0, 0), (1, 11, 0, 0), (1, 17, 0, 0), (0, 0, 0, 1), (41, 51, 0, 109), (3, 5, 0, 0), (1, 18, 0, 0), (0, 0, 0, 1), (6, 0, 0, 0), (27, 0, 0, 0), (18, 370, 1, 0), (3, 0, 0, 0), (1, 11, 0, 0), (1, 17, 0, 0), (0, 0, 0, 2), (41, 51, 0, 109), (1, 19, 0, 0), (17, 323, 0, 0), (0, 0, 0, (-1)), (16, 332, 0, 0), (3, 5, 0, 0), (1, 18, 0, 0), (3, 5, 0, 0), (1, 18, 0, 0), (0, 0, 0, 2), (6, 0, 0, 0), (27, 0, 0, 0), (6, 0, 0, 0), (27, 0, 0, 0), (18, 370, 1, 0), (3, 0, 0, 0), (1, 11, 0, 0), (1, 17, 0, 0), (0, 0, 0, 3), (41, 51, 0, 109), (3, 5, 0, 0), (1, 18, 0, 0), (0, 0, 0, 3), (6, 0, 0, 0), (27, 0, 0, 0), (18, 370, 1, 0), (3, 0, 0, 0), (1, 11, 0, 0), (1, 17, 0, 0), (0, 0, 0, 4), (41, 51, 0, 109), (3, 5, 0, 0), (1, 18, 0, 0), (0, 0, 0, 4), (6, 0, 0, 0), (27, 0, 0, 0), (0, 0, 0, 1), (7, 0, 0, 0), (18, 370, 1, 0), (3, 0, 0, 0), (1, 11, 0, 0), (1, 17, 0, 0), (0, 0, 0, 5), (41, 51, 0, 109), (3, 5, 0, 0), (1, 18, 0, 0), (0, 0, 0, 5), (6, 0, 0, 0), (27, 0, 0, 0), (18, 370, 1, 0), (0, 0, 0, 1), (16, 371, 0, 0), (0, 0, 0, 0), (2, 14, 0, 0), (5, 17, 0, 1), (16, 253, 0, 0), (1, 14, 0, 0), (17, 418, 0, 0), (3, 0, 0, 0), (1, 11, 0, 0), (0, 0, 0, 0), (41, 50, 0, 113), (1, 15, 0, 0), (17, 384, 1, 0), (0, 0, 0, (-1)), (16, 391, 0, 0), (3, 6, 0, 0), (0, 0, 0, 4), (1, 11, 0, 0), (0, 0, 0, 3), (10, 0, 0, 0), (6, 0, 0, 0), (27, 0, 0, 0), (18, 418, 1, 0), (3, 0, 0, 0), (1, 11, 0, 0), (0, 0, 0, 1), (41, 50, 0, 113), (1, 15, 0, 0), (18, 418, 1, 0), (3, 0, 0, 0), (1, 11, 0, 0), (0, 0, 0, 2), (41, 50, 0, 113), (1, 16, 0, 0), (18, 418, 1, 0), (3, 0, 0, 0), (1, 11, 0, 0), (0, 0, 0, 3), (41, 50, 0, 113), (3, 6, 0, 0), (0, 0, 0, 7), (1, 11, 0, 0), (0, 0, 0, 3), (10, 0, 0, 0), (6, 0, 0, 0), (27, 0, 0, 0), (18, 418, 1, 0), (0, 0, 0, 1), (16, 419, 0, 0), (0, 0, 0, 0), (2, 14, 0, 0), (3, 1, 0, 0), (3, 5, 0, 0), (3, 6, 0, 0), (40, 87, 0, 54), (2, 17, 0, 0), (1, 7, 0, 0), (0, 0, 0, 1176), (9, 0, 0, 0), (0, 0, 0, 2), (10, 0, 0, 0), (17, 480, 1, 0), (3, 6, 0, 0), (3, 6, 0, 0), (0, 0, 0, 0), (27, 0, 0, 0), (40, 79, 0, 9), (17, 480, 5, 0), (3, 6, 0, 0), (0, 0, 0, 7), (3, 6, 0, 0), (0, 0, 0, 0), (27, 0, 0, 0), (0, 0, 0, 3), (10, 0, 0, 0), (6, 0, 0, 0), (27, 0, 0, 0), (17, 480, 1, 0), (1, 17, 0, 0), (40, 88, 0, 42), (0, 0, 0, 4), (18, 480, 4, 0), (1, 14, 0, 0), (17, 480, 0, 0), (3, 1, 0, 0), (3, 2, 0, 0), (3, 3, 0, 0), (3, 5, 0, 0), (3, 6, 0, 0), (1, 17, 0, 0), (3, 1, 0, 0), (3, 2, 0, 0), (3, 3, 0, 0), (3, 5, 0, 0), (3, 6, 0, 0), (1, 17, 0, 0), (40, 91, 0, 58), (40, 89, 0, 46), (2, 18, 0, 0), (3, 0, 0, 0), (41, 57, 0, 116), (1, 18, 0, 0), (18, 478, 1, 0), (3, 0, 0, 0), (41, 58, 0, 119), (1, 18, 0, 0), (18, 478, 1, 0), (0, 0, 0, 1), (16, 479, 0, 0), (0, 0, 0, 0), (2, 14, 0, 0), (1, 14, 0, 0), (45, 0, 0, 0)]
def pg_p96 : List Nat := [0, 2, 4, 5, 7, 9, 11, 12, 14, 15, 17, 19, 21, 22, 23, 24, 26, 28, 29, 30, 32, 35, 36, 37, 38, 39, 41, 43, 46, 47, 48, 49, 51, 52, 54, 55, 57, 59, 61, 64, 66, 68, 70, 72, 73, 75, 76, 77, 78, 80, 83, 86, 87, 90, 92, 93, 94, 97, 98, 100, 101, 104, 105, 107, 109, 110, 111, 112, 113, 116, 117, 119, 120, 123, 124, 126, 128, 129, 130, 131, 132, 135, 136, 138, 139, 142, 143, 145, 147, 148, 149, 152, 155, 156, 158, 160, 161, 162, 163, 164, 167, 168, 171, 172, 174, 175, 178, 179, 181, 183, 184, 185, 186, 187, 190, 191, 193, 194, 197, 199, 202, 203, 205, 206, 209, 210, 212, 214, 215, 217, 218, 219, 222, 223, 225, 227, 230, 231, 233, 235, 236, 238, 239, 240, 243, 244, 247, 248, 250, 252, 255, 256, 258, 260, 263, 264, 266, 268, 269, 271, 272, 273, 276, 277, 279, 281, 284, 285, 286, 288, 290, 293, 296, 297, 299, 301, 304, 306, 308, 310, 311, 313, 314, 315, 318, 319, 321, 323, 326, 328, 330, 332, 333, 335, 336, 337, 340, 341, 343, 346, 348, 350, 352, 353, 354, 357, 358, 360, 363, 365, 367, 369, 370, 371, 372, 373, 376, 378, 380, 382, 383, 384, 387, 388, 390, 392, 394, 396, 397, 398, 399, 400, 401, 404, 406, 408, 410, 411, 412, 413, 414, 417, 418, 421, 422, 424, 426, 428, 431, 433, 434, 436, 437, 439, 441, 443, 446, 448, 451, 453, 455, 458, 460, 462, 463, 464, 466, 468, 470, 472, 473, 474, 475, 476, 477, 480, 482, 484, 485, 486, 487, 488, 491, 492, 495, 496, 498, 500, 502, 504, 505, 506, 507, 508, 510, 511, 513, 515, 516, 519, 521, 523, 524, 527, 528, 530, 532, 533, 536, 538, 540, 541, 542, 543, 546, 547, 549, 551, 552, 555, 557, 560, 561, 564, 566, 568, 570, 572, 573, 574, 575, 576, 577, 580, 581, 583, 585, 586, 589, 591, 593, 594, 595, 596, 599, 600, 602, 604, 605, 608, 610, 612, 613, 614, 615, 616, 617, 620, 621, 623, 625, 626, 629, 631, 633, 634, 635, 636, 639, 640, 643, 644, 646, 649, 652, 654, 657, 658, 660, 661, 664, 666, 669, 670, 673, 675, 676, 678, 679, 680, 681, 682, 685, 686, 688, 689, 692, 694, 697, 698, 700, 701, 704, 706, 709, 710, 712, 713, 716, 718, 720, 722, 723, 724, 725, 726, 729, 730, 733, 734, 736, 737, 739, 741, 744, 746, 748, 751, 752, 753, 754, 757, 759, 761, 762, 763, 766, 769, 771, 773, 775, 776, 777, 778, 779, 780, 781, 784, 786, 789, 790, 793, 795, 798, 799, 800, 801, 803, 805, 807, 808, 809, 810, 812, 814, 816, 819, 822, 824, 825, 828, 830, 833, 834, 837, 839, 842, 843, 846, 847, 849, 851]
def pg_w96 : List (List Nat) := [[], [], [], [], [], [], [], [], [], [], [], [], [], [], [], [], [], [], [], [], [], [], [], [], [], [], [], [], [], [], [], [], [], [], [], [], [], [], [], [], [], [], [], [], [], [], [], [], [], [], [], [], [686], [], [], [], [], [], [], [], [690], [], [], [], [], [], [], [], [], [], [], [], [690], [], [], [], [], [], [], [], [], [], [], [], [690], [], [], [], [], [], [401], [], [], [], [], [], [], [], [], [], [], [], [], [], [], [690], [], [], [], [], [], [], [], [], [], [], [], [690], [], [], [], [], [], [690], [], [], [], [], [], [], [], [], [], [], [], [690], [], [], [], [], [], [], [], [], [], [], [], [], [], [], [], [], [], [695], [], [], [], [], [], [], [], [], [], [], [], [699], [], [], [], [], [528], [], [], [], [], [703], [], [], [], [], [], [], [], [], [], [], [], [707], [], [], [], [], [], [], [], [], [], [], [717], [], [], [], [], [], [], [], [], [722], [], [], [], [], [], [], [], [], [], [], [], [], [], [], [], [], [], [], [], [], [], [], [], [], [727], [], [], [], [], [], [], [], [], [], [], [], [], [], [], [391], [], [], [], [], [], [], [], [], [], [], [], [], [398], [], [], [], [], [], [], [], [], [], [], [], [], [], [], [], [], [], [], [], [], [], [], [], [], [], [], [], [], [], [], [], [], [], [], [], [], [], [732], [], [], [], [], [], [], [], [], [732], [], [], [], [], [], [], [], [], [], [], [732], [], [], [], [], [], [], [], [], [], [], [], [], [], [], [], [], [], [], [732], [], [], [], [], [], [], [], [], [], [], [732], [], [], [], [], [], [], [], [], [], [], [], [], [732], [], [], [], [], [], [], [], [], [], [], [], [], [], [], [], [], [], [736], [], [], [], [], [], [], [], [], [], [], [], [], [], [], [], [736], [], [], [], [], [], [736], [], [], [], [], [], [736], [], [], [], [], [], [], [], [], [], [], [], [], [], [], [], [515], [], [], [], [], [], [], [], [], [], [], [], [391], [], [], [], [], [], [], [], [], [], [], [], [], [518], [], [], [], [], [], [], [], [], [], [], [], [], [], [], [], [], [521], [525], [], [], [741], [], [], [], [745], [], [], [], [], [], [], [], []]
/-- 97: KayfabeRingLaw.isHurted(LKayfabeRing;[I[II)Z -/
def pg_c97 : List RI := [(1, 3, 0, 0), (0, 0, 0, 7), (10, 0, 0, 0), (2, 4, 0, 0), (1, 3, 0, 0), (0, 0, 0, 7), (9, 0, 0, 0), (0, 0, 0, 4), (10, 0, 0, 0), (17, 12, 1, 0), (0, 0, 0, 1), (16, 13, 0, 0), (0, 0, 0, 0), (2, 5, 0, 0), (0, 0, 0, 1), (1, 3, 0, 0), (0, 0, 0, 28), (9, 0, 0, 0), (1, 3, 0, 0), (0, 0, 0, 5), (9, 0, 0, 0), (0, 0, 0, 3), (10, 0, 0, 0), (17, 26, 1, 0), (0, 0, 0, 200), (16, 27, 0, 0), (0, 0, 0, 5), (10, 0, 0, 0), (6, 0, 0, 0), (2, 6, 0, 0), (3, 1, 0, 0), (0, 0, 0, 9), (1, 4, 0, 0), (8, 0, 0, 0), (0, 0, 0, 5), (6, 0, 0, 0), (14, 0, 0, 0), (27, 0, 0, 0), (1, 5, 0, 0), (17, 42, 0, 0), (0, 0, 0, 1), (16, 43, 0, 0), (0, 0, 0, 0), (6, 0, 0, 0), (28, 0, 0, 0), (1, 5, 0, 0), (17, 72, 0, 0), (3, 1, 0, 0), (0, 0, 0, 9), (1, 4, 0, 0), (8, 0, 0, 0), (0, 0, 0, 5), (6, 0, 0, 0), (27, 0, 0, 0), (0, 0, 0, 2), (18, 58, 5, 0), (0, 0, 0, 10000), (16, 77, 0, 0), (3, 2, 0, 0), (0, 0, 0, 0), (27, 0, 0, 0), (0, 0, 0, 30), (3, 1, 0, 0), (0, 0, 0, 9), (1, 4, 0, 0), (8, 0, 0, 0), (0, 0, 0, 5), (6, 0, 0, 0), (27, 0, 0, 0), (8, 0, 0, 0), (6, 0, 0, 0), (16, 77, 0, 0), (3, 2, 0, 0), (0, 0, 0, 0), (27, 0, 0, 0), (1, 6, 0, 0), (6, 0, 0, 0), (2, 7, 0, 0), (3, 1, 0, 0), (0, 0, 0, 9), (1, 4, 0, 0), (8, 0, 0, 0), (0, 0, 0, 4), (6, 0, 0, 0), (3, 1, 0, 0), (0, 0, 0, 9), (1, 4, 0, 0), (8, 0, 0, 0), (0, 0, 0, 4), (6, 0, 0, 0), (27, 0, 0, 0), (1, 7, 0, 0), (18, 101, 5, 0), (3, 1, 0, 0), (0, 0, 0, 9), (1, 4, 0, 0), (8, 0, 0, 0), (0, 0, 0, 4), (6, 0, 0, 0), (27, 0, 0, 0), (16, 102, 0, 0), (1, 7, 0, 0), (28, 0, 0, 0), (0, 0, 0, 0), (2, 8, 0, 0), (1, 8, 0, 0), (0, 0, 0, 2), (18, 136, 3, 0), (3, 2, 0, 0), (0, 0, 0, 10), (1, 8, 0, 0), (6, 0, 0, 0), (27, 0, 0, 0), (1, 4, 0, 0), (0, 0, 0, 1), (6, 0, 0, 0), (18, 134, 1, 0), (3, 1, 0, 0), (0, 0, 0, 9), (1, 4, 0, 0), (8, 0, 0, 0), (0, 0, 0, 4), (6, 0, 0, 0), (27, 0, 0, 0), (3, 2, 0, 0), (0, 0, 0, 0), (27, 0, 0, 0), (0, 0, 0, 60), (6, 0, 0, 0), (18, 134, 5, 0), (3, 2, 0, 0), (1, 8, 0, 0), (0, 0, 0, (-1)), (40, 84, 0, 74), (5, 8, 0, 1), (16, 105, 0, 0), (1, 5, 0, 0), (17, 142, 0, 0), (3, 0, 0, 0), (1, 4, 0, 0), (41, 41, 0, 122), (16, 146, 0, 0), (3, 0, 0, 0), (1, 4, 0, 0), (1, 6, 0, 0), (41, 40, 0, 125), (3, 1, 0, 0), (0, 0, 0, 9), (1, 4, 0, 0), (8, 0, 0, 0), (0, 0, 0, 4), (6, 0, 0, 0), (27, 0, 0, 0), (18, 156, 1, 0), (0, 0, 0, 1), (16, 157, 0, 0), (0, 0, 0, 0), (45, 0, 0, 0)]
def pg_p97 : List Nat := [0, 1, 3, 4, 6, 7, 9, 10, 11, 12, 15, 16, 19, 20, 22, 23, 24, 26, 27, 28, 29, 30, 31, 32, 35, 38, 41, 42, 43, 44, 46, 47, 49, 51, 52, 53, 54, 55, 56, 58, 61, 62, 65, 66, 67, 68, 70, 73, 74, 76, 78, 79, 80, 81, 82, 83, 86, 89, 92, 93, 94, 95, 97, 98, 100, 102, 103, 104, 105, 106, 107, 108, 111, 112, 113, 114, 116, 117, 119, 120, 122, 124, 125, 126, 127, 128, 130, 132, 133, 134, 135, 136, 138, 141, 142, 144, 146, 147, 148, 149, 150, 153, 155, 156, 157, 159, 161, 162, 165, 166, 168, 170, 171, 172, 174, 175, 176, 179, 180, 182, 184, 185, 186, 187, 188, 189, 190, 191, 193, 194, 197, 198, 200, 201, 204, 207, 210, 212, 215, 216, 218, 221, 224, 225, 227, 229, 232, 233, 235, 237, 238, 239, 240, 241, 244, 245, 248, 249]
def pg_w97 : List (List Nat) := [[], [], [], [], [], [], [], [], [], [], [], [], [], [], [], [], [], [], [], [], [], [], [], [], [], [], [], [], [], [], [], [], [], [], [], [], [], [], [], [], [], [], [], [], [], [], [], [], [], [], [], [], [], [], [], [], [], [], [], [], [], [], [], [], [], [], [], [], [], [], [], [], [], [], [], [], [], [], [], [], [], [], [], [], [], [], [], [], [], [], [], [], [], [], [], [], [], [], [], [], [], [], [], [], [], [], [], [], [], [], [], [], [], [], [], [], [], [], [], [], [], [], [], [], [], [], [], [], [], [], [], [], [], [484], [], [], [], [], [], [], [487], [], [], [], [], [507], [], [], [], [], [], [], [], [], [], [], [], []]
/-- 98: KayfabeRingLaw.isTold(LKayfabeRing;[I[I[I[I[III)Z -/
def pg_c98 : List RI := [(1, 7, 0, 0), (0, 0, 0, 7), (10, 0, 0, 0), (2, 8, 0, 0), (1, 8, 0, 0), (0, 0, 0, 1), (6, 0, 0, 0), (1, 7, 0, 0), (0, 0, 0, 7), (9, 0, 0, 0), (0, 0, 0, 6), (10, 0, 0, 0), (6, 0, 0, 0), (0, 0, 0, 7), (10, 0, 0, 0), (2, 9, 0, 0), (1, 6, 0, 0), (17, 73, 1, 0), (3, 3, 0, 0), (0, 0, 0, 7), (1, 8, 0, 0), (8, 0, 0, 0), (1, 9, 0, 0), (6, 0, 0, 0), (27, 0, 0, 0), (0, 0, 0, 1), (7, 0, 0, 0), (2, 10, 0, 0), (3, 3, 0, 0), (0, 0, 0, 7), (1, 8, 0, 0), (8, 0, 0, 0), (1, 9, 0, 0), (6, 0, 0, 0), (1, 7, 0, 0), (0, 0, 0, 42), (9, 0, 0, 0), (0, 0, 0, 3), (10, 0, 0, 0), (17, 42, 1, 0), (0, 0, 0, 0), (16, 53, 0, 0), (3, 5, 0, 0), (0, 0, 0, 0), (27, 0, 0, 0), (1, 7, 0, 0), (0, 0, 0, 126), (9, 0, 0, 0), (0, 0, 0, 5), (10, 0, 0, 0), (6, 0, 0, 0), (0, 0, 0, 1), (6, 0, 0, 0), (28, 0, 0, 0), (3, 0, 0, 0), (1, 8, 0, 0), (1, 9, 0, 0), (3, 3, 0, 0), (0, 0, 0, 7), (1, 8, 0, 0), (8, 0, 0, 0), (1, 9, 0, 0), (6, 0, 0, 0), (27, 0, 0, 0), (0, 0, 0, 1), (7, 0, 0, 0), (41, 35, 0, 128), (1, 10, 0, 0), (18, 71, 1, 0), (0, 0, 0, 1), (16, 72, 0, 0), (0, 0, 0, 0), (45, 0, 0, 0), (1, 6, 0, 0), (0, 0, 0, 1), (18, 134, 1, 0), (3, 1, 0, 0), (0, 0, 0, 9), (1, 8, 0, 0), (8, 0, 0, 0), (0, 0, 0, 8), (6, 0, 0, 0), (27, 0, 0, 0), (0, 0, 0, 2), (9, 0, 0, 0), (2, 10, 0, 0), (1, 7, 0, 0), (0, 0, 0, 42), (9, 0, 0, 0), (0, 0, 0, 3), (10, 0, 0, 0), (17, 94, 1, 0), (0, 0, 0, 0), (16, 103, 0, 0), (3, 5, 0, 0), (0, 0, 0, 0), (27, 0, 0, 0), (1, 7, 0, 0), (0, 0, 0, 126), (9, 0, 0, 0), (0, 0, 0, 4), (10, 0, 0, 0), (6, 0, 0, 0), (2, 11, 0, 0), (3, 1, 0, 0), (0, 0, 0, 9), (1, 8, 0, 0), (8, 0, 0, 0), (0, 0, 0, 8), (6, 0, 0, 0), (0, 0, 0, 2), (1, 11, 0, 0), (8, 0, 0, 0), (3, 1, 0, 0), (0, 0, 0, 9), (1, 8, 0, 0), (8, 0, 0, 0), (0, 0, 0, 8), (6, 0, 0, 0), (27, 0, 0, 0), (0, 0, 0, 2), (10, 0, 0, 0), (6, 0, 0, 0), (28, 0, 0, 0), (3, 0, 0, 0), (1, 8, 0, 0), (1, 11, 0, 0), (41, 36, 0, 131), (1, 10, 0, 0), (18, 132, 1, 0), (0, 0, 0, 1), (16, 133, 0, 0), (0, 0, 0, 0), (45, 0, 0, 0), (1, 6, 0, 0), (0, 0, 0, 2), (18, 242, 1, 0), (1, 7, 0, 0), (0, 0, 0, 7), (9, 0, 0, 0), (0, 0, 0, 4), (10, 0, 0, 0), (2, 10, 0, 0), (1, 7, 0, 0), (0, 0, 0, 28), (9, 0, 0, 0), (0, 0, 0, 10), (10, 0, 0, 0), (2, 11, 0, 0), (3, 1, 0, 0), (1, 8, 0, 0), (3, 5, 0, 0), (0, 0, 0, 0), (27, 0, 0, 0), (40, 80, 0, 23), (17, 167, 1, 0), (3, 1, 0, 0), (0, 0, 0, 9), (1, 8, 0, 0), (8, 0, 0, 0), (0, 0, 0, 8), (6, 0, 0, 0), (27, 0, 0, 0), (0, 0, 0, 2), (10, 0, 0, 0), (0, 0, 0, 1), (18, 169, 1, 0), (0, 0, 0, 1), (45, 0, 0, 0), (3, 1, 0, 0), (0, 0, 0, 9), (1, 8, 0, 0), (8, 0, 0, 0), (0, 0, 0, 1), (6, 0, 0, 0), (27, 0, 0, 0), (0, 0, 0, 10), (9, 0, 0, 0), (1, 11, 0, 0), (18, 192, 5, 0), (3, 1, 0, 0), (0, 0, 0, 9), (1, 8, 0, 0), (8, 0, 0, 0), (0, 0, 0, 1), (6, 0, 0, 0), (27, 0, 0, 0), (0, 0, 0, 10), (9, 0, 0, 0), (1, 11, 0, 0), (7, 0, 0, 0), (16, 193, 0, 0), (0, 0, 0, 0), (2, 12, 0, 0), (3, 1, 0, 0), (0, 0, 0, 9), (1, 8, 0, 0), (8, 0, 0, 0), (0, 0, 0, 8), (6, 0, 0, 0), (14, 0, 0, 0), (27, 0, 0, 0), (0, 0, 0, 1), (6, 0, 0, 0), (28, 0, 0, 0), (3, 2, 0, 0), (1, 10, 0, 0), (1, 8, 0, 0), (3, 1, 0, 0), (0, 0, 0, 9), (1, 8, 0, 0), (8, 0, 0, 0), (0, 0, 0, 2), (6, 0, 0, 0), (27, 0, 0, 0), (17, 218, 1, 0), (1, 12, 0, 0), (16, 220, 0, 0), (1, 12, 0, 0), (11, 0, 0, 0), (40, 93, 0, 70), (3, 1, 0, 0), (3, 2, 0, 0), (1, 8, 0, 0), (40, 94, 0, 78), (3, 0, 0, 0), (1, 10, 0, 0), (1, 8, 0, 0), (1, 11, 0, 0), (41, 44, 0, 134), (3, 2, 0, 0), (0, 0, 0, 7), (1, 10, 0, 0), (8, 0, 0, 0), (1, 8, 0, 0), (6, 0, 0, 0), (27, 0, 0, 0), (18, 240, 1, 0), (0, 0, 0, 1), (16, 241, 0, 0), (0, 0, 0, 0), (45, 0, 0, 0), (1, 6, 0, 0), (0, 0, 0, 3), (18, 249, 1, 0), (3, 5, 0, 0), (0, 0, 0, 0), (27, 0, 0, 0), (16, 256, 0, 0), (3, 5, 0, 0), (0, 0, 0, 0), (27, 0, 0, 0), (1, 7, 0, 0), (0, 0, 0, 3), (10, 0, 0, 0), (6, 0, 0, 0), (2, 10, 0, 0), (3, 5, 0, 0), (1, 10, 0, 0), (40, 79, 0, 9), (17, 270, 0, 0), (3, 5, 0, 0), (0, 0, 0, 7), (1, 10, 0, 0), (0, 0, 0, 3), (10, 0, 0, 0), (6, 0, 0, 0), (27, 0, 0, 0), (0, 0, 0, 1), (18, 272, 1, 0), (0, 0, 0, 1), (45, 0, 0, 0), (1, 7, 0, 0), (0, 0, 0, 3), (9, 0, 0, 0), (3, 5, 0, 0), (1, 10, 0, 0), (40, 79, 0, 9), (10, 0, 0, 0), (2, 11, 0, 0), (1, 6, 0, 0), (0, 0, 0, 3), (18, 321, 1, 0), (3, 4, 0, 0), (3, 5, 0, 0), (1, 10, 0, 0), (40, 78, 0, 15), (0, 0, 0, 6), (1, 11, 0, 0), (8, 0, 0, 0), (6, 0, 0, 0), (0, 0, 0, 5), (6, 0, 0, 0), (27, 0, 0, 0), (0, 0, 0, 1), (18, 298, 1, 0), (0, 0, 0, 1), (16, 299, 0, 0), (0, 0, 0, 0), (2, 12, 0, 0), (3, 4, 0, 0), (3, 5, 0, 0), (1, 10, 0, 0), (40, 78, 0, 15), (0, 0, 0, 6), (1, 11, 0, 0), (8, 0, 0, 0), (6, 0, 0, 0), (0, 0, 0, 5), (6, 0, 0, 0), (0, 0, 0, 1), (28, 0, 0, 0), (3, 0, 0, 0), (1, 11, 0, 0), (41, 39, 0, 137), (1, 12, 0, 0), (18, 319, 1, 0), (0, 0, 0, 1), (16, 320, 0, 0), (0, 0, 0, 0), (45, 0, 0, 0), (3, 4, 0, 0), (3, 5, 0, 0), (1, 10, 0, 0), (1, 11, 0, 0), (40, 86, 0, 62), (3, 0, 0, 0), (1, 10, 0, 0), (1, 11, 0, 0), (41, 38, 0, 141), (3, 5, 0, 0), (1, 10, 0, 0), (40, 79, 0, 9), (18, 336, 1, 0), (0, 0, 0, 1), (16, 337, 0, 0), (0, 0, 0, 0), (45, 0, 0, 0)]
def pg_p98 : List Nat := [0, 2, 4, 5, 7, 9, 10, 11, 13, 15, 16, 18, 19, 20, 22, 23, 25, 27, 30, 31, 33, 35, 36, 38, 39, 40, 41, 42, 44, 45, 47, 49, 50, 52, 53, 55, 57, 58, 59, 60, 63, 64, 67, 69, 70, 71, 73, 75, 76, 77, 78, 79, 80, 81, 82, 83, 85, 87, 88, 90, 92, 93, 95, 96, 97, 98, 99, 102, 104, 107, 108, 111, 112, 113, 115, 116, 119, 120, 122, 124, 125, 127, 128, 129, 130, 131, 133, 135, 137, 138, 139, 140, 143, 144, 147, 149, 150, 151, 153, 155, 156, 157, 158, 159, 161, 162, 164, 166, 167, 169, 170, 171, 173, 174, 175, 177, 179, 180, 182, 183, 184, 185, 186, 187, 188, 189, 191, 193, 196, 198, 201, 202, 205, 206, 207, 209, 210, 213, 215, 217, 218, 219, 220, 222, 224, 226, 227, 229, 230, 232, 233, 235, 237, 238, 239, 242, 245, 246, 248, 250, 251, 253, 254, 255, 256, 257, 258, 261, 262, 263, 264, 266, 268, 269, 270, 271, 272, 274, 275, 277, 280, 281, 283, 285, 286, 287, 288, 289, 291, 292, 294, 295, 298, 299, 301, 302, 304, 306, 307, 309, 310, 311, 312, 313, 314, 315, 316, 318, 320, 321, 323, 325, 326, 327, 328, 329, 332, 334, 337, 339, 340, 343, 344, 345, 347, 350, 351, 353, 355, 357, 360, 361, 363, 365, 366, 368, 369, 370, 373, 374, 377, 378, 379, 381, 382, 385, 387, 388, 389, 392, 394, 395, 396, 398, 399, 400, 401, 403, 405, 407, 410, 413, 415, 417, 419, 420, 421, 422, 423, 424, 427, 428, 429, 431, 432, 433, 435, 437, 440, 441, 443, 445, 446, 449, 451, 453, 455, 458, 460, 462, 463, 464, 465, 466, 467, 468, 471, 472, 475, 476, 478, 480, 482, 484, 487, 489, 491, 492, 493, 494, 495, 496, 497, 498, 500, 503, 505, 508, 509, 512, 513, 514, 516, 518, 520, 522, 525, 526, 528, 530, 533, 535, 537, 540, 543, 544, 547, 548]
def pg_w98 : List (List Nat) := [[], [], [], [], [], [], [], [], [], [], [], [], [], [], [], [], [], [], [], [], [], [], [], [], [], [], [], [], [], [], [], [], [], [], [], [], [], [], [], [], [], [], [], [], [], [], [], [], [], [], [], [], [], [], [], [], [], [], [], [], [], [], [], [], [], [], [595], [], [], [], [], [], [], [], [], [], [], [], [], [], [], [], [], [], [], [], [], [], [], [], [], [], [], [], [], [], [], [], [], [], [], [], [], [], [], [], [], [], [], [], [], [], [], [], [], [], [], [], [], [], [], [], [], [], [], [], [], [600], [], [], [], [], [], [], [], [], [], [], [], [], [], [], [], [], [], [], [], [], [], [], [], [], [], [], [401], [], [], [], [], [], [], [], [], [], [], [], [], [], [], [], [], [], [], [], [], [], [], [], [], [], [], [], [], [], [], [], [], [], [], [], [], [], [], [], [], [], [], [], [], [], [], [], [], [], [], [], [], [], [], [], [], [], [], [], [], [], [], [], [], [], [605], [], [], [], [608], [], [], [], [], [611], [], [], [], [], [], [], [], [], [], [], [], [], [], [], [], [], [], [], [], [], [], [], [], [], [], [], [], [], [], [391], [], [], [], [], [], [], [], [], [], [], [], [], [], [], [], [], [], [391], [], [], [], [], [], [], [], [], [398], [], [], [], [], [], [], [], [], [], [], [], [], [], [], [], [], [398], [], [], [], [], [], [], [], [], [], [], [627], [], [], [], [], [], [], [], [], [], [], [534], [], [], [], [637], [], [], [391], [], [], [], [], []]
/-- 99: KayfabeRingLaw.isPassed(LKayfabeRing;[I[I[I[I[IZ)Z -/
def pg_c99 : List RI := [(3, 5, 0, 0), (0, 0, 0, 0), (27, 0, 0, 0), (0, 0, 0, 3), (10, 0, 0, 0), (2, 7, 0, 0), (1, 6, 0, 0), (17, 65, 0, 0), (3, 5, 0, 0), (0, 0, 0, 1), (1, 7, 0, 0), (6, 0, 0, 0), (27, 0, 0, 0), (17, 26, 0, 0), (3, 5, 0, 0), (0, 0, 0, 7), (1, 7, 0, 0), (6, 0, 0, 0), (27, 0, 0, 0), (0, 0, 0, 1), (18, 26, 0, 0), (3, 1, 0, 0), (3, 4, 0, 0), (3, 5, 0, 0), (40, 87, 0, 54), (17, 28, 5, 0), (0, 0, 0, 1), (45, 0, 0, 0), (0, 0, 0, 0), (2, 8, 0, 0), (0, 0, 0, 0), (2, 9, 0, 0), (1, 9, 0, 0), (3, 5, 0, 0), (0, 0, 0, 1), (1, 7, 0, 0), (6, 0, 0, 0), (27, 0, 0, 0), (18, 51, 3, 0), (1, 8, 0, 0), (3, 1, 0, 0), (3, 2, 0, 0), (3, 3, 0, 0), (3, 4, 0, 0), (3, 5, 0, 0), (1, 9, 0, 0), (40, 95, 0, 143), (6, 0, 0, 0), (2, 8, 0, 0), (5, 9, 0, 1), (16, 32, 0, 0), (3, 5, 0, 0), (0, 0, 0, 7), (1, 7, 0, 0), (6, 0, 0, 0), (0, 0, 0, 1), (28, 0, 0, 0), (3, 0, 0, 0), (41, 43, 0, 146), (1, 8, 0, 0), (18, 63, 1, 0), (0, 0, 0, 1), (16, 64, 0, 0), (0, 0, 0, 0), (45, 0, 0, 0), (3, 5, 0, 0), (0, 0, 0, 1), (1, 7, 0, 0), (6, 0, 0, 0), (0, 0, 0, 0), (28, 0, 0, 0), (3, 5, 0, 0), (0, 0, 0, 7), (1, 7, 0, 0), (6, 0, 0, 0), (0, 0, 0, 0), (28, 0, 0, 0), (0, 0, 0, 0), (2, 8, 0, 0), (1, 8, 0, 0), (0, 0, 0, 7), (18, 130, 3, 0), (3, 1, 0, 0), (0, 0, 0, 9), (1, 8, 0, 0), (8, 0, 0, 0), (0, 0, 0, 3), (6, 0, 0, 0), (3, 1, 0, 0), (0, 0, 0, 9), (1, 8, 0, 0), (8, 0, 0, 0), (0, 0, 0, 3), (6, 0, 0, 0), (27, 0, 0, 0), (0, 0, 0, 10), (18, 99, 3, 0), (0, 0, 0, 0), (16, 108, 0, 0), (3, 1, 0, 0), (0, 0, 0, 9), (1, 8, 0, 0), (8, 0, 0, 0), (0, 0, 0, 3), (6, 0, 0, 0), (27, 0, 0, 0), (0, 0, 0, 10), (7, 0, 0, 0), (28, 0, 0, 0), (3, 1, 0, 0), (0, 0, 0, 9), (1, 8, 0, 0), (8, 0, 0, 0), (0, 0, 0, 8), (6, 0, 0, 0), (14, 0, 0, 0), (27, 0, 0, 0), (3, 1, 0, 0), (0, 0, 0, 9), (1, 8, 0, 0), (8, 0, 0, 0), (0, 0, 0, 8), (6, 0, 0, 0), (27, 0, 0, 0), (0, 0, 0, 2), (10, 0, 0, 0), (7, 0, 0, 0), (28, 0, 0, 0), (5, 8, 0, 1), (16, 79, 0, 0), (3, 5, 0, 0), (0, 0, 0, 0), (14, 0, 0, 0), (27, 0, 0, 0), (0, 0, 0, 1), (6, 0, 0, 0), (28, 0, 0, 0), (3, 0, 0, 0), (41, 45, 0, 149), (3, 5, 0, 0), (0, 0, 0, 0), (27, 0, 0, 0), (18, 145, 1, 0), (0, 0, 0, 1), (16, 146, 0, 0), (0, 0, 0, 0), (45, 0, 0, 0)]
def pg_p99 : List Nat := [0, 2, 3, 4, 5, 6, 8, 10, 13, 15, 16, 18, 19, 20, 23, 25, 27, 29, 30, 31, 32, 35, 36, 38, 40, 43, 46, 47, 48, 49, 51, 52, 54, 56, 58, 59, 61, 62, 63, 66, 68, 69, 70, 71, 73, 75, 77, 80, 81, 83, 86, 89, 91, 93, 95, 96, 97, 98, 99, 102, 104, 107, 108, 111, 112, 113, 115, 116, 118, 119, 120, 121, 123, 125, 127, 128, 129, 130, 131, 133, 135, 137, 140, 141, 143, 145, 146, 147, 148, 149, 151, 153, 154, 155, 156, 157, 159, 162, 163, 166, 167, 169, 171, 172, 173, 174, 175, 177, 178, 179, 180, 182, 184, 185, 187, 188, 189, 190, 191, 193, 195, 196, 198, 199, 200, 201, 202, 203, 204, 207, 210, 212, 213, 214, 215, 216, 217, 218, 219, 222, 224, 225, 226, 229, 230, 233, 234]
def pg_w99 : List (List Nat) := [[], [], [], [], [], [], [], [], [], [], [], [], [], [], [], [], [], [], [], [], [], [], [], [], [515], [], [], [], [], [], [], [], [], [], [], [], [], [], [], [], [], [], [], [], [], [], [645], [], [], [], [], [], [], [], [], [], [], [], [648], [], [], [], [], [], [], [], [], [], [], [], [], [], [], [], [], [], [], [], [], [], [], [], [], [], [], [], [], [], [], [], [], [], [], [], [], [], [], [], [], [], [], [], [], [], [], [], [], [], [], [], [], [], [], [], [], [], [], [], [], [], [], [], [], [], [], [], [], [], [], [], [], [], [], [], [], [], [], [], [678], [], [], [], [], [], [], [], []]
/-- 100: KayfabeRingLaw.holds([I)Z -/
def pg_c100 : List RI := [(37, 5, 0, 32), (13, 0, 0, 0), (42, 32, 0, 152), (4, 1, 0, 0), (0, 0, 0, 63), (38, 7, 0, 0), (4, 2, 0, 0), (0, 0, 0, 28), (38, 7, 0, 0), (4, 3, 0, 0), (0, 0, 0, 49), (38, 7, 0, 0), (4, 4, 0, 0), (0, 0, 0, 49), (38, 7, 0, 0), (4, 5, 0, 0), (0, 0, 0, 54), (38, 7, 0, 0), (4, 6, 0, 0), (0, 0, 0, 18), (38, 7, 0, 0), (4, 7, 0, 0), (3, 1, 0, 0), (41, 34, 0, 153), (17, 31, 1, 0), (3, 1, 0, 0), (41, 34, 0, 153), (0, 0, 0, 1), (18, 31, 1, 0), (0, 0, 0, 1), (16, 32, 0, 0), (0, 0, 0, 0), (2, 8, 0, 0), (0, 0, 0, 0), (2, 9, 0, 0), (1, 9, 0, 0), (0, 0, 0, 7), (18, 106, 3, 0), (1, 8, 0, 0), (17, 106, 0, 0), (3, 2, 0, 0), (0, 0, 0, 9), (1, 9, 0, 0), (8, 0, 0, 0), (3, 0, 0, 0), (0, 0, 0, 300), (1, 9, 0, 0), (6, 0, 0, 0), (0, 0, 0, 100), (40, 77, 0, 156), (28, 0, 0, 0), (3, 2, 0, 0), (0, 0, 0, 9), (1, 9, 0, 0), (8, 0, 0, 0), (0, 0, 0, 1), (6, 0, 0, 0), (3, 0, 0, 0), (0, 0, 0, 310), (1, 9, 0, 0), (6, 0, 0, 0), (0, 0, 0, 100), (40, 77, 0, 156), (28, 0, 0, 0), (3, 2, 0, 0), (0, 0, 0, 9), (1, 9, 0, 0), (8, 0, 0, 0), (0, 0, 0, 2), (6, 0, 0, 0), (3, 0, 0, 0), (0, 0, 0, 320), (1, 9, 0, 0), (6, 0, 0, 0), (0, 0, 0, 2), (40, 77, 0, 156), (28, 0, 0, 0), (3, 1, 0, 0), (3, 2, 0, 0), (0, 0, 0, 9), (1, 9, 0, 0), (8, 0, 0, 0), (27, 0, 0, 0), (3, 2, 0, 0), (0, 0, 0, 9), (1, 9, 0, 0), (8, 0, 0, 0), (0, 0, 0, 1), (6, 0, 0, 0), (27, 0, 0, 0), (3, 2, 0, 0), (0, 0, 0, 9), (1, 9, 0, 0), (8, 0, 0, 0), (0, 0, 0, 2), (6, 0, 0, 0), (27, 0, 0, 0), (41, 33, 0, 160), (1, 9, 0, 0), (18, 102, 1, 0), (0, 0, 0, 1), (16, 103, 0, 0), (0, 0, 0, 0), (2, 8, 0, 0), (5, 9, 0, 1), (16, 35, 0, 0), (0, 0, 0, 0), (2, 9, 0, 0), (1, 9, 0, 0), (0, 0, 0, 70), (18, 218, 3, 0), (1, 8, 0, 0), (17, 218, 0, 0), (3, 0, 0, 0), (0, 0, 0, 2), (1, 9, 0, 0), (8, 0, 0, 0), (0, 0, 0, 32), (40, 77, 0, 156), (2, 10, 0, 0), (3, 0, 0, 0), (0, 0, 0, 2), (1, 9, 0, 0), (8, 0, 0, 0), (0, 0, 0, 1), (6, 0, 0, 0), (0, 0, 163, 1000000000), (40, 77, 0, 156), (2, 11, 0, 0), (1, 10, 0, 0), (0, 0, 0, 11), (18, 141, 3, 0), (3, 1, 0, 0), (3, 2, 0, 0), (3, 4, 0, 0), (3, 6, 0, 0), (3, 7, 0, 0), (1, 11, 0, 0), (40, 85, 0, 164), (2, 8, 0, 0), (16, 198, 0, 0), (1, 10, 0, 0), (0, 0, 0, 15), (18, 151, 3, 0), (3, 1, 0, 0), (3, 2, 0, 0), (3, 7, 0, 0), (1, 11, 0, 0), (40, 97, 0, 168), (2, 8, 0, 0), (16, 198, 0, 0), (1, 10, 0, 0), (0, 0, 0, 17), (18, 163, 3, 0), (3, 1, 0, 0), (3, 2, 0, 0), (3, 3, 0, 0), (3, 4, 0, 0), (3, 6, 0, 0), (3, 7, 0, 0), (40, 92, 0, 172), (2, 8, 0, 0), (16, 198, 0, 0), (1, 10, 0, 0), (0, 0, 0, 24), (18, 184, 3, 0), (3, 1, 0, 0), (3, 2, 0, 0), (3, 3, 0, 0), (3, 4, 0, 0), (3, 6, 0, 0), (3, 7, 0, 0), (1, 10, 0, 0), (0, 0, 0, 19), (18, 177, 3, 0), (0, 0, 0, 2), (16, 180, 0, 0), (1, 10, 0, 0), (0, 0, 0, 19), (7, 0, 0, 0), (1, 11, 0, 0), (40, 98, 0, 176), (2, 8, 0, 0), (16, 198, 0, 0), (3, 1, 0, 0), (3, 2, 0, 0), (3, 3, 0, 0), (3, 5, 0, 0), (3, 6, 0, 0), (3, 7, 0, 0), (1, 10, 0, 0), (0, 0, 0, 29), (18, 195, 3, 0), (0, 0, 0, 1), (16, 196, 0, 0), (0, 0, 0, 0), (40, 99, 0, 180), (2, 8, 0, 0), (1, 8, 0, 0), (17, 214, 0, 0), (3, 1, 0, 0), (3, 2, 0, 0), (3, 3, 0, 0), (3, 4, 0, 0), (3, 5, 0, 0), (3, 6, 0, 0), (3, 7, 0, 0), (1, 11, 0, 0), (0, 0, 0, 3), (9, 0, 0, 0), (40, 96, 0, 184), (17, 214, 0, 0), (0, 0, 0, 1), (16, 215, 0, 0), (0, 0, 0, 0), (2, 8, 0, 0), (5, 9, 0, 1), (16, 108, 0, 0), (1, 8, 0, 0), (45, 0, 0, 0)]
def pg_p100 : List Nat := [0, 3, 4, 7, 8, 10, 12, 13, 15, 17, 18, 20, 22, 24, 26, 28, 30, 32, 34, 36, 38, 40, 42, 43, 46, 49, 50, 53, 54, 57, 58, 61, 62, 64, 65, 67, 69, 71, 74, 76, 79, 80, 82, 84, 85, 86, 89, 91, 92, 94, 97, 98, 99, 101, 103, 104, 105, 106, 107, 110, 112, 113, 115, 118, 119, 120, 122, 124, 125, 126, 127, 128, 131, 133, 134, 135, 138, 139, 140, 141, 143, 145, 146, 147, 148, 150, 152, 153, 154, 155, 156, 157, 159, 161, 162, 163, 164, 165, 168, 170, 173, 174, 177, 178, 180, 183, 186, 187, 189, 191, 193, 196, 198, 201, 202, 203, 205, 206, 208, 211, 213, 214, 215, 217, 218, 219, 220, 222, 225, 227, 229, 231, 234, 235, 236, 238, 240, 242, 244, 247, 249, 252, 254, 256, 259, 260, 261, 263, 265, 268, 270, 273, 275, 277, 280, 281, 282, 283, 285, 287, 289, 292, 294, 297, 299, 301, 304, 305, 306, 307, 309, 311, 313, 315, 317, 320, 321, 324, 326, 328, 329, 331, 334, 336, 339, 340, 341, 342, 344, 346, 348, 350, 352, 355, 356, 359, 360, 363, 365, 367, 370, 371, 372, 373, 375, 377, 379, 381, 383, 384, 385, 388, 391, 392, 395, 396, 398, 401, 404, 406]
def pg_w100 : List (List Nat) := [[43, 44, 20], [], [45], [], [], [174], [], [], [174], [], [], [174], [], [], [174], [], [], [174], [], [], [174], [], [], [286], [], [], [286], [], [], [], [], [], [], [], [], [], [], [], [], [], [], [], [], [], [], [], [], [], [], [358], [], [], [], [], [], [], [], [], [], [], [], [], [358], [], [], [], [], [], [], [], [], [], [], [], [], [358], [], [], [], [], [], [], [], [], [], [], [], [], [], [], [], [], [], [], [], [], [], [363], [], [], [], [], [], [], [], [], [], [], [], [], [], [], [], [], [], [], [], [], [358], [], [], [], [], [], [], [], [387], [358], [], [], [], [], [], [], [], [], [], [], [388], [], [], [], [], [], [], [], [], [], [481], [], [], [], [], [], [], [], [], [], [], [], [512], [], [], [], [], [], [], [], [], [], [], [], [], [], [], [], [], [], [], [], [], [592], [], [], [], [], [], [], [], [], [], [], [], [], [], [], [642], [], [], [], [], [], [], [], [], [], [], [], [], [], [683], [], [], [], [], [], [], [], [], []]
/-- 101: KayfabeRingLaw.isHeld([I)Z -/
def pg_c101 : List RI := [(3, 0, 0, 0), (40, 100, 0, 188), (45, 0, 0, 0), (4, 1, 0, 0), (0, 0, 0, 0), (45, 0, 0, 0), (4, 1, 0, 0), (0, 0, 0, 0), (45, 0, 0, 0), (4, 1, 0, 0), (0, 0, 0, 0), (45, 0, 0, 0)]
def pg_p101 : List Nat := [0, 1, 4, 5, 6, 7, 8, 9, 10, 11, 12, 13]
def pg_w101 : List (List Nat) := [[], [40], [], [], [], [], [], [], [], [], [], []]
/-- 102: KayfabeRingLaw.law([I)Z -/
def pg_c102 : List RI := [(3, 0, 0, 0), (40, 101, 0, 198), (45, 0, 0, 0)]
def pg_p102 : List Nat := [0, 1, 4]
def pg_w102 : List (List Nat) := [[], [34], []]
def pg_cs : List (List RI) := [pg_c0, pg_c1, pg_c2, pg_c3, pg_c4, pg_c5, pg_c6, pg_c7, pg_c8, pg_c9, pg_c10, pg_c11, pg_c12, pg_c13, pg_c14, pg_c15, pg_c16, pg_c17, pg_c18, pg_c19, pg_c20, pg_c21, pg_c22, pg_c23, pg_c24, pg_c25, pg_c26, pg_c27, pg_c28, pg_c29, pg_c30, pg_c31, pg_c32, pg_c33, pg_c34, pg_c35, pg_c36, pg_c37, pg_c38, pg_c39, pg_c40, pg_c41, pg_c42, pg_c43, pg_c44, pg_c45, pg_c46, pg_c47, pg_c48, pg_c49, pg_c50, pg_c51, pg_c52, pg_c53, pg_c54, pg_c55, pg_c56, pg_c57, pg_c58, pg_c59, pg_c60, pg_c61, pg_c62, pg_c63, pg_c64, pg_c65, pg_c66, pg_c67, pg_c68, pg_c69, pg_c70, pg_c71, pg_c72, pg_c73, pg_c74, pg_c75, pg_c76, pg_c77, pg_c78, pg_c79, pg_c80, pg_c81, pg_c82, pg_c83, pg_c84, pg_c85, pg_c86, pg_c87, pg_c88, pg_c89, pg_c90, pg_c91, pg_c92, pg_c93, pg_c94, pg_c95, pg_c96, pg_c97, pg_c98, pg_c99, pg_c100, pg_c101, pg_c102]
def pg_ps : List (List Nat) := [pg_p0, pg_p1, pg_p2, pg_p3, pg_p4, pg_p5, pg_p6, pg_p7, pg_p8, pg_p9, pg_p10, pg_p11, pg_p12, pg_p13, pg_p14, pg_p15, pg_p16, pg_p17, pg_p18, pg_p19, pg_p20, pg_p21, pg_p22, pg_p23, pg_p24, pg_p25, pg_p26, pg_p27, pg_p28, pg_p29, pg_p30, pg_p31, pg_p32, pg_p33, pg_p34, pg_p35, pg_p36, pg_p37, pg_p38, pg_p39, pg_p40, pg_p41, pg_p42, pg_p43, pg_p44, pg_p45, pg_p46, pg_p47, pg_p48, pg_p49, pg_p50, pg_p51, pg_p52, pg_p53, pg_p54, pg_p55, pg_p56, pg_p57, pg_p58, pg_p59, pg_p60, pg_p61, pg_p62, pg_p63, pg_p64, pg_p65, pg_p66, pg_p67, pg_p68, pg_p69, pg_p70, pg_p71, pg_p72, pg_p73, pg_p74, pg_p75, pg_p76, pg_p77, pg_p78, pg_p79, pg_p80, pg_p81, pg_p82, pg_p83, pg_p84, pg_p85, pg_p86, pg_p87, pg_p88, pg_p89, pg_p90, pg_p91, pg_p92, pg_p93, pg_p94, pg_p95, pg_p96, pg_p97, pg_p98, pg_p99, pg_p100, pg_p101, pg_p102]
def pg_ws : List (List (List Nat)) := [pg_w0, pg_w1, pg_w2, pg_w3, pg_w4, pg_w5, pg_w6, pg_w7, pg_w8, pg_w9, pg_w10, pg_w11, pg_w12, pg_w13, pg_w14, pg_w15, pg_w16, pg_w17, pg_w18, pg_w19, pg_w20, pg_w21, pg_w22, pg_w23, pg_w24, pg_w25, pg_w26, pg_w27, pg_w28, pg_w29, pg_w30, pg_w31, pg_w32, pg_w33, pg_w34, pg_w35, pg_w36, pg_w37, pg_w38, pg_w39, pg_w40, pg_w41, pg_w42, pg_w43, pg_w44, pg_w45, pg_w46, pg_w47, pg_w48, pg_w49, pg_w50, pg_w51, pg_w52, pg_w53, pg_w54, pg_w55, pg_w56, pg_w57, pg_w58, pg_w59, pg_w60, pg_w61, pg_w62, pg_w63, pg_w64, pg_w65, pg_w66, pg_w67, pg_w68, pg_w69, pg_w70, pg_w71, pg_w72, pg_w73, pg_w74, pg_w75, pg_w76, pg_w77, pg_w78, pg_w79, pg_w80, pg_w81, pg_w82, pg_w83, pg_w84, pg_w85, pg_w86, pg_w87, pg_w88, pg_w89, pg_w90, pg_w91, pg_w92, pg_w93, pg_w94, pg_w95, pg_w96, pg_w97, pg_w98, pg_w99, pg_w100, pg_w101, pg_w102]
/-- name, bytes, locals, answer, handlers as the words have them -/
abbrev PM : Type := MethodName × ByteArray × Nat × Option FieldType × List (Nat × Nat × Nat × Nat)
def pg_m0 : PM := (⟨"", "", ""⟩, ⟨#[]⟩, 0, none, [])
def pg_ms : List PM := [(yX0_init, cX0_init, 2, (none), []),
  (yX0_hasMatch, cX0_hasMatch, 2, (some .boolean), []),
  (yX0_hasRoom, cX0_hasRoom, 3, (some .boolean), []),
  (yX0_hasWrestler, cX0_hasWrestler, 3, (some .boolean), []),
  (yX0_hasTitle, cX0_hasTitle, 3, (some .boolean), []),
  (yX0_allMinutes, cX0_allMinutes, 3, (some .int), []),
  (yX0_winsOf, cX0_winsOf, 6, (some .int), []),
  (yX0_remove, cX0_remove, 4, (none), []),
  (yX1_init, cX1_init, 1, (none), []),
  (yX1_become, cX1_become, 6, (none), []),
  (yX1_winner, cX1_winner, 1, (some .int), []),
  (yX1_loser, cX1_loser, 1, (some .int), []),
  (yX2_init, cX2_init, 1, (none), []),
  (yX2_lookAt, cX2_lookAt, 6, (none), []),
  (yX2_lookAtSeat, cX2_lookAtSeat, 3, (none), []),
  (yX2_findBest, cX2_findBest, 1, (some .int), []),
  (yX2_fillFrom, cX2_fillFrom, 7, (none), []),
  (yX2_keepIfBetter, cX2_keepIfBetter, 3, (none), []),
  (yX2_isBarred, cX2_isBarred, 6, (some .boolean), []),
  (yX2_carryOut, cX2_carryOut, 5, (some .int), []),
  (yX2_tryAllWays, cX2_tryAllWays, 4, (some .int), []),
  (yX2_goToNextWay, cX2_goToNextWay, 2, (some .boolean), []),
  (yX2_sumOfWay, cX2_sumOfWay, 4, (some .int), []),
  (yX2_isAllowed, cX2_isAllowed, 5, (some .boolean), []),
  (yX3_init, cX3_init, 1, (none), []),
  (yX3_goTo, cX3_goTo, 3, (none), []),
  (yX4_init, cX4_init, 1, (none), []),
  (yX4_isHurtOn, cX4_isHurtOn, 2, (some .boolean), []),
  (yX4_isBarredFromLosing, cX4_isBarredFromLosing, 3, (some .boolean), []),
  (yX4_worthIn, cX4_worthIn, 2, (some .int), []),
  (yX4_addLove, cX4_addLove, 3, (none), []),
  (yX4_turn, cX4_turn, 4, (none), []),
  (yX5_init, cX5_init, 2, (none), []),
  (yX5_wrestler, cX5_wrestler, 5, (some .int), []),
  (yX5_title, cX5_title, 1, (some .int), []),
  (yX5_clause, cX5_clause, 6, (some .int), []),
  (yX5_protect, cX5_protect, 4, (some .int), []),
  (yX5_book, cX5_book, 12, (some .int), []),
  (yX5_strike, cX5_strike, 4, (some .int), []),
  (yX5_shoot, cX5_shoot, 4, (some .boolean), []),
  (yX5_hurt, cX5_hurt, 3, (some .int), []),
  (yX5_head, cX5_head, 3, (some .int), []),
  (yX5_mend, cX5_mend, 2, (some .int), []),
  (yX5_play, cX5_play, 4, (some .int), []),
  (yX5_promo, cX5_promo, 6, (some .int), []),
  (yX5_pass, cX5_pass, 3, (some .int), []),
  (yX5_day, cX5_day, 1, (some .int), []),
  (yX5_ofWrestler, cX5_ofWrestler, 4, (some .int), []),
  (yX5_love, cX5_love, 3, (some .int), []),
  (yX5_worth, cX5_worth, 3, (some .int), []),
  (yX5_ofCard, cX5_ofCard, 4, (some .int), []),
  (yX5_ofMatch, cX5_ofMatch, 6, (some .int), []),
  (yX5_lineage, cX5_lineage, 4, (some .int), []),
  (yX5_champion, cX5_champion, 2, (some .int), []),
  (yX5_beat, cX5_beat, 3, (some .int), []),
  (yX5_beatAnew, cX5_beatAnew, 6, (some .int), []),
  (yX5_gate, cX5_gate, 2, (some .int), []),
  (yX5_mending, cX5_mending, 1, (some .int), []),
  (yX5_mendingAnew, cX5_mendingAnew, 1, (some .int), []),
  (yX5_isWithin, cX5_isWithin, 3, (some .boolean), []),
  (yX5_isWrestler, cX5_isWrestler, 2, (some .boolean), []),
  (yX5_isTitle, cX5_isTitle, 2, (some .boolean), []),
  (yX5_isTown, cX5_isTown, 1, (some .boolean), []),
  (yX5_cardOf, cX5_cardOf, 2, (some (.object "KayfabeRing$Card")), []),
  (yX5_cardToBook, cX5_cardToBook, 2, (some (.object "KayfabeRing$Card")), []),
  (yX5_isAtStake, cX5_isAtStake, 5, (some .boolean), []),
  (yX5_injure, cX5_injure, 4, (some .int), []),
  (yX5_vacateTitlesOf, cX5_vacateTitlesOf, 3, (none), []),
  (yX5_hasHurtOnes, cX5_hasHurtOnes, 4, (some .boolean), []),
  (yX5_playMatch, cX5_playMatch, 6, (some .int), []),
  (yX5_decide, cX5_decide, 6, (none), []),
  (yX5_handOver, cX5_handOver, 3, (none), []),
  (yX5_mendersView, cX5_mendersView, 2, (some (.object "KayfabeRing$Mender")), []),
  (yJ9_abs_0f7a4, cJ9_abs_0f7a4, 1, (some .int), []),
  (yJ9_max_7cf53, cJ9_max_7cf53, 2, (some .int), []),
  (yJ9_min_7cf53, cJ9_min_7cf53, 2, (some .int), []),
  (yJ7_fill_53178, cJ7_fill_53178, 4, (none), []),
  (yL_from, cL_from, 4, (some .int), []),
  (yL_slot, cL_slot, 2, (some .int), []),
  (yL_many, cL_many, 2, (some .int), []),
  (yL_isHurt, cL_isHurt, 3, (some .boolean), []),
  (yL_worth, cL_worth, 6, (some .int), []),
  (yL_isBarred, cL_isBarred, 5, (some .boolean), []),
  (yL_isOn, cL_isOn, 7, (some .boolean), []),
  (yL_crown, cL_crown, 3, (none), []),
  (yL_isBooked, cL_isBooked, 17, (some .boolean), []),
  (yL_strike, cL_strike, 6, (none), []),
  (yL_opens, cL_opens, 6, (some .int), []),
  (yL_count, cL_count, 3, (some .int), []),
  (yL_sumOf, cL_sumOf, 15, (some .int), []),
  (yL_isAhead, cL_isAhead, 4, (some .boolean), []),
  (yL_best, cL_best, 14, (some .int), []),
  (yL_isMended, cL_isMended, 13, (some .boolean), []),
  (yL_love, cL_love, 5, (none), []),
  (yL_turn, cL_turn, 6, (none), []),
  (yL_played, cL_played, 14, (some .int), []),
  (yL_isSame, cL_isSame, 20, (some .boolean), []),
  (yL_isHurted, cL_isHurted, 9, (some .boolean), []),
  (yL_isTold, cL_isTold, 13, (some .boolean), []),
  (yL_isPassed, cL_isPassed, 10, (some .boolean), []),
  (yL_holds, cL_holds, 12, (some .boolean), []),
  (yL_isHeld, cL_isHeld, 2, (some .boolean), [(0, 4, 5, 192), (0, 4, 8, 194), (0, 4, 11, 196)]),
  (yL_law, cL_law, 1, (some .boolean), [])]
/-- is it static, how many arguments (this too), its class in vwCl, places of its words: code, static or instanceMethod, initialized, selects -/
abbrev PQ : Type := Bool × Nat × Nat × Nat × Nat × Nat × Nat
def pg_q0 : PQ := (true, 0, 99, 0, 0, 0, 0)
def pg_qs : List PQ := [(false, 1, 0, 60, 59, 21, 9999), (false, 2, 0, 634, 632, 21, 633), (false, 3, 0, 446, 444, 21, 445), (false, 2, 0, 454, 452, 21, 453), (false, 2, 0, 458, 456, 21, 457), (false, 1, 0, 450, 448, 21, 449), (false, 3, 0, 714, 712, 21, 713), (false, 2, 0, 591, 589, 21, 590), (false, 1, 1, 67, 66, 22, 9999), (false, 6, 1, 480, 478, 22, 479), (false, 1, 1, 665, 663, 22, 664), (false, 1, 1, 669, 667, 22, 668), (false, 1, 2, 125, 124, 23, 9999), (false, 5, 2, 549, 547, 23, 548), (false, 3, 2, 553, 552, 23, 9), (false, 1, 2, 568, 566, 23, 567), (true, 3, 2, 571, 570, 23, 9999), (false, 2, 2, 575, 574, 23, 10), (false, 2, 2, 579, 578, 23, 11), (false, 1, 2, 584, 582, 23, 583), (false, 1, 2, 752, 750, 23, 751), (false, 1, 2, 767, 766, 23, 18), (false, 1, 2, 758, 757, 23, 16), (false, 2, 2, 762, 761, 23, 17), (false, 1, 3, 239, 238, 26, 9999), (false, 3, 3, 506, 504, 26, 505), (false, 1, 4, 179, 178, 24, 9999), (false, 2, 4, 463, 461, 24, 462), (false, 3, 4, 471, 469, 24, 470), (false, 2, 4, 559, 557, 24, 558), (false, 3, 4, 621, 619, 24, 620), (false, 1, 4, 626, 624, 24, 625), (false, 1, 5, 47, 46, 20, 9999), (false, 4, 5, 366, 364, 20, 365), (false, 1, 5, 289, 287, 20, 288), (false, 4, 5, 598, 596, 20, 597), (false, 3, 5, 603, 601, 20, 602), (false, 8, 5, 410, 408, 20, 409), (false, 3, 5, 640, 638, 20, 639), (false, 2, 5, 630, 628, 20, 629), (false, 3, 5, 510, 508, 20, 509), (false, 2, 5, 490, 488, 20, 489), (false, 1, 5, 540, 538, 20, 539), (false, 1, 5, 651, 649, 20, 650), (false, 4, 5, 614, 612, 20, 613), (false, 1, 5, 681, 679, 20, 680), (false, 1, 5, 689, 687, 20, 688), (false, 3, 5, 693, 691, 20, 692), (false, 3, 5, 698, 696, 20, 697), (false, 3, 5, 702, 700, 20, 701), (false, 3, 5, 739, 737, 20, 738), (false, 4, 5, 735, 733, 20, 734), (false, 4, 5, 730, 728, 20, 729), (false, 2, 5, 725, 723, 20, 724), (false, 3, 5, 706, 704, 20, 705), (false, 3, 5, 710, 708, 20, 709), (false, 2, 5, 720, 718, 20, 719), (false, 1, 5, 744, 742, 20, 743), (false, 1, 5, 748, 746, 20, 747), (true, 3, 5, 369, 368, 20, 9999), (false, 2, 5, 417, 416, 20, 1), (false, 2, 5, 421, 420, 20, 2), (true, 1, 5, 413, 412, 20, 9999), (false, 2, 5, 442, 441, 20, 3), (false, 2, 5, 476, 475, 20, 5), (false, 4, 5, 467, 466, 20, 4), (false, 3, 5, 495, 494, 20, 6), (false, 2, 5, 502, 501, 20, 7), (false, 2, 5, 655, 654, 20, 12), (false, 3, 5, 660, 659, 20, 13), (false, 4, 5, 673, 672, 20, 14), (false, 2, 5, 677, 676, 20, 15), (false, 1, 5, 544, 543, 20, 8), (true, 1, 99, 562, 561, 33, 9999), (true, 2, 99, 498, 497, 33, 9999), (true, 2, 99, 587, 586, 33, 9999), (true, 2, 99, 183, 182, 25, 9999), (true, 3, 99, 360, 359, 19, 9999), (true, 2, 99, 400, 399, 19, 9999), (true, 2, 99, 393, 392, 19, 9999), (true, 3, 99, 403, 402, 19, 9999), (true, 4, 99, 530, 529, 19, 9999), (true, 5, 99, 406, 405, 19, 9999), (true, 4, 99, 397, 396, 19, 9999), (true, 3, 99, 486, 485, 19, 9999), (true, 6, 99, 390, 389, 19, 9999), (true, 4, 99, 536, 535, 19, 9999), (true, 3, 99, 517, 516, 19, 9999), (true, 1, 99, 520, 519, 19, 9999), (true, 7, 99, 527, 526, 19, 9999), (true, 2, 99, 533, 532, 19, 9999), (true, 6, 99, 523, 522, 19, 9999), (true, 6, 99, 514, 513, 19, 9999), (true, 4, 99, 607, 606, 19, 9999), (true, 3, 99, 610, 609, 19, 9999), (true, 6, 99, 647, 646, 19, 9999), (true, 8, 99, 685, 684, 19, 9999), (true, 4, 99, 483, 482, 19, 9999), (true, 8, 99, 594, 593, 19, 9999), (true, 7, 99, 644, 643, 19, 9999), (true, 1, 99, 42, 41, 19, 9999), (true, 1, 99, 36, 35, 19, 9999), (true, 1, 99, 0, 0, 19, 9999)]
/-- handlers: from, to, the instruction by number, the exception by number, its pc, its class link, the place of that word -/
def pg_hs : List (List (Nat × Nat × Nat × Nat × Nat × Nat × Nat)) := [[], [], [], [], [], [], [], [], [], [], [], [], [], [], [], [], [], [], [], [], [], [], [], [], [], [], [], [], [], [], [], [], [], [], [], [], [], [], [], [], [], [], [], [], [], [], [], [], [], [], [], [], [], [], [], [], [], [], [], [], [], [], [], [], [], [], [], [], [], [], [], [], [], [], [], [], [], [], [], [], [], [], [], [], [], [], [], [], [], [], [], [], [], [], [], [], [], [], [], [], [], [(0, 4, 3, 3, 5, 192, 37), (0, 4, 6, 1, 8, 194, 38), (0, 4, 9, 2, 11, 196, 39)], []]
def pg_sw : List (Int × Int × Nat × List Nat) := [(0, 6, 44, [16, 19, 22, 32, 35, 38, 41]), (0, 3, 37, [16, 24, 27, 30]), (0, 5, 50, [20, 23, 26, 37, 40, 43])]
def pg_st : List (String × Nat × String) := [("KayfabeRing", 51, "skill, mic or role is out of range"), ("KayfabeRing", 62, "the roster is full"), ("KayfabeRing", 77, "there are all titles"), ("KayfabeRing", 85, "no such wrestler"), ("KayfabeRing", 88, "both are the same, or until is out of range"), ("KayfabeRing", 93, "day is out of range"), ("KayfabeRing", 104, "no such town, wrestler or title"), ("KayfabeRing", 109, "day or minutes is out of range, or both are the same"), ("KayfabeRing", 125, "the card can't take this match"), ("KayfabeRing", 136, "one is hurt or barred, or the champion is neither"), ("KayfabeRing", 160, "no such match"), ("KayfabeRing", 166, "the card is played"), ("KayfabeRing", 175, "days is out of range"), ("KayfabeRing", 199, "there is no card, it is played, or somebody on it is hurt"), ("KayfabeRing", 205, "no such town or wrestler"), ("KayfabeRing", 207, "slips is out of range"), ("KayfabeRing", 212, "that one is hurt, or said a promo today"), ("KayfabeRing", 229, "it is the last day"), ("KayfabeRing", 246, "what is out of range"), ("KayfabeRing", 273, "no such title, or not so much in its lineage"), ("KayfabeRing", 281, "no such title"), ("KayfabeRing", 292, "no such town"), ("KayfabeRing", 314, "there is no card, or it is played"), ("KayfabeRing", 323, "too many places are open")]
def pg_ex (e : Nat) : String := match e with
  | 1 => "java/lang/IllegalArgumentException"
  | 2 => "java/lang/IllegalStateException"
  | _ => "java/lang/IndexOutOfBoundsException"
def pg_nm (y : Nat) : MethodName := (pg_ms.getD y pg_m0).1
def pg_by (y : Nat) : ByteArray := (pg_ms.getD y pg_m0).2.1
def pg_ml (y : Nat) : Nat := (pg_ms.getD y pg_m0).2.2.1
def pg_rt (y : Nat) : Option FieldType := (pg_ms.getD y pg_m0).2.2.2.1
def pg_hh (y : Nat) : List (Nat × Nat × Nat × Nat) := (pg_ms.getD y pg_m0).2.2.2.2
def pg_hx (y : Nat) : List (Nat × Nat × Nat × Nat × Nat × Nat × Nat) := pg_hs.getD y []
def pg_sta (y : Nat) : Bool := (pg_qs.getD y pg_q0).1
def pg_na (y : Nat) : Nat := (pg_qs.getD y pg_q0).2.1
def pg_cl (y : Nat) : Nat := (pg_qs.getD y pg_q0).2.2.1
def pg_at (y i : Nat) : Option RI := (pg_cs.getD y [])[i]?
def pg_pc (y i : Nat) : Nat := (pg_ps.getD y []).getD i 0
def pg_wd (y i : Nat) : List Nat := (pg_ws.getD y []).getD i []
def pg_cstL : List Nat := [49, 0, 0, 0, 0, 0, 0, 0, 0, 0, 0, 0, 140, 0, 0, 0, 0, 0, 0, 0, 0, 0, 0, 0, 1026, 0, 27, 0, 0, 0, 0, 0, 6000, 7, 7, 7, 7, 61, 7, 7, 7, 7, 7, 7, 7, 7, 0, 7, 7, 7, 7, 7, 7, 7, 7, 7, 7, 7, 7, 0, 0, 0, 0, 0, 54, 0, 0, 0, 0, 0, 0, 0, 7, 0, 0, 0, 0, 0, 0, 0, 0, 0, 0, 0, 0, 61, 0, 0, 0, 0, 0, 0, 7, 0, 0, 0, 1000, 14, 35, 14, 100000, 100000, 100000]
def pg_cst (y : Nat) : Nat := pg_cstL.getD y 0
abbrev N_X0_init : Nat := 0
abbrev N_X0_hasMatch : Nat := 1
abbrev N_X0_hasRoom : Nat := 2
abbrev N_X0_hasWrestler : Nat := 3
abbrev N_X0_hasTitle : Nat := 4
abbrev N_X0_allMinutes : Nat := 5
abbrev N_X0_winsOf : Nat := 6
abbrev N_X0_remove : Nat := 7
abbrev N_X1_init : Nat := 8
abbrev N_X1_become : Nat := 9
abbrev N_X1_winner : Nat := 10
abbrev N_X1_loser : Nat := 11
abbrev N_X2_init : Nat := 12
abbrev N_X2_lookAt : Nat := 13
abbrev N_X2_lookAtSeat : Nat := 14
abbrev N_X2_findBest : Nat := 15
abbrev N_X2_fillFrom : Nat := 16
abbrev N_X2_keepIfBetter : Nat := 17
abbrev N_X2_isBarred : Nat := 18
abbrev N_X2_carryOut : Nat := 19
abbrev N_X2_tryAllWays : Nat := 20
abbrev N_X2_goToNextWay : Nat := 21
abbrev N_X2_sumOfWay : Nat := 22
abbrev N_X2_isAllowed : Nat := 23
abbrev N_X3_init : Nat := 24
abbrev N_X3_goTo : Nat := 25
abbrev N_X4_init : Nat := 26
abbrev N_X4_isHurtOn : Nat := 27
abbrev N_X4_isBarredFromLosing : Nat := 28
abbrev N_X4_worthIn : Nat := 29
abbrev N_X4_addLove : Nat := 30
abbrev N_X4_turn : Nat := 31
abbrev N_X5_init : Nat := 32
abbrev N_X5_wrestler : Nat := 33
abbrev N_X5_title : Nat := 34
abbrev N_X5_clause : Nat := 35
abbrev N_X5_protect : Nat := 36
abbrev N_X5_book : Nat := 37
abbrev N_X5_strike : Nat := 38
abbrev N_X5_shoot : Nat := 39
abbrev N_X5_hurt : Nat := 40
abbrev N_X5_head : Nat := 41
abbrev N_X5_mend : Nat := 42
abbrev N_X5_play : Nat := 43
abbrev N_X5_promo : Nat := 44
abbrev N_X5_pass : Nat := 45
abbrev N_X5_day : Nat := 46
abbrev N_X5_ofWrestler : Nat := 47
abbrev N_X5_love : Nat := 48
abbrev N_X5_worth : Nat := 49
abbrev N_X5_ofCard : Nat := 50
abbrev N_X5_ofMatch : Nat := 51
abbrev N_X5_lineage : Nat := 52
abbrev N_X5_champion : Nat := 53
abbrev N_X5_beat : Nat := 54
abbrev N_X5_beatAnew : Nat := 55
abbrev N_X5_gate : Nat := 56
abbrev N_X5_mending : Nat := 57
abbrev N_X5_mendingAnew : Nat := 58
abbrev N_X5_isWithin : Nat := 59
abbrev N_X5_isWrestler : Nat := 60
abbrev N_X5_isTitle : Nat := 61
abbrev N_X5_isTown : Nat := 62
abbrev N_X5_cardOf : Nat := 63
abbrev N_X5_cardToBook : Nat := 64
abbrev N_X5_isAtStake : Nat := 65
abbrev N_X5_injure : Nat := 66
abbrev N_X5_vacateTitlesOf : Nat := 67
abbrev N_X5_hasHurtOnes : Nat := 68
abbrev N_X5_playMatch : Nat := 69
abbrev N_X5_decide : Nat := 70
abbrev N_X5_handOver : Nat := 71
abbrev N_X5_mendersView : Nat := 72
abbrev N_J9_abs_0f7a4 : Nat := 73
abbrev N_J9_max_7cf53 : Nat := 74
abbrev N_J9_min_7cf53 : Nat := 75
abbrev N_J7_fill_53178 : Nat := 76
abbrev N_L_from : Nat := 77
abbrev N_L_slot : Nat := 78
abbrev N_L_many : Nat := 79
abbrev N_L_isHurt : Nat := 80
abbrev N_L_worth : Nat := 81
abbrev N_L_isBarred : Nat := 82
abbrev N_L_isOn : Nat := 83
abbrev N_L_crown : Nat := 84
abbrev N_L_isBooked : Nat := 85
abbrev N_L_strike : Nat := 86
abbrev N_L_opens : Nat := 87
abbrev N_L_count : Nat := 88
abbrev N_L_sumOf : Nat := 89
abbrev N_L_isAhead : Nat := 90
abbrev N_L_best : Nat := 91
abbrev N_L_isMended : Nat := 92
abbrev N_L_love : Nat := 93
abbrev N_L_turn : Nat := 94
abbrev N_L_played : Nat := 95
abbrev N_L_isSame : Nat := 96
abbrev N_L_isHurted : Nat := 97
abbrev N_L_isTold : Nat := 98
abbrev N_L_isPassed : Nat := 99
abbrev N_L_holds : Nat := 100
abbrev N_L_isHeld : Nat := 101
abbrev N_L_law : Nat := 102
end
section
/-! THE PURE MACHINE. A label names a cell (an object or a row); K: its kind and length; I: its numbers; R: its references. -/
abbrev Lb : Type := Nat × Nat × Nat
abbrev PV : Type := Int32 ⊕ (Int32 ⊕ (Option Lb ⊕ Unit))
abbrev pI (x : Int32) : PV := .inl x
abbrev pL (x : Int32) : PV := .inr (.inl x)
abbrev pR (r : Option Lb) : PV := .inr (.inr (.inl r))
abbrev pO : PV := .inr (.inr (.inr ()))
abbrev KM : Type := Lb → Option (Nat × Nat)
abbrev IM : Type := Lb → Nat → Int32
abbrev RM : Type := Lb → Nat → Option Lb
abbrev Res : Type := Option PV ⊕ Nat
abbrev QT : Type := Res → KM → IM → RM → Prop
abbrev XT : Type := Nat → Nat → Nat → Nat → List (Option PV) → List PV → KM → IM → RM → QT → Prop
def setK (K : KM) (L : Lb) (v : Nat × Nat) : KM := fun q => if q = L then some v else K q
def setI (I : IM) (L : Lb) (f : Nat → Int32) : IM := fun q => if q = L then f else I q
def setR (R : RM) (L : Lb) (f : Nat → Option Lb) : RM := fun q => if q = L then f else R q
abbrev up2 (I : IM) (L : Lb) (k : Nat) (x : Int32) : IM := setI I L (upd (I L) k x)
abbrev up2R (R : RM) (L : Lb) (k : Nat) (x : Option Lb) : RM := setR R L (va_up (R L) k x)
def cmpc (c : Nat) (x y : Int32) : Prop := match c with
  | 0 => x = y
  | 1 => ¬ x = y
  | 2 => x < y
  | 3 => y ≤ x
  | 4 => y < x
  | _ => x ≤ y
def isC1 (v : PV) : Prop := match v with
  | .inr (.inl _) => False
  | _ => True
/-- how many fields a class has; is a field a number; the class whose objects a row of references holds -/
def nfl (ci : Nat) : Nat := [4, 6, 14, 4, 14, 9, 0].getD ci 0
def elc (k : Nat) : Nat := match k with
  | 9 => 0
  | 10 => 1
  | 11 => 3
  | _ => 4
def entls (y : Nat) (as : List PV) : List (Option PV) := as.map some ++ List.replicate (pg_ml y - as.length) none
def hfind (y i e : Nat) : Option Nat := match (pg_hx y).find? (fun h => decide (h.1 ≤ pg_pc y i) && decide (pg_pc y i < h.2.1) && decide (h.2.2.2.1 = e)) with
  | some h => some h.2.2.1
  | none => none
def aft (X : XT) (d b y i : Nat) (ls : List (Option PV)) (rest : List PV) (Q : QT) : QT := fun r K I R => match r with
  | .inl none => X d b y (i + 1) ls rest K I R Q
  | .inl (some v) => X d b y (i + 1) ls (v :: rest) K I R Q
  | .inr e => match hfind y i e with
    | some h => X d b y h ls [pO] K I R Q
    | none => pg_hx y = [] ∧ Q (.inr e) K I R
def stA (X : XT) (op a c : Nat) (z : Int) (d b y i : Nat) (ls : List (Option PV)) (st : List PV) (K : KM) (I : IM) (R : RM) (Q : QT) : Prop := match op with
  | 0 => X d b y (i + 1) ls (pI (Int32.ofInt z) :: st) K I R Q
  | 1 => ∃ x, ls[a]? = some (some (pI x)) ∧ X d b y (i + 1) ls (pI x :: st) K I R Q
  | 2 => ∃ x r, st = pI x :: r ∧ a < ls.length ∧ X d b y (i + 1) (ls.set a (some (pI x))) r K I R Q
  | 3 => ∃ L, ls[a]? = some (some (pR (some L))) ∧ X d b y (i + 1) ls (pR (some L) :: st) K I R Q
  | 4 => ∃ v r, st = v :: r ∧ (v = pO ∨ ∃ L, v = pR (some L)) ∧ a < ls.length ∧ X d b y (i + 1) (ls.set a (some v)) r K I R Q
  | 5 => ∃ x, ls[a]? = some (some (pI x)) ∧ X d b y (i + 1) (ls.set a (some (pI (x + Int32.ofInt z)))) st K I R Q
  | 6 => ∃ u v r, st = pI v :: pI u :: r ∧ X d b y (i + 1) ls (pI (u + v) :: r) K I R Q
  | 7 => ∃ u v r, st = pI v :: pI u :: r ∧ X d b y (i + 1) ls (pI (u - v) :: r) K I R Q
  | 8 => ∃ u v r, st = pI v :: pI u :: r ∧ X d b y (i + 1) ls (pI (u * v) :: r) K I R Q
  | 9 => ∃ u v r, st = pI v :: pI u :: r ∧ ¬ v = 0 ∧ X d b y (i + 1) ls (pI (u / v) :: r) K I R Q
  | 10 => ∃ u v r, st = pI v :: pI u :: r ∧ ¬ v = 0 ∧ X d b y (i + 1) ls (pI (u - u / v * v) :: r) K I R Q
  | 11 => ∃ u r, st = pI u :: r ∧ X d b y (i + 1) ls (pI (-u) :: r) K I R Q
  | 12 => ∃ u v r, st = pI v :: pI u :: r ∧ X d b y (i + 1) ls (pI (u &&& v) :: r) K I R Q
  | 13 => ∃ v r, st = v :: r ∧ isC1 v ∧ X d b y (i + 1) ls (v :: v :: r) K I R Q
  | 14 => ∃ v w r, st = v :: w :: r ∧ isC1 v ∧ isC1 w ∧ X d b y (i + 1) ls (v :: w :: v :: w :: r) K I R Q
  | 15 => ∃ v r, st = v :: r ∧ isC1 v ∧ X d b y (i + 1) ls r K I R Q
  | 16 => X d b y a ls st K I R Q
  | 17 => ∃ x r, st = pI x :: r ∧ (cmpc c x 0 → X d b y a ls r K I R Q) ∧ (¬ cmpc c x 0 → X d b y (i + 1) ls r K I R Q)
  | 18 => ∃ u v r, st = pI v :: pI u :: r ∧ (cmpc c u v → X d b y a ls r K I R Q) ∧ (¬ cmpc c u v → X d b y (i + 1) ls r K I R Q)
  | 19 => ∃ q r, st = pR q :: r ∧ (¬ q = none → X d b y a ls r K I R Q) ∧ (q = none → X d b y (i + 1) ls r K I R Q)
  | 20 => ∃ x r, st = pI x :: r ∧ (∀ (k : Nat) (t : Nat), (pg_sw.getD a (0, 0, 0, [])).2.2.2[k]? = some t → x.toInt = (pg_sw.getD a (0, 0, 0, [])).1 + k → X d b y t ls r K I R Q) ∧ ((x.toInt < (pg_sw.getD a (0, 0, 0, [])).1 ∨ (pg_sw.getD a (0, 0, 0, [])).2.1 < x.toInt) → X d b y (pg_sw.getD a (0, 0, 0, [])).2.2.1 ls r K I R Q)
  | 21 => ∃ x r, st = pI x :: r ∧ X d b y (i + 1) ls (pL x :: r) K I R Q
  | 22 => ∃ u v r, st = pL v :: pL u :: r ∧ ∀ x : Int32, (x = 0 ↔ u = v) → X d b y (i + 1) ls (pI x :: r) K I R Q
  | 23 => (z = 0 ∨ z = 1) ∧ X d b y (i + 1) ls (pL (Int32.ofInt z) :: st) K I R Q
  | 54 => ∃ u v r, st = pI v :: pI u :: r ∧ X d b y (i + 1) ls (pI (u ||| v) :: r) K I R Q
  | 55 => ∃ u v r, st = pI v :: pI u :: r ∧ X d b y (i + 1) ls (pI (u ^^^ v) :: r) K I R Q
  | 56 => ∃ u v r, st = pI v :: pI u :: r ∧ X d b y (i + 1) ls (pI (u <<< (v &&& 31)) :: r) K I R Q
  | 57 => ∃ u v r, st = pI v :: pI u :: r ∧ X d b y (i + 1) ls (pI (u >>> (v &&& 31)) :: r) K I R Q
  | _ => False
def stB (X : XT) (op a c : Nat) (z : Int) (d b y i : Nat) (ls : List (Option PV)) (st : List PV) (K : KM) (I : IM) (R : RM) (Q : QT) : Prop := match op with
  | 24 => ∃ j L r n, st = pI j :: pR (some L) :: r ∧ K L = some (13, n) ∧ vp_in j n ∧ X d b y (i + 1) ls (pL (I L j.toNatClampNeg) :: r) K I R Q
  | 25 => ∃ x j L r n, st = pL x :: pI j :: pR (some L) :: r ∧ K L = some (13, n) ∧ vp_in j n ∧ X d b y (i + 1) ls r K (up2 I L j.toNatClampNeg x) R Q
  | 26 => ∃ L r k n, st = pR (some L) :: r ∧ K L = some (k, n) ∧ (k = 7 ∨ k = 14) ∧ X d b y (i + 1) ls (pI (Int32.ofNat n) :: r) K I R Q
  | 27 => ∃ j L r k n, st = pI j :: pR (some L) :: r ∧ K L = some (k, n) ∧ (k = 7 ∨ k = 14) ∧ vp_in j n ∧ X d b y (i + 1) ls (pI (I L j.toNatClampNeg) :: r) K I R Q
  | 28 => ∃ x j L r n, st = pI x :: pI j :: pR (some L) :: r ∧ K L = some (7, n) ∧ vp_in j n ∧ X d b y (i + 1) ls r K (up2 I L j.toNatClampNeg x) R Q
  | 29 => ∃ j L r n, st = pI j :: pR (some L) :: r ∧ K L = some (8, n) ∧ vp_in j n ∧ X d b y (i + 1) ls (pI (I L j.toNatClampNeg) :: r) K I R Q
  | 30 => ∃ x j L r n, st = pI x :: pI j :: pR (some L) :: r ∧ K L = some (8, n) ∧ vp_in j n ∧ (x = 0 ∨ x = 1) ∧ X d b y (i + 1) ls r K (up2 I L j.toNatClampNeg x) R Q
  | 31 => ∃ j L r k n, st = pI j :: pR (some L) :: r ∧ K L = some (k, n) ∧ (9 ≤ k ∧ k ≤ 12) ∧ vp_in j n ∧ X d b y (i + 1) ls (pR (R L j.toNatClampNeg) :: r) K I R Q
  | 32 => ∃ L' j L r k n n', st = pR (some L') :: pI j :: pR (some L) :: r ∧ K L = some (k, n) ∧ (9 ≤ k ∧ k ≤ 12) ∧ K L' = some (elc k, n') ∧ vp_in j n ∧ X d b y (i + 1) ls r K I (up2R R L j.toNatClampNeg (some L')) Q
  | 33 => ∃ L r n, st = pR (some L) :: r ∧ K L = some (a, n) ∧ X d b y (i + 1) ls (pI (I L c) :: r) K I R Q
  | 34 => ∃ L r n, st = pR (some L) :: r ∧ K L = some (a, n) ∧ X d b y (i + 1) ls (pR (R L c) :: r) K I R Q
  | 35 => ∃ x L r n, st = pI x :: pR (some L) :: r ∧ K L = some (a, n) ∧ X d b y (i + 1) ls r K (up2 I L c x) R Q
  | 36 => ∃ q L r n, st = pR (some q) :: pR (some L) :: r ∧ K L = some (a, n) ∧ X d b y (i + 1) ls r K I (up2R R L c (some q)) Q
  | 48 => ∃ L r n, st = pR (some L) :: r ∧ K L = some (a, n) ∧ X d b y (i + 1) ls (pI (I L c) :: r) K I R Q
  | 50 => ∃ x L r n, st = pI x :: pR (some L) :: r ∧ K L = some (a, n) ∧ (x = 0 ∨ x = 1) ∧ X d b y (i + 1) ls r K (up2 I L c x) R Q
  | _ => False
def stC (X : XT) (op a c : Nat) (_z : Int) (d b y i : Nat) (ls : List (Option PV)) (st : List PV) (K : KM) (I : IM) (R : RM) (Q : QT) : Prop := match op with
  | 37 => ∃ L b', K L = none ∧ b = b' + (1 + nfl a) ∧ X d b' y (i + 1) ls (pR (some L) :: st) (setK K L (a, 0)) (setI I L (fun _ => 0)) (setR R L (fun _ => none)) Q
  | 38 => ∃ L n r b', st = pI (Int32.ofNat n) :: r ∧ K L = none ∧ n < 1000000 ∧ b = b' + (1 + n) ∧ X d b' y (i + 1) ls (pR (some L) :: r) (setK K L (a, n)) (setI I L (fun _ => 0)) (setR R L (fun _ => none)) Q
  | 39 => ∃ L n r b', st = pI (Int32.ofNat n) :: r ∧ K L = none ∧ n < 1000000 ∧ b = b' + (1 + n) ∧ X d b' y (i + 1) ls (pR (some L) :: r) (setK K L (a, n)) (setI I L (fun _ => 0)) (setR R L (fun _ => none)) Q
  | 40 => ∃ as rest d' b' P, st = as.reverse ++ rest ∧ as.length = pg_na a ∧ (∀ v ∈ as, isC1 v) ∧ (rest.length ≤ 4 ∨ rest.length ≤ 8 ∧ ∀ v ∈ rest, isC1 v) ∧ d = d' + 1 ∧ b = b' + pg_cst a ∧ X d' (pg_cst a) a 0 (entls a as) [] K I R P ∧ ∀ r K' I' R', P r K' I' R' → aft X d b' y i ls rest Q r K' I' R'
  | 41 => ∃ L as rest d' b' n P, st = as.reverse ++ pR (some L) :: rest ∧ as.length + 1 = pg_na a ∧ (∀ v ∈ as, isC1 v) ∧ rest.length ≤ 4 ∧ K L = some (pg_cl a, n) ∧ d = d' + 1 ∧ b = b' + pg_cst a ∧ X d' (pg_cst a) a 0 (entls a (pR (some L) :: as)) [] K I R P ∧ ∀ r K' I' R', P r K' I' R' → aft X d b' y i ls rest Q r K' I' R'
  | 42 => ∃ L as rest d' b' n P, st = as.reverse ++ pR (some L) :: rest ∧ as.length + 1 = pg_na a ∧ (∀ v ∈ as, isC1 v) ∧ rest.length ≤ 4 ∧ K L = some (pg_cl a, n) ∧ d = d' + 1 ∧ b = b' + pg_cst a ∧ X d' (pg_cst a) a 0 (entls a (pR (some L) :: as)) [] K I R P ∧ ∀ r K' I' R', P r K' I' R' → (∃ v, r = .inl v) ∧ aft X d b' y i ls rest Q r K' I' R'
  | 43 => ∃ L r, st = pR (some L) :: r ∧ r.length ≤ 4 ∧ 1 ≤ d ∧ X d b y (i + 1) ls r K I R Q
  | 44 => st = [] ∧ pg_hx y = [] ∧ 6 ≤ d ∧ 7 ≤ b ∧ Q (.inr a) K I R
  | 45 => ∃ x, st = [pI x] ∧ (pg_rt y = some .boolean → x = 0 ∨ x = 1) ∧ Q (.inl (some (pI x))) K I R
  | 46 => ∃ L, st = [pR (some L)] ∧ Q (.inl (some (pR (some L)))) K I R
  | 47 => st = [] ∧ Q (.inl none) K I R
  | 51 => ∃ u v r, st = pI v :: pI u :: r ∧ r.length ≤ 4 ∧ 1 ≤ d ∧ X d b y (i + 1) ls (pI (if u < v then v else u) :: r) K I R Q
  | 52 => ∃ u v r, st = pI v :: pI u :: r ∧ r.length ≤ 4 ∧ 1 ≤ d ∧ X d b y (i + 1) ls (pI (if v < u then v else u) :: r) K I R Q
  | 53 => ∃ u r, st = pI u :: r ∧ r.length ≤ 4 ∧ 1 ≤ d ∧ X d b y (i + 1) ls (pI (if 0 ≤ u then u else 0 - u) :: r) K I R Q
  | _ => False
def Mst (X : XT) : XT := fun d b y i ls st K I R Q => ∃ op a c z, pg_at y i = some (op, a, c, z) ∧ (stA X op a c z d b y i ls st K I R Q ∨ stB X op a c z d b y i ls st K I R Q ∨ stC X op a c z d b y i ls st K I R Q)
/-- the least predicate that is closed under the steps -/
def Mw : XT := fun d b y i ls st K I R Q => ∀ X : XT, (∀ d b y i ls st K I R Q, Mst X d b y i ls st K I R Q → X d b y i ls st K I R Q) → X d b y i ls st K I R Q
theorem aft_mono {X Y : XT} (hm : ∀ d b y i ls st K I R Q, X d b y i ls st K I R Q → Y d b y i ls st K I R Q) {d b y i : Nat} {ls : List (Option PV)} {rest : List PV} {Q : QT} {r : Res} {K : KM} {I : IM} {R : RM} (h : aft X d b y i ls rest Q r K I R) : aft Y d b y i ls rest Q r K I R := by
  unfold aft at h ⊢
  match r, h with
  | .inl none, h => exact hm _ _ _ _ _ _ _ _ _ _ h
  | .inl (some v), h => exact hm _ _ _ _ _ _ _ _ _ _ h
  | .inr e, h =>
    dsimp only at h ⊢
    split
    · rename_i q hq
      rw [hq] at h
      exact hm _ _ _ _ _ _ _ _ _ _ h
    · rename_i hq
      rw [hq] at h
      exact h
set_option maxHeartbeats 4000000 in
theorem stA_mono {X Y : XT} (hm : ∀ d b y i ls st K I R Q, X d b y i ls st K I R Q → Y d b y i ls st K I R Q) {op a c : Nat} {z : Int} {d b y i : Nat} {ls : List (Option PV)} {st : List PV} {K : KM} {I : IM} {R : RM} {Q : QT} (h : stA X op a c z d b y i ls st K I R Q) : stA Y op a c z d b y i ls st K I R Q := by
  unfold stA at h ⊢
  split at h
  · exact hm _ _ _ _ _ _ _ _ _ _ h
  · obtain ⟨x, e1, h⟩ := h
    exact ⟨x, e1, hm _ _ _ _ _ _ _ _ _ _ h⟩
  · obtain ⟨x, r, e1, e2, h⟩ := h
    exact ⟨x, r, e1, e2, hm _ _ _ _ _ _ _ _ _ _ h⟩
  · obtain ⟨L, e1, h⟩ := h
    exact ⟨L, e1, hm _ _ _ _ _ _ _ _ _ _ h⟩
  · obtain ⟨v, r, e1, e2, e3, h⟩ := h
    exact ⟨v, r, e1, e2, e3, hm _ _ _ _ _ _ _ _ _ _ h⟩
  · obtain ⟨x, e1, h⟩ := h
    exact ⟨x, e1, hm _ _ _ _ _ _ _ _ _ _ h⟩
  · obtain ⟨u, v, r, e1, h⟩ := h
    exact ⟨u, v, r, e1, hm _ _ _ _ _ _ _ _ _ _ h⟩
  · obtain ⟨u, v, r, e1, h⟩ := h
    exact ⟨u, v, r, e1, hm _ _ _ _ _ _ _ _ _ _ h⟩
  · obtain ⟨u, v, r, e1, h⟩ := h
    exact ⟨u, v, r, e1, hm _ _ _ _ _ _ _ _ _ _ h⟩
  · obtain ⟨u, v, r, e1, e2, h⟩ := h
    exact ⟨u, v, r, e1, e2, hm _ _ _ _ _ _ _ _ _ _ h⟩
  · obtain ⟨u, v, r, e1, e2, h⟩ := h
    exact ⟨u, v, r, e1, e2, hm _ _ _ _ _ _ _ _ _ _ h⟩
  · obtain ⟨u, r, e1, h⟩ := h
    exact ⟨u, r, e1, hm _ _ _ _ _ _ _ _ _ _ h⟩
  · obtain ⟨u, v, r, e1, h⟩ := h
    exact ⟨u, v, r, e1, hm _ _ _ _ _ _ _ _ _ _ h⟩
  · obtain ⟨v, r, e1, e2, h⟩ := h
    exact ⟨v, r, e1, e2, hm _ _ _ _ _ _ _ _ _ _ h⟩
  · obtain ⟨v, w, r, e1, e2, e3, h⟩ := h
    exact ⟨v, w, r, e1, e2, e3, hm _ _ _ _ _ _ _ _ _ _ h⟩
  · obtain ⟨v, r, e1, e2, h⟩ := h
    exact ⟨v, r, e1, e2, hm _ _ _ _ _ _ _ _ _ _ h⟩
  · exact hm _ _ _ _ _ _ _ _ _ _ h
  · obtain ⟨x, r, e1, h1, h2⟩ := h
    exact ⟨x, r, e1, fun e => hm _ _ _ _ _ _ _ _ _ _ (h1 e), fun e => hm _ _ _ _ _ _ _ _ _ _ (h2 e)⟩
  · obtain ⟨u, v, r, e1, h1, h2⟩ := h
    exact ⟨u, v, r, e1, fun e => hm _ _ _ _ _ _ _ _ _ _ (h1 e), fun e => hm _ _ _ _ _ _ _ _ _ _ (h2 e)⟩
  · obtain ⟨q, r, e1, h1, h2⟩ := h
    exact ⟨q, r, e1, fun e => hm _ _ _ _ _ _ _ _ _ _ (h1 e), fun e => hm _ _ _ _ _ _ _ _ _ _ (h2 e)⟩
  · obtain ⟨x, r, e1, h1, h2⟩ := h
    exact ⟨x, r, e1, fun k t e e9 => hm _ _ _ _ _ _ _ _ _ _ (h1 k t e e9), fun e => hm _ _ _ _ _ _ _ _ _ _ (h2 e)⟩
  · obtain ⟨x, r, e1, h⟩ := h
    exact ⟨x, r, e1, hm _ _ _ _ _ _ _ _ _ _ h⟩
  · obtain ⟨u, v, r, e1, h1⟩ := h
    exact ⟨u, v, r, e1, fun x e => hm _ _ _ _ _ _ _ _ _ _ (h1 x e)⟩
  · obtain ⟨e1, h⟩ := h
    exact ⟨e1, hm _ _ _ _ _ _ _ _ _ _ h⟩
  · obtain ⟨u, v, r, e1, h⟩ := h
    exact ⟨u, v, r, e1, hm _ _ _ _ _ _ _ _ _ _ h⟩
  · obtain ⟨u, v, r, e1, h⟩ := h
    exact ⟨u, v, r, e1, hm _ _ _ _ _ _ _ _ _ _ h⟩
  · obtain ⟨u, v, r, e1, h⟩ := h
    exact ⟨u, v, r, e1, hm _ _ _ _ _ _ _ _ _ _ h⟩
  · obtain ⟨u, v, r, e1, h⟩ := h
    exact ⟨u, v, r, e1, hm _ _ _ _ _ _ _ _ _ _ h⟩
  · exact h.elim
set_option maxHeartbeats 4000000 in
theorem stB_mono {X Y : XT} (hm : ∀ d b y i ls st K I R Q, X d b y i ls st K I R Q → Y d b y i ls st K I R Q) {op a c : Nat} {z : Int} {d b y i : Nat} {ls : List (Option PV)} {st : List PV} {K : KM} {I : IM} {R : RM} {Q : QT} (h : stB X op a c z d b y i ls st K I R Q) : stB Y op a c z d b y i ls st K I R Q := by
  unfold stB at h ⊢
  split at h
  · obtain ⟨j, L, r, n, e1, e2, e3, h⟩ := h
    exact ⟨j, L, r, n, e1, e2, e3, hm _ _ _ _ _ _ _ _ _ _ h⟩
  · obtain ⟨x, j, L, r, n, e1, e2, e3, h⟩ := h
    exact ⟨x, j, L, r, n, e1, e2, e3, hm _ _ _ _ _ _ _ _ _ _ h⟩
  · obtain ⟨L, r, k, n, e1, e2, e3, h⟩ := h
    exact ⟨L, r, k, n, e1, e2, e3, hm _ _ _ _ _ _ _ _ _ _ h⟩
  · obtain ⟨j, L, r, k, n, e1, e2, e3, e4, h⟩ := h
    exact ⟨j, L, r, k, n, e1, e2, e3, e4, hm _ _ _ _ _ _ _ _ _ _ h⟩
  · obtain ⟨x, j, L, r, n, e1, e2, e3, h⟩ := h
    exact ⟨x, j, L, r, n, e1, e2, e3, hm _ _ _ _ _ _ _ _ _ _ h⟩
  · obtain ⟨j, L, r, n, e1, e2, e3, h⟩ := h
    exact ⟨j, L, r, n, e1, e2, e3, hm _ _ _ _ _ _ _ _ _ _ h⟩
  · obtain ⟨x, j, L, r, n, e1, e2, e3, e4, h⟩ := h
    exact ⟨x, j, L, r, n, e1, e2, e3, e4, hm _ _ _ _ _ _ _ _ _ _ h⟩
  · obtain ⟨j, L, r, k, n, e1, e2, e3, e4, h⟩ := h
    exact ⟨j, L, r, k, n, e1, e2, e3, e4, hm _ _ _ _ _ _ _ _ _ _ h⟩
  · obtain ⟨L', j, L, r, k, n, n', e1, e2, e3, e4, e5, h⟩ := h
    exact ⟨L', j, L, r, k, n, n', e1, e2, e3, e4, e5, hm _ _ _ _ _ _ _ _ _ _ h⟩
  · obtain ⟨L, r, n, e1, e2, h⟩ := h
    exact ⟨L, r, n, e1, e2, hm _ _ _ _ _ _ _ _ _ _ h⟩
  · obtain ⟨L, r, n, e1, e2, h⟩ := h
    exact ⟨L, r, n, e1, e2, hm _ _ _ _ _ _ _ _ _ _ h⟩
  · obtain ⟨x, L, r, n, e1, e2, h⟩ := h
    exact ⟨x, L, r, n, e1, e2, hm _ _ _ _ _ _ _ _ _ _ h⟩
  · obtain ⟨q, L, r, n, e1, e2, h⟩ := h
    exact ⟨q, L, r, n, e1, e2, hm _ _ _ _ _ _ _ _ _ _ h⟩
  · obtain ⟨L, r, n, e1, e2, h⟩ := h
    exact ⟨L, r, n, e1, e2, hm _ _ _ _ _ _ _ _ _ _ h⟩
  · obtain ⟨x, L, r, n, e1, e2, e3, h⟩ := h
    exact ⟨x, L, r, n, e1, e2, e3, hm _ _ _ _ _ _ _ _ _ _ h⟩
  · exact h.elim
set_option maxHeartbeats 4000000 in
theorem stC_mono {X Y : XT} (hm : ∀ d b y i ls st K I R Q, X d b y i ls st K I R Q → Y d b y i ls st K I R Q) {op a c : Nat} {z : Int} {d b y i : Nat} {ls : List (Option PV)} {st : List PV} {K : KM} {I : IM} {R : RM} {Q : QT} (h : stC X op a c z d b y i ls st K I R Q) : stC Y op a c z d b y i ls st K I R Q := by
  unfold stC at h ⊢
  split at h
  · obtain ⟨L, b', e1, e2, h⟩ := h
    exact ⟨L, b', e1, e2, hm _ _ _ _ _ _ _ _ _ _ h⟩
  · obtain ⟨L, n, r, b', e1, e2, e3, e4, h⟩ := h
    exact ⟨L, n, r, b', e1, e2, e3, e4, hm _ _ _ _ _ _ _ _ _ _ h⟩
  · obtain ⟨L, n, r, b', e1, e2, e3, e4, h⟩ := h
    exact ⟨L, n, r, b', e1, e2, e3, e4, hm _ _ _ _ _ _ _ _ _ _ h⟩
  · obtain ⟨as, rest, d', b', P, e1, e2, e2c, e3, e4, e5, h1, h2⟩ := h
    exact ⟨as, rest, d', b', P, e1, e2, e2c, e3, e4, e5, hm _ _ _ _ _ _ _ _ _ _ h1, fun r K' I' R' hp => aft_mono hm (h2 r K' I' R' hp)⟩
  · obtain ⟨L, as, rest, d', b', n, P, e1, e2, e2c, e3, e4, e5, e6, h1, h2⟩ := h
    exact ⟨L, as, rest, d', b', n, P, e1, e2, e2c, e3, e4, e5, e6, hm _ _ _ _ _ _ _ _ _ _ h1, fun r K' I' R' hp => aft_mono hm (h2 r K' I' R' hp)⟩
  · obtain ⟨L, as, rest, d', b', n, P, e1, e2, e2c, e3, e4, e5, e6, h1, h2⟩ := h
    exact ⟨L, as, rest, d', b', n, P, e1, e2, e2c, e3, e4, e5, e6, hm _ _ _ _ _ _ _ _ _ _ h1, fun r K' I' R' hp => ⟨(h2 r K' I' R' hp).1, aft_mono hm (h2 r K' I' R' hp).2⟩⟩
  · obtain ⟨L, r, e1, e2, e3, h⟩ := h
    exact ⟨L, r, e1, e2, e3, hm _ _ _ _ _ _ _ _ _ _ h⟩
  · exact h
  · exact h
  · exact h
  · exact h
  · obtain ⟨u, v, r, e1, e2, e3, h⟩ := h
    exact ⟨u, v, r, e1, e2, e3, hm _ _ _ _ _ _ _ _ _ _ h⟩
  · obtain ⟨u, v, r, e1, e2, e3, h⟩ := h
    exact ⟨u, v, r, e1, e2, e3, hm _ _ _ _ _ _ _ _ _ _ h⟩
  · obtain ⟨u, r, e1, e2, e3, h⟩ := h
    exact ⟨u, r, e1, e2, e3, hm _ _ _ _ _ _ _ _ _ _ h⟩
  · exact h.elim
theorem wp_in {d b y i : Nat} {ls : List (Option PV)} {st : List PV} {K : KM} {I : IM} {R : RM} {Q : QT} (h : Mst Mw d b y i ls st K I R Q) : Mw d b y i ls st K I R Q := by
  intro X hX
  refine hX _ _ _ _ _ _ _ _ _ _ ?_
  obtain ⟨op, a, c, z, e, h⟩ := h
  have hm : ∀ d b y i ls st K I R Q, Mw d b y i ls st K I R Q → X d b y i ls st K I R Q := fun _ _ _ _ _ _ _ _ _ _ w => w X hX
  refine ⟨op, a, c, z, e, ?_⟩
  rcases h with h | h | h
  · exact Or.inl (stA_mono hm h)
  · exact Or.inr (Or.inl (stB_mono hm h))
  · exact Or.inr (Or.inr (stC_mono hm h))
end
section
/-! the tables checked against the bytes and the tables' words, by the kernel -/
def okw (w : Cond) : Bool := goodWord w || (match w with
  | .castable .. => true
  | .declares .. => true
  | .methodLinkNest .. => true
  | .fieldLinkNest .. => true
  | _ => false)
def isw (k : Nat) (w : Cond) : Bool := decide (lw_tbl[k]? = some w) && okw w
def dc0 (y i : Nat) (ins : Instr) (len : Nat) : Bool := decide (decode (pg_by y) (pg_pc y i) = .ok (ins, len))
def dc (y i : Nat) (ins : Instr) (len : Nat) : Bool := dc0 y i ins len && decide (pg_pc y (i + 1) = pg_pc y i + len)
def pg_own (y : Nat) : String := (pg_nm y).cls
def pg_off (y i t : Nat) : Int := (pg_pc y t : Int) - (pg_pc y i : Int)
abbrev clT (ci : Nat) : u_T := (vwCl.getD ci ("", TX0, 0)).2.1
abbrev clC (ci : Nat) : String := (vwCl.getD ci ("", TX0, 0)).1
def tyc (ci : Nat) : Nat → FieldType := match ci with
  | 0 => tyX0
  | 1 => tyX1
  | 2 => tyX2
  | 3 => tyX3
  | 4 => tyX4
  | 5 => tyX5
  | _ => tyX6
def isRT (t : FieldType) : Bool := match t with
  | .object _ => true
  | .array _ => true
  | _ => false
def ifI (c : Nat) (off : Int) : Instr := match c with
  | 0 => .ifCond .eq off
  | 1 => .ifCond .ne off
  | 2 => .ifCond .lt off
  | 3 => .ifCond .ge off
  | 4 => .ifCond .gt off
  | _ => .ifCond .le off
def icI (c : Nat) (off : Int) : Instr := match c with
  | 0 => .if_icmp .eq off
  | 1 => .if_icmp .ne off
  | 2 => .if_icmp .lt off
  | 3 => .if_icmp .ge off
  | 4 => .if_icmp .gt off
  | _ => .if_icmp .le off
def fF (a : Nat) : Fin 4 := if h : a < 4 then ⟨a, h⟩ else 0
def elN (k : Nat) : String := clC (elc k)
def thn : List String := ["java/lang/RuntimeException", "java/lang/Exception"]
/-- the code word of a method -/
def pg_cw (y : Nat) : Cond := if pg_hh y = [] then .code (pg_nm y) (pg_by y) (pg_ml y) (pg_rt y) else .codeWith (pg_nm y) (pg_by y) (pg_ml y) (pg_rt y) (pg_hh y)
def chkC (a : Nat) : Bool :=
  let q := pg_qs.getD a pg_q0
  isw q.2.2.2.1 (pg_cw a) && isw q.2.2.2.2.1 (if q.1 then .static (pg_nm a) else .instanceMethod (pg_nm a)) && isw q.2.2.2.2.2.1 (.initialized (pg_own a)) &&
  decide ((pg_nm a).cls ≠ "java/lang/invoke/MethodHandle") && decide ((pg_nm a).cls ≠ "java/lang/invoke/VarHandle") && decide ((parseMethodDescriptor (pg_nm a).desc).map (fun d => d.parameters.length) = some (if q.1 then q.2.1 else q.2.1 - 1)) &&
  plainName (pg_nm a).cls && decide (pg_pc a 0 = 0) && decide (pg_na a ≤ pg_ml a) && decide (pg_ml a ≤ 40) && decide (a < 102) && decide (pg_own a ≠ "java/lang/Math") && (q.1 || decide (1 ≤ q.2.1))
def chkB (y i op a c : Nat) (z : Int) (w : List Nat) : Bool := match op with
    | 0 => dc y i (.iconst z) 1 || (dc y i (.bipush z) 2 && decide ((Int8.ofInt z).toInt32 = Int32.ofInt z)) || (dc y i (.sipush z) 3 && decide ((Int16.ofInt z).toInt32 = Int32.ofInt z)) || (dc y i (.ldc c) 2 && isw (w.getD 0 0) (.constant (pg_own y) c (Int32.ofInt z)))
    | 1 => dc y i (.iload a) 2 || (decide (a < 4) && dc y i (.iload_n (fF a)) 1)
    | 2 => dc y i (.istore a) 2 || (decide (a < 4) && dc y i (.istore_n (fF a)) 1)
    | 3 => dc y i (.aload a) 2 || (decide (a < 4) && dc y i (.aload_n (fF a)) 1)
    | 4 => dc y i (.astore a) 2 || (decide (a < 4) && dc y i (.astore_n (fF a)) 1)
    | 5 => dc y i (.iinc a z) 3
    | 6 => dc y i .iadd 1
    | 7 => dc y i .isub 1
    | 8 => dc y i .imul 1
    | 9 => dc y i .idiv 1
    | 10 => dc y i .irem 1
    | 11 => dc y i .ineg 1
    | 12 => dc y i .iand 1
    | 54 => dc y i .ior 1
    | 55 => dc y i .ixor 1
    | 56 => dc y i .ishl 1
    | 57 => dc y i .ishr 1
    | 13 => dc y i .dup 1
    | 14 => dc y i .dup2 1
    | 15 => dc y i .pop 1
    | 16 => dc0 y i (.goto (pg_off y i a)) 3
    | 17 => dc y i (ifI c (pg_off y i a)) 3
    | 18 => dc y i (icI c (pg_off y i a)) 3
    | 19 => dc y i (.ifnonnull (pg_off y i a)) 3
    | 20 => (match decode (pg_by y) (pg_pc y i) with
      | .ok (.tableswitch dflt lo hi offs, _) => decide (lo = (pg_sw.getD a (0, 0, 0, [])).1) && decide (hi = (pg_sw.getD a (0, 0, 0, [])).2.1) && decide (dflt = pg_off y i (pg_sw.getD a (0, 0, 0, [])).2.2.1) && decide (offs.toList = (pg_sw.getD a (0, 0, 0, [])).2.2.2.map (fun t => pg_off y i t)) && decide (hi - lo + 1 = ((pg_sw.getD a (0, 0, 0, [])).2.2.2.length : Int))
      | _ => false)
    | 21 => dc y i .i2l 1
    | 22 => dc y i .lcmp 1
    | 23 => (decide (z = 0) && dc y i (.lconst 0) 1) || (decide (z = 1) && dc y i (.lconst 1) 1)
    | 24 => dc y i .laload 1
    | 25 => dc y i .lastore 1
    | 26 => dc y i .arraylength 1
    | 27 => dc y i .iaload 1
    | 28 => dc y i .iastore 1
    | 29 => dc y i .baload 1
    | 30 => dc y i .bastore 1
    | 31 => dc y i .aaload 1
    | 32 => dc y i .aastore 1
    | 33 => dc y i (.getfield z.toNat) 3 && decide (a < 6) && decide (c < nfl a) && (decide (tyc a c = .int) || decide (tyc a c = .boolean)) && isw (w.getD 0 0) (.fieldLink (pg_own y) z.toNat (clT a c).1 (clT a c).2.1 (clT a c).2.2.1)
    | 34 => dc y i (.getfield z.toNat) 3 && decide (a < 6) && decide (c < nfl a) && isRT (tyc a c) && isw (w.getD 0 0) (.fieldLink (pg_own y) z.toNat (clT a c).1 (clT a c).2.1 (clT a c).2.2.1)
    | 35 => dc y i (.putfield z.toNat) 3 && decide (a < 6) && decide (c < nfl a) && decide (tyc a c = .int) && decide ((clT a c).2.2.2 = false) && isw (w.getD 0 0) (.fieldLink (pg_own y) z.toNat (clT a c).1 (clT a c).2.1 (clT a c).2.2.1)
    | 36 => dc y i (.putfield z.toNat) 3 && decide (a < 6) && decide (c < nfl a) && isRT (tyc a c) && (decide ((clT a c).2.2.2 = false) || (decide ((pg_nm y).name = "<init>") && decide ((clT a c).1 = pg_own y) && decide ((clT a c).2.2.2 = true))) && isw (w.getD 0 0) (.fieldLink (pg_own y) z.toNat (clT a c).1 (clT a c).2.1 (clT a c).2.2.1)
    | 37 => dc y i (.new z.toNat) 3 && decide (a < 6) && isw (w.getD 0 0) (.classLink (pg_own y) z.toNat (clC a)) && isw (w.getD 1 0) (.instantiable (clC a) (nfl a)) && isw (w.getD 2 0) (.initialized (clC a))
    | 38 => (decide (a = 7) && dc y i (.newarray .int) 2 && isw (w.getD 0 0) (.arrayClass .int)) || (decide (a = 8) && dc y i (.newarray .boolean) 2 && isw (w.getD 0 0) (.arrayClass .boolean)) || (decide (a = 13) && dc y i (.newarray .long) 2 && isw (w.getD 0 0) (.arrayClass .long))
    | 39 => dc y i (.anewarray z.toNat) 3 && decide (9 ≤ a) && decide (a ≤ 12) && isw (w.getD 0 0) (.classLink (pg_own y) z.toNat (elN a))
    | 40 => dc y i (.invokestatic z.toNat) 3 && chkC a && pg_sta a && isw (w.getD 0 0) (.methodLink (pg_own y) z.toNat (pg_nm a))
    | 41 => dc y i (.invokevirtual z.toNat) 3 && chkC a && !(pg_sta a) && decide (pg_hh a = []) && decide (pg_cl a < 6) && decide (pg_own a = clC (pg_cl a)) && isw (w.getD 0 0) (.methodLink (pg_own y) z.toNat (pg_nm a)) && isw (pg_qs.getD a pg_q0).2.2.2.2.2.2 (.selects (pg_own a) (pg_nm a) (pg_nm a))
    | 42 => dc y i (.invokespecial z.toNat) 3 && chkC a && !(pg_sta a) && decide (pg_hh a = []) && decide (pg_cl a < 6) && decide (pg_own a = clC (pg_cl a)) && decide ((pg_nm a).name = "<init>") && decide (pg_rt a = none) && ((decide (c = 0) && isw (w.getD 0 0) (.methodLink (pg_own y) z.toNat (pg_nm a))) || (decide (c = 1) && isw (w.getD 0 0) (.methodLinkNest (pg_own y) z.toNat (pg_nm a) "KayfabeRing")))
    | 43 => dc y i (.invokespecial z.toNat) 3 && isw (w.getD 0 0) (.methodLink (pg_own y) z.toNat Lib.objectInit) && isw (w.getD 1 0) (.instanceMethod Lib.objectInit) && isw (w.getD 2 0) (.code Lib.objectInit ⟨#[0xb1]⟩ 1 none)
    | 44 => decide (pg_own y = RX5) && (decide (a = 1) || decide (a = 2) || decide (a = 3)) && dc0 y i (.new (w.getD 2 0)) 3 && decide (decode (pg_by y) (pg_pc y i + 3) = .ok (.dup, 1)) && decide ((pg_st.getD c ("", 0, "")).1 = RX5) && decide (c < pg_st.length) &&
      ((decide (w.getD 4 0 = 0) && decide (decode (pg_by y) (pg_pc y i + 4) = .ok (.ldc (pg_st.getD c ("", 0, "")).2.1, 2)) && decide (decode (pg_by y) (pg_pc y i + 6) = .ok (.invokespecial (w.getD 3 0), 3)) && decide (decode (pg_by y) (pg_pc y i + 9) = .ok (.athrow, 1))) ||
       (decide (w.getD 4 0 = 1) && decide (decode (pg_by y) (pg_pc y i + 4) = .ok (.ldc_w (pg_st.getD c ("", 0, "")).2.1, 3)) && decide (decode (pg_by y) (pg_pc y i + 7) = .ok (.invokespecial (w.getD 3 0), 3)) && decide (decode (pg_by y) (pg_pc y i + 10) = .ok (.athrow, 1)))) &&
      isw (w.getD 0 0) (.classLink RX5 (w.getD 2 0) (pg_ex a)) && isw (w.getD 1 0) (.initialized (pg_ex a)) && (decide (a = 1 ∧ w.getD 3 0 = 53) || decide (a = 2 ∧ w.getD 3 0 = 64) || decide (a = 3 ∧ w.getD 3 0 = 87))
    | 45 => dc0 y i .ireturn 1 && (decide (pg_rt y = some .int) || decide (pg_rt y = some .boolean))
    | 46 => dc0 y i .areturn 1 && (match pg_rt y with
      | some t => isRT t
      | none => false)
    | 47 => dc0 y i .return_ 1 && decide (pg_rt y = none)
    | 48 => dc y i (.getfield z.toNat) 3 && decide (a < 6) && decide (c < nfl a) && (decide (tyc a c = .int) || decide (tyc a c = .boolean)) && isw (w.getD 0 0) (.fieldLinkNest (pg_own y) z.toNat (clT a c).1 (clT a c).2.1 (clT a c).2.2.1 "KayfabeRing")
    | 51 => dc y i (.invokestatic z.toNat) 3 && isw (w.getD 0 0) (.methodLink (pg_own y) z.toNat Lib.Math.max.name) && isw (w.getD 1 0) (.static Lib.Math.max.name) && isw (w.getD 2 0) (.initialized "java/lang/Math") && isw (w.getD 3 0) (.code Lib.Math.max.name Lib.Math.max.code 2 (some .int))
    | 52 => dc y i (.invokestatic z.toNat) 3 && isw (w.getD 0 0) (.methodLink (pg_own y) z.toNat Lib.Math.min.name) && isw (w.getD 1 0) (.static Lib.Math.min.name) && isw (w.getD 2 0) (.initialized "java/lang/Math") && isw (w.getD 3 0) (.code Lib.Math.min.name Lib.Math.min.code 2 (some .int))
    | 53 => dc y i (.invokestatic z.toNat) 3 && isw (w.getD 0 0) (.methodLink (pg_own y) z.toNat Lib.Math.abs.name) && isw (w.getD 1 0) (.static Lib.Math.abs.name) && isw (w.getD 2 0) (.initialized "java/lang/Math") && isw (w.getD 3 0) (.code Lib.Math.abs.name Lib.Math.abs.code 1 (some .int))
    | 49 => true
    | 50 => dc y i (.putfield z.toNat) 3 && decide (a < 6) && decide (c < nfl a) && decide (tyc a c = .boolean) && decide ((clT a c).2.2.2 = false) && isw (w.getD 0 0) (.fieldLink (pg_own y) z.toNat (clT a c).1 (clT a c).2.1 (clT a c).2.2.1)
    | _ => false
def chk (y i : Nat) : Bool := match pg_at y i with
  | none => true
  | some (op, a, c, z) => chkB y i op a c z (pg_wd y i)
theorem chk_at {y i op a c : Nat} {z : Int} (hi : pg_at y i = some (op, a, c, z)) (h : chk y i = true) : chkB y i op a c z (pg_wd y i) = true := by
  unfold chk at h
  rw [hi] at h
  exact h
theorem dc_at {y i : Nat} {ins : Instr} {len : Nat} (h : dc y i ins len = true) : decode (pg_by y) (pg_pc y i) = .ok (ins, len) ∧ pg_pc y (i + 1) = pg_pc y i + len := by
  unfold dc dc0 at h
  rw [Bool.and_eq_true, decide_eq_true_eq, decide_eq_true_eq] at h
  exact h
/-- the handlers of a method -/
def chkH (y : Nat) : Bool := decide (pg_hh y = (pg_hx y).map (fun h => (h.1, h.2.1, h.2.2.2.2.1, h.2.2.2.2.2.1))) && (pg_hx y).all (fun h => isw h.2.2.2.2.2.2 (.classLink (pg_own y) h.2.2.2.2.2.1 (pg_ex h.2.2.2.1)) && decide (pg_pc y h.2.2.1 = h.2.2.2.2.1) && decide (h.2.2.2.2.2.1 ≠ 0) && (decide (h.2.2.2.1 = 1) || decide (h.2.2.2.1 = 2) || decide (h.2.2.2.1 = 3)))
theorem chkH_all : (List.range 103).all chkH = true := by decide +kernel
end
section
/-! the pure machine's values and heap against the machine's -/
def vr (am : Lb → Nat) (K : KM) (v : PV) (v' : Value) : Prop := match v with
  | .inl x => v' = .int x
  | .inr (.inl x) => v' = .long x.toInt64
  | .inr (.inr (.inl none)) => v' = .null
  | .inr (.inr (.inl (some L))) => v' = .ref (am L) ∧ K L ≠ none
  | .inr (.inr (.inr _)) => ∃ q, v' = .ref q
def sr (am : Lb → Nat) (K : KM) : List PV → List Value → Prop
  | [], [] => True
  | v :: r, v' :: r' => vr am K v v' ∧ sr am K r r'
  | _, _ => False
def lr (am : Lb → Nat) (K : KM) (ls : List (Option PV)) (lsA : Array Slot) (nL : Nat) : Prop :=
  ls.length = nL ∧ ∃ lv : List (Nat × Value), lv_has lsA nL lv ∧ ∀ i v, ls[i]? = some (some v) → ∃ v', (i, v') ∈ lv ∧ vr am K v v' ∧ v'.category = 1
def ext (am : Lb → Nat) (K : KM) (am' : Lb → Nat) (K' : KM) : Prop := ∀ L, K L ≠ none → am' L = am L ∧ K' L = K L
theorem ext_rfl {am : Lb → Nat} {K : KM} : ext am K am K := fun _ _ => ⟨rfl, rfl⟩
theorem ext_tr {am am' am'' : Lb → Nat} {K K' K'' : KM} (h : ext am K am' K') (h' : ext am' K' am'' K'') : ext am K am'' K'' := fun L hL => by
  obtain ⟨a, b⟩ := h L hL
  obtain ⟨c, d⟩ := h' L (by rw [b]; exact hL)
  exact ⟨c.trans a, d.trans b⟩
theorem vr_ext {am am' : Lb → Nat} {K K' : KM} (h : ext am K am' K') {v : PV} {v' : Value} (hv : vr am K v v') : vr am' K' v v' := by
  match v, hv with
  | .inl x, hv => exact hv
  | .inr (.inl x), hv => exact hv
  | .inr (.inr (.inl none)), hv => exact hv
  | .inr (.inr (.inl (some L))), hv =>
    obtain ⟨e, hL⟩ := hv
    obtain ⟨a, b⟩ := h L hL
    exact ⟨by rw [a]; exact e, by rw [b]; exact hL⟩
  | .inr (.inr (.inr _)), hv => exact hv
theorem sr_ext {am am' : Lb → Nat} {K K' : KM} (h : ext am K am' K') : ∀ {st : List PV} {st' : List Value}, sr am K st st' → sr am' K' st st'
  | [], [], _ => trivial
  | v :: r, v' :: r', hs => ⟨vr_ext h hs.1, sr_ext h hs.2⟩
  | [], _ :: _, hs => hs.elim
  | _ :: _, [], hs => hs.elim
theorem lr_ext {am am' : Lb → Nat} {K K' : KM} (h : ext am K am' K') {ls : List (Option PV)} {lsA : Array Slot} {n : Nat} (hl : lr am K ls lsA n) : lr am' K' ls lsA n := by
  obtain ⟨h1, lv, h2, h3⟩ := hl
  refine ⟨h1, lv, h2, fun i v hv => ?_⟩
  obtain ⟨v', a, b, c⟩ := h3 i v hv
  exact ⟨v', a, vr_ext h b, c⟩
theorem sr_len {am : Lb → Nat} {K : KM} : ∀ {st : List PV} {st' : List Value}, sr am K st st' → st'.length = st.length
  | [], [], _ => rfl
  | v :: r, v' :: r', hs => by rw [List.length_cons, List.length_cons, sr_len hs.2]
  | [], _ :: _, hs => hs.elim
  | _ :: _, [], hs => hs.elim
theorem sr_app {am : Lb → Nat} {K : KM} : ∀ {a : List PV} {a' : List Value} {b : List PV} {b' : List Value}, sr am K a a' → sr am K b b' → sr am K (a ++ b) (a' ++ b')
  | [], [], _, _, _, hb => hb
  | v :: r, v' :: r', _, _, ha, hb => ⟨ha.1, sr_app ha.2 hb⟩
  | [], _ :: _, _, _, hs, _ => hs.elim
  | _ :: _, [], _, _, hs, _ => hs.elim
theorem sr_split {am : Lb → Nat} {K : KM} : ∀ {a b : List PV} {c : List Value}, sr am K (a ++ b) c → ∃ a' b', c = a' ++ b' ∧ sr am K a a' ∧ sr am K b b'
  | [], b, c, h => ⟨[], c, rfl, trivial, h⟩
  | v :: r, b, v' :: c, h => by
    obtain ⟨a', b', e, h1, h2⟩ := sr_split (a := r) h.2
    exact ⟨v' :: a', b', by rw [e]; rfl, ⟨h.1, h1⟩, h2⟩
  | v :: r, b, [], h => h.elim
theorem sr_rev {am : Lb → Nat} {K : KM} : ∀ {a : List PV} {a' : List Value}, sr am K a a' → sr am K a.reverse a'.reverse
  | [], [], _ => trivial
  | v :: r, v' :: r', h => by
    rw [List.reverse_cons, List.reverse_cons]
    exact sr_app (sr_rev h.2) ⟨h.1, trivial⟩
  | [], _ :: _, hs => hs.elim
  | _ :: _, [], hs => hs.elim
theorem sr_un {am : Lb → Nat} {K : KM} {as rest : List PV} {c : List Value} (h : sr am K (as.reverse ++ rest) c) : ∃ a' b', c = a'.reverse ++ b' ∧ sr am K as a' ∧ sr am K rest b' := by
  obtain ⟨a', b', e, h1, h2⟩ := sr_split h
  refine ⟨a'.reverse, b', by rw [List.reverse_reverse]; exact e, ?_, h2⟩
  have := sr_rev h1
  rwa [List.reverse_reverse] at this
theorem sr_at {am : Lb → Nat} {K : KM} : ∀ {st : List PV} {st' : List Value} {i : Nat} {v : PV}, sr am K st st' → st[i]? = some v → ∃ v', st'[i]? = some v' ∧ vr am K v v'
  | [], _, i, v, _, hv => by simp at hv
  | w :: r, [], _, _, hs, _ => hs.elim
  | w :: r, w' :: r', 0, v, hs, hv => by
    simp at hv
    exact ⟨w', by simp, hv ▸ hs.1⟩
  | w :: r, w' :: r', i + 1, v, hs, hv => by
    simp at hv
    obtain ⟨v', a, b⟩ := sr_at (i := i) hs.2 hv
    exact ⟨v', by simpa using a, b⟩
theorem vr_c1 {am : Lb → Nat} {K : KM} {v : PV} {v' : Value} (h : vr am K v v') (hc : isC1 v) : v'.category = 1 := by
  match v, h, hc with
  | .inl x, h, _ => rw [show v' = .int x from h]; rfl
  | .inr (.inl x), _, hc => exact hc.elim
  | .inr (.inr (.inl none)), h, _ => rw [show v' = .null from h]; rfl
  | .inr (.inr (.inl (some L))), h, _ => rw [h.1]; rfl
  | .inr (.inr (.inr _)), h, _ =>
    obtain ⟨q, e⟩ := h
    rw [e]; rfl
theorem vr_c2 {am : Lb → Nat} {K : KM} {v : PV} {v' : Value} (h : vr am K v v') : v'.category ≤ 2 := by
  match v, h with
  | .inl x, h => rw [show v' = .int x from h]; exact Nat.le_of_ble_eq_true rfl
  | .inr (.inl x), h => rw [show v' = .long x.toInt64 from h]; exact Nat.le_of_ble_eq_true rfl
  | .inr (.inr (.inl none)), h => rw [show v' = .null from h]; exact Nat.le_of_ble_eq_true rfl
  | .inr (.inr (.inl (some L))), h => rw [h.1]; exact Nat.le_of_ble_eq_true rfl
  | .inr (.inr (.inr _)), h =>
    obtain ⟨q, e⟩ := h
    rw [e]; exact Nat.le_of_ble_eq_true rfl
theorem sr_cat {am : Lb → Nat} {K : KM} : ∀ {st : List PV} {st' : List Value}, sr am K st st' → (st'.map fun v => v.category).sum ≤ 2 * st.length
  | [], [], _ => Nat.le_refl _
  | v :: r, v' :: r', hs => by
    have h1 := vr_c2 hs.1
    have h2 := sr_cat hs.2
    simp only [List.map_cons, List.sum_cons, List.length_cons]
    omega
  | [], _ :: _, hs => hs.elim
  | _ :: _, [], hs => hs.elim
theorem lr_get {am : Lb → Nat} {K : KM} {ls : List (Option PV)} {lsA : Array Slot} {n i : Nat} {v : PV} (hl : lr am K ls lsA n) (hv : ls[i]? = some (some v)) : ∃ v', lsA[i]? = some (.val v') ∧ vr am K v v' := by
  obtain ⟨h1, lv, h2, h3⟩ := hl
  obtain ⟨v', a, b, c⟩ := h3 i v hv
  exact ⟨v', h2.2.2 (i, v') a, b⟩
/-- behind a store -/
theorem lr_set {am : Lb → Nat} {K : KM} {ls : List (Option PV)} {lv : List (Nat × Value)} {lsB : Array Slot} {n i : Nat} {v : PV} {v' : Value} (h1 : ls.length = n) (h3 : ∀ i v, ls[i]? = some (some v) → ∃ v', (i, v') ∈ lv ∧ vr am K v v' ∧ v'.category = 1) (hv : vr am K v v') (hc : v'.category = 1) (hb : lv_has lsB n ((i, v') :: lv.filter (fun q => !(q.1 == i) && !(q.1 + 1 == i && q.2.category == 2)))) : lr am K (ls.set i (some v)) lsB n := by
  refine ⟨by rw [List.length_set]; exact h1, _, hb, fun j w hw => ?_⟩
  rw [List.getElem?_set] at hw
  by_cases e : i = j
  · subst e
    rw [if_pos rfl] at hw
    by_cases hlt : i < ls.length
    · rw [if_pos hlt] at hw
      cases hw
      exact ⟨v', List.mem_cons_self, hv, hc⟩
    · rw [if_neg hlt] at hw
      cases hw
  · rw [if_neg e] at hw
    obtain ⟨w', a, b, c⟩ := h3 j w hw
    refine ⟨w', List.mem_cons_of_mem _ (List.mem_filter.mpr ⟨a, ?_⟩), b, c⟩
    simp [c, Ne.symm e]
/-- at the entry of a method -/
theorem lr_entry {am : Lb → Nat} {K : KM} {n : Nat} {as : List PV} {as' : List Value} (h : sr am K as as') (hc : ∀ v ∈ as, isC1 v) (hn : as.length ≤ n) : lr am K (as.map some ++ List.replicate (n - as.length) none) ((lg_sl as' ++ List.replicate (n - (lg_sl as').length) Slot.unset).toArray) n := by
  have hsl : ∀ {a : List PV} {a' : List Value}, sr am K a a' → (∀ v ∈ a, isC1 v) → (lg_sl a').length = a.length ∧ ∀ k, lv_args k a' = (a'.zipIdx k).map (fun q => (q.2, q.1)) := by
    intro a
    induction a with
    | nil =>
      intro a' hs _
      cases a' with
      | nil => exact ⟨rfl, fun k => rfl⟩
      | cons _ _ => exact hs.elim
    | cons v r ih =>
      intro a' hs hc
      cases a' with
      | nil => exact hs.elim
      | cons v' r' =>
        obtain ⟨i1, i2⟩ := ih hs.2 (fun w hw => hc w (List.mem_cons_of_mem _ hw))
        have c1 := vr_c1 hs.1 (hc v List.mem_cons_self)
        refine ⟨?_, fun k => ?_⟩
        · have : lg_sl (v' :: r') = Slot.val v' :: lg_sl r' := by simp [lg_sl, c1]
          rw [this, List.length_cons, i1, List.length_cons]
        · simp only [lv_args, c1, List.zipIdx_cons, List.map_cons]
          rw [if_neg (by decide), i2]
  obtain ⟨e1, e2⟩ := hsl h hc
  have hE := lv_entry as' (n := n) (by rw [e1]; exact hn)
  refine ⟨by simp; omega, lv_args 0 as', hE, fun i v hv => ?_⟩
  have hi : as[i]? = some v := by
    rw [List.getElem?_append] at hv
    by_cases hlt : i < (as.map some).length
    · rw [if_pos hlt, List.getElem?_map] at hv
      cases hq : as[i]? with
      | none => rw [hq] at hv; cases hv
      | some w => rw [hq] at hv; cases hv; rfl
    · rw [if_neg hlt, List.getElem?_replicate] at hv
      split at hv <;> cases hv
  obtain ⟨v', a, b⟩ := sr_at h hi
  refine ⟨v', ?_, b, vr_c1 b (hc v (List.mem_of_getElem? hi))⟩
  rw [e2]
  refine List.mem_map.mpr ⟨(v', i), ?_, rfl⟩
  rw [List.mem_zipIdx_iff_getElem?]
  exact a
def kty (k : Nat) : FieldType := match k with
  | 7 => .int
  | 8 => .boolean
  | _ => .long
def ent (am : Lb → Nat) (tys : List (ClassId × FieldType)) (k n : Nat) (i : Nat → Int32) (r : Nat → Option Lb) (e : va_E) : Prop :=
  (k < 6 ∧ ∃ fs : List Value, e = .inr (k, fs) ∧ fs.length = nfl k ∧ ∀ j, j < nfl k → fs[j]? = some (if isRT (tyc k j) = true then va_rf ((r j).map am) else .int (i j))) ∨
  ((k = 7 ∨ k = 8) ∧ ∃ (cA : ClassId) (t0 : Nat), e = .inl (cA, n, .inl i) ∧ tys[t0]? = some (cA, kty k)) ∨
  (k = 13 ∧ ∃ (cA : ClassId) (t0 : Nat), e = .inl (cA, n, .inr (.inl (fun j => (i j).toInt64))) ∧ tys[t0]? = some (cA, .long)) ∨
  ((9 ≤ k ∧ k ≤ 12) ∧ ∃ (cA : ClassId) (t0 : Nat), e = .inl (cA, n, .inr (.inr (.inr (.inr (fun j => (r j).map am))))) ∧ tys[t0]? = some (cA, .object (elN k)))
abbrev ab (base : Nat) : Nat → Prop := fun q => base ≤ q
def hq (base : Nat) (D : va_G) (am : Lb → Nat) (K : KM) (I : IM) (R : RM) (s : State) (H : Heap) (tys : List (ClassId × FieldType)) (Ls : List Nat) (f : Nat → va_E) : Prop :=
  va_K D vwCl tys s ∧ va_P D vwCl (([] : va_W) ++ va_pl Ls f) H ∧ va_D (ab base) (([] : va_W) ++ va_pl Ls f) ∧
    (∀ L k n, K L = some (k, n) → k ≠ 14 → am L ∈ Ls ∧ ent am tys k n (I L) (R L) (f (am L))) ∧
    (∀ L n, K L = some (14, n) → va_X (am L) n (I L) s H ∧ am L < base) ∧
    (∀ L L', K L ≠ none → K L' ≠ none → am L = am L' → L = L') ∧
    (∀ L j L', K L ≠ none → R L j = some L' → K L' ≠ none)
def hp (base : Nat) (D : va_G) (am : Lb → Nat) (K : KM) (I : IM) (R : RM) (s : State) (H : Heap) : Prop := ∃ tys Ls f, hq base D am K I R s H tys Ls f
theorem ent_app {am : Lb → Nat} {tys t2 : List (ClassId × FieldType)} {k n : Nat} {i : Nat → Int32} {r : Nat → Option Lb} {e : va_E} (h : ent am tys k n i r e) : ent am (tys ++ t2) k n i r e := by
  have ha : ∀ {t0 : Nat} {x : ClassId × FieldType}, tys[t0]? = some x → (tys ++ t2)[t0]? = some x := fun hx => by
    rw [List.getElem?_append_left (List.getElem?_eq_some_iff.mp hx).1]; exact hx
  rcases h with h | ⟨h0, cA, t0, h1, h2⟩ | ⟨h0, cA, t0, h1, h2⟩ | ⟨h0, cA, t0, h1, h2⟩
  · exact Or.inl h
  · exact Or.inr (Or.inl ⟨h0, cA, t0, h1, ha h2⟩)
  · exact Or.inr (Or.inr (Or.inl ⟨h0, cA, t0, h1, ha h2⟩))
  · exact Or.inr (Or.inr (Or.inr ⟨h0, cA, t0, h1, ha h2⟩))
theorem ent_am {am am' : Lb → Nat} {tys : List (ClassId × FieldType)} {k n : Nat} {i : Nat → Int32} {r : Nat → Option Lb} {e : va_E} (hr : ∀ j L', r j = some L' → am' L' = am L') (h : ent am tys k n i r e) : ent am' tys k n i r e := by
  have e1 : ∀ j, (r j).map am' = (r j).map am := fun j => by
    cases hj : r j with
    | none => rfl
    | some L' => simp [hr j L' hj]
  rcases h with ⟨h0, fs, h1, h2, h3⟩ | h | h | ⟨h0, cA, t0, h1, h2⟩
  · exact Or.inl ⟨h0, fs, h1, h2, fun j hj => by rw [h3 j hj, e1]⟩
  · exact Or.inr (Or.inl h)
  · exact Or.inr (Or.inr (Or.inl h))
  · exact Or.inr (Or.inr (Or.inr ⟨h0, cA, t0, by rw [h1]; simp only [e1], h2⟩))
theorem hp_moved {base : Nat} {D : va_G} {am : Lb → Nat} {K : KM} {I : IM} {R : RM} {s U : State} {H : Heap} (hvm : s.vm.Alike U.vm) (h : hp base D am K I R s H) : hp base D am K I R U H := by
  obtain ⟨tys, Ls, f, h1, h2, h3, h4, h5, h6, h7⟩ := h
  exact ⟨tys, Ls, f, va_K.moved hvm h1, h2, h3, h4, fun L n hL => ⟨va_X.moved hvm (h5 L n hL).1, (h5 L n hL).2⟩, h6, h7⟩
end
section
/-! what holds of every start below the law: words, strings, the statics of Throwable -/
theorem okw_cases {w : Cond} (h : okw w = true) : goodWord w = true ∨ (∃ a b, w = .castable a b) ∨ (∃ x, w = .declares x) ∨ (∃ a i x q, w = .methodLinkNest a i x q) ∨ ∃ a i b n d q, w = .fieldLinkNest a i b n d q := by
  unfold okw at h
  rw [Bool.or_eq_true] at h
  rcases h with h | h
  · exact Or.inl h
  · split at h
    · exact Or.inr (Or.inl ⟨_, _, rfl⟩)
    · exact Or.inr (Or.inr (Or.inl ⟨_, rfl⟩))
    · exact Or.inr (Or.inr (Or.inr (Or.inl ⟨_, _, _, _, rfl⟩)))
    · exact Or.inr (Or.inr (Or.inr (Or.inr ⟨_, _, _, _, _, _, rfl⟩)))
    · cases h
theorem okw_tab {w : Cond} (h : okw w = true) : w.onTables = true ∨ ∃ ty, w = .arrayClass ty := by
  rcases okw_cases h with h | ⟨a, b, rfl⟩ | ⟨x, rfl⟩ | ⟨a, i, x, q, rfl⟩ | ⟨a, i, b, n, d, q, rfl⟩
  · rcases good_of_word h with g | g
    · rw [Bool.and_eq_true] at g
      exact Or.inl g.1
    · exact Or.inr g
  · exact Or.inl rfl
  · exact Or.inl rfl
  · exact Or.inl rfl
  · exact Or.inl rfl
theorem okw_use {w : Cond} (h : okw w = true) {A A' : Array Value} {U : State} (hb : w.before A U = true) : w.before A' U = true := by
  rcases okw_tab h with g | ⟨ty, rfl⟩
  · exact va_any g hb
  · exact word_at (State.WarmedH.refl U) (Or.inr ⟨ty, rfl⟩) hb
theorem okw_warm {w : Cond} (h : okw w = true) {s U : State} (hW : s.WarmedH U.vm) (hb : w.before #[] s = true) : w.before #[] U = true := by
  rcases okw_cases h with h | ⟨a, b, rfl⟩ | ⟨x, rfl⟩ | ⟨a, i, x, q, rfl⟩ | ⟨a, i, b, n, d, q, rfl⟩
  · exact word_at hW (good_of_word h) hb
  · exact va_Nw.warmC hW hb
  · exact va_Nw.warmD hW hb
  · exact va_Nw.warmM hW hb
  · exact va_Nw.warmF hW hb
def sfp (base : Nat) (s : State) (H : Heap) : Prop :=
  (∀ w ∈ lw_tbl, okw w = true → w.before #[] s = true) ∧ (∀ k, 9 ≤ k → k ≤ 12 → va_AO (elN k) s) ∧ (∀ q ∈ pg_st, ∃ sa, vk_R q.1 q.2.1 q.2.2 sa s) ∧
  (∀ e f, pg_ex e ≠ pg_ex f → va_Nc (pg_ex e) (pg_ex f) s) ∧ vx_Zq Bundle.tN "UNASSIGNED_STACK" Bundle.steD (ab base) s H ∧ vx_Zq Bundle.tN "SUPPRESSED_SENTINEL" Bundle.listD (ab base) s H ∧ base ≤ H.size
theorem sfp_word {base : Nat} {s : State} {H : Heap} (h : sfp base s H) {k : Nat} {w : Cond} (hw : isw k w = true) {A : Array Value} : w.before A s = true := by
  unfold isw at hw
  rw [Bool.and_eq_true, decide_eq_true_eq] at hw
  exact okw_use hw.2 (h.1 w (List.mem_of_getElem? hw.1) hw.2)
theorem sfp_warm {base : Nat} {s U : State} {H H1 : Heap} (hW : s.WarmedH U.vm) (hz : H.size ≤ H1.size) (hk : ∀ q : Nat, q < H.size → ¬ ab base q → H1[q]? = H[q]?) (h : sfp base s H) : sfp base U H1 := by
  obtain ⟨h1, h2, h3, h4, h5, h6, h7⟩ := h
  refine ⟨fun w hw ho => okw_warm ho hW (h1 w hw ho), fun k a b => va_AO.moved hW.alike (h2 k a b), fun q hq => ?_, fun e f hef => va_Nc.moved hW.alike (h4 e f hef), vx_Zq.moved hW.alike (vx_Zq.kept h5 hk), vx_Zq.moved hW.alike (vx_Zq.kept h6 hk), Nat.le_trans h7 hz⟩
  obtain ⟨sa, hs⟩ := h3 q hq
  exact ⟨sa, vk_R.warm hW hs⟩
theorem vw_at : ∀ ci, ci < 6 → vwCl[ci]? = some (clC ci, clT ci, nfl ci)
  | 0, _ => rfl
  | 1, _ => rfl
  | 2, _ => rfl
  | 3, _ => rfl
  | 4, _ => rfl
  | 5, _ => rfl
  | n + 6, h => absurd h (by omega)
set_option maxRecDepth 100000 in
theorem uws_ok : (List.range 6).all (fun ci => (u_ws (clC ci) (clT ci) (nfl ci)).all (fun w => decide (w ∈ lw_tbl) && okw w)) = true := by decide +kernel
theorem uws_at {ci : Nat} (h : ci < 6) {base : Nat} {s : State} {H : Heap} (hs : sfp base s H) {A : Array Value} : ∀ w ∈ u_ws (clC ci) (clT ci) (nfl ci), w.before A s = true := by
  intro w hw
  have h1 := List.all_eq_true.mp uws_ok ci (List.mem_range.mpr h)
  have h2 := List.all_eq_true.mp h1 w hw
  rw [Bool.and_eq_true, decide_eq_true_eq] at h2
  exact okw_use h2.2 (hs.1 w h2.1 h2.2)
theorem tyc_at : ∀ ci, ci < 6 → ∀ k, k < nfl ci → parseFieldDescriptor (clT ci k).2.2.1 = some (tyc ci k)
  | 0, _ => tyX0_ok
  | 1, _ => tyX1_ok
  | 2, _ => tyX2_ok
  | 3, _ => tyX3_ok
  | 4, _ => tyX4_ok
  | 5, _ => tyX5_ok
  | n + 6, h => absurd h (by omega)
theorem nmc_at : ∀ ci, ci < 6 → ∀ a, a < nfl ci → ∀ b, b < nfl ci → a ≠ b → (clT ci a).2.1 ≠ (clT ci b).2.1
  | 0, _ => nmX0
  | 1, _ => nmX1
  | 2, _ => nmX2
  | 3, _ => nmX3
  | 4, _ => nmX4
  | 5, _ => nmX5
  | n + 6, h => absurd h (by omega)
/-- what a method's frame stands on -/
def Cx (p : Program) (s : State) (m : MethodId) (meth : Method) (c : Code) (y : Nat) : Prop :=
  p.tables.exec = Jvm.exec ∧ c.code = pg_by y ∧ meth.sig.returnType = pg_rt y ∧ c.maxLocals = pg_ml y ∧ s.vm.findClass (pg_own y) = some m.cls ∧ meth.locks = false ∧ meth.name = (pg_nm y).name ∧ c.exceptionTable.toList = tableOf (pg_hh y)
def orel (am : Lb → Nat) (K : KM) (r : Option PV) (o : Outcome) : Prop := match r with
  | none => o = .returned none
  | some v => ∃ v', o = .returned (some v') ∧ vr am K v v'
def QcF (base : Nat) (D : va_G) (am0 : Lb → Nat) (K0 : KM) (Q : QT) : Array Value → State → Outcome → State → Prop := fun _ st o t =>
  ∃ r K' I' R' am', Q (.inl r) K' I' R' ∧ orel am' K' r o ∧ hp base D am' K' I' R' t t.heap ∧ ext am0 K0 am' K' ∧ va_F (ab base) st t
def XcF (base : Nat) (D : va_G) (am0 : Lb → Nat) (K0 : KM) (Q : QT) : String → State → State → Prop := fun E st t =>
  ∃ e K' I' R' am', Q (.inr e) K' I' R' ∧ (E = pg_ex e ∧ 1 ≤ e ∧ e ≤ 3) ∧ hp base D am' K' I' R' t t.heap ∧ ext am0 K0 am' K' ∧ va_F (ab base) st t
def Snd (l : Launch) (base : Nat) (D : va_G) : XT := fun d b y i ls st K I R Q =>
  ∀ (p : Program) (e : Env) (rm : Room) (s : State) (m : MethodId) (args : Array Value) (below : List Frame) (meth : Method) (c : Code) (H : Heap) (locs : List Loc) (cells slots : Nat) (lsA : Array Slot) (stA : List Value) (am am0 : Lb → Nat) (K0 : KM),
    Cx p s m meth c y → sfp base s s.heap → pg_own y ≠ "java/lang/Math" → d ≤ rm.frames → 80 * d ≤ rm.locals → cells + b ≤ rm.cells → slots + b ≤ rm.slots →
    hp base D am K I R s H → va_S (ab base) s.heap H locs → lr am K ls lsA (pg_ml y) → sr am K st stA → ext am0 K0 am K →
    W p l e rm s m args below meth c H locs cells slots (vx_MQ below (QcF base D am0 K0 Q) (XcF base D am0 K0 Q) args s rm.cells rm.slots (ab base)) (F0 m (pg_pc y i) lsA stA)
end
section
/-! the steps of the pure machine are the machine's -/
theorem sr_i {am : Lb → Nat} {K : KM} {x : Int32} {r : List PV} {c : List Value} (h : sr am K (pI x :: r) c) : ∃ r', c = .int x :: r' ∧ sr am K r r' := by
  cases c with
  | nil => exact h.elim
  | cons v r' => exact ⟨r', by rw [show v = .int x from h.1], h.2⟩
theorem sr_l {am : Lb → Nat} {K : KM} {x : Int32} {r : List PV} {c : List Value} (h : sr am K (pL x :: r) c) : ∃ r', c = .long x.toInt64 :: r' ∧ sr am K r r' := by
  cases c with
  | nil => exact h.elim
  | cons v r' => exact ⟨r', by rw [show v = .long x.toInt64 from h.1], h.2⟩
theorem sr_r {am : Lb → Nat} {K : KM} {L : Lb} {r : List PV} {c : List Value} (h : sr am K (pR (some L) :: r) c) : ∃ r', c = .ref (am L) :: r' ∧ K L ≠ none ∧ sr am K r r' := by
  cases c with
  | nil => exact h.elim
  | cons v r' => exact ⟨r', by rw [h.1.1], h.1.2, h.2⟩
theorem sr_c {am : Lb → Nat} {K : KM} {v : PV} {r : List PV} {c : List Value} (h : sr am K (v :: r) c) : ∃ v' r', c = v' :: r' ∧ vr am K v v' ∧ sr am K r r' := by
  cases c with
  | nil => exact h.elim
  | cons v' r' => exact ⟨v', r', rfl, h.1, h.2⟩
theorem sr_nil {am : Lb → Nat} {K : KM} {c : List Value} (h : sr am K [] c) : c = [] := by
  cases c with
  | nil => rfl
  | cons v r => exact h.elim
theorem vr_q {am : Lb → Nat} {K : KM} {r : Option Lb} {v : Value} (h : vr am K (pR r) v) : v = va_rf (r.map am) := by
  cases r with
  | none => exact h
  | some L => exact h.1
theorem qv_r {am : Lb → Nat} {K : KM} {r : Option Lb} (h : ∀ L, r = some L → K L ≠ none) : vr am K (pR r) (va_rf (r.map am)) := by
  cases r with
  | none => rfl
  | some L => exact ⟨rfl, h L rfl⟩

set_option maxHeartbeats 1000000 in
theorem sd_0 {l : Launch} {base : Nat} {D : va_G} {d b y i : Nat} {ls : List (Option PV)} {st : List PV} {K : KM} {I : IM} {R : RM} {Q : QT} {a c : Nat} {z : Int} (HC : chkB y i 0 a c z (pg_wd y i) = true) (h9 : stA (Snd l base D) 0 a c z d b y i ls st K I R Q) : Snd l base D d b y i ls st K I R Q := by
  intro p e rm s m args below meth cc H locs cells slots lsA stA am am0 K0 hcx hsf hma hdf hdl hcb hsb hh hS hl hs he
  obtain ⟨hx, hb, hr, hml, hown, hlk, hnm, htb⟩ := id hcx
  have h : Snd l base D d b y (i + 1) ls (pI (Int32.ofInt z) :: st) K I R Q := h9
  have HC : (dc y i (.iconst z) 1 || (dc y i (.bipush z) 2 && decide ((Int8.ofInt z).toInt32 = Int32.ofInt z)) || (dc y i (.sipush z) 3 && decide ((Int16.ofInt z).toInt32 = Int32.ofInt z)) || (dc y i (.ldc c) 2 && isw ((pg_wd y i).getD 0 0) (.constant (pg_own y) c (Int32.ofInt z)))) = true := HC
  rw [Bool.or_eq_true, Bool.or_eq_true, Bool.or_eq_true, Bool.and_eq_true, Bool.and_eq_true, Bool.and_eq_true, decide_eq_true_eq, decide_eq_true_eq] at HC
  have hs' : sr am K (pI (Int32.ofInt z) :: st) (.int (Int32.ofInt z) :: stA) := ⟨rfl, hs⟩
  rcases HC with ((h0 | ⟨h0, h1⟩) | ⟨h0, h1⟩) | ⟨h0, h1⟩
  · obtain ⟨hd, hn⟩ := dc_at h0
    refine lv_iconst hx hb hd rfl ?_
    rw [← hn]
    exact h p e rm s m args below meth cc H locs cells slots lsA _ am am0 K0 hcx hsf hma hdf hdl hcb hsb hh hS hl hs' he
  · obtain ⟨hd, hn⟩ := dc_at h0
    refine lv_bipush hx hb hd h1 ?_
    rw [← hn]
    exact h p e rm s m args below meth cc H locs cells slots lsA _ am am0 K0 hcx hsf hma hdf hdl hcb hsb hh hS hl hs' he
  · obtain ⟨hd, hn⟩ := dc_at h0
    refine lv_sipush hx hb hd h1 ?_
    rw [← hn]
    exact h p e rm s m args below meth cc H locs cells slots lsA _ am am0 K0 hcx hsf hma hdf hdl hcb hsb hh hS hl hs' he
  · obtain ⟨hd, hn⟩ := dc_at h0
    refine W.ldc (v := Int32.ofInt z) hx hb hown (sfp_word hsf h1) rfl hd ?_
    show W p l e rm s m args below meth cc H locs cells slots _ (F0 m (pg_pc y i + 2) lsA (.int (Int32.ofInt z) :: stA))
    rw [← hn]
    exact h p e rm s m args below meth cc H locs cells slots lsA _ am am0 K0 hcx hsf hma hdf hdl hcb hsb hh hS hl hs' he

set_option maxHeartbeats 1000000 in
theorem sd_1 {l : Launch} {base : Nat} {D : va_G} {d b y i : Nat} {ls : List (Option PV)} {st : List PV} {K : KM} {I : IM} {R : RM} {Q : QT} {a c : Nat} {z : Int} (HC : chkB y i 1 a c z (pg_wd y i) = true) (h9 : stA (Snd l base D) 1 a c z d b y i ls st K I R Q) : Snd l base D d b y i ls st K I R Q := by
  intro p e rm s m args below meth cc H locs cells slots lsA stA am am0 K0 hcx hsf hma hdf hdl hcb hsb hh hS hl hs he
  obtain ⟨hx, hb, hr, hml, hown, hlk, hnm, htb⟩ := id hcx
  obtain ⟨x, hx1, h⟩ := (show ∃ x, ls[a]? = some (some (pI x)) ∧ Snd l base D d b y (i + 1) ls (pI x :: st) K I R Q from h9)
  have HC : (dc y i (.iload a) 2 || (decide (a < 4) && dc y i (.iload_n (fF a)) 1)) = true := HC
  rw [Bool.or_eq_true, Bool.and_eq_true, decide_eq_true_eq] at HC
  obtain ⟨v', hv1, hv2⟩ := lr_get hl hx1
  have hs' : sr am K (pI x :: st) (v' :: stA) := ⟨hv2, hs⟩
  obtain rfl := (show v' = .int x from hv2)
  rcases HC with h0 | ⟨h1, h0⟩
  · obtain ⟨hd, hn⟩ := dc_at h0
    refine lv_iload hx hb hd hv1 ?_
    rw [← hn]
    exact h p e rm s m args below meth cc H locs cells slots lsA _ am am0 K0 hcx hsf hma hdf hdl hcb hsb hh hS hl hs' he
  · obtain ⟨hd, hn⟩ := dc_at h0
    refine lv_iload_n (i := a) hx hb hd (by rw [fF, dif_pos h1]) hv1 ?_
    rw [← hn]
    exact h p e rm s m args below meth cc H locs cells slots lsA _ am am0 K0 hcx hsf hma hdf hdl hcb hsb hh hS hl hs' he

set_option maxHeartbeats 1000000 in
theorem sd_3 {l : Launch} {base : Nat} {D : va_G} {d b y i : Nat} {ls : List (Option PV)} {st : List PV} {K : KM} {I : IM} {R : RM} {Q : QT} {a c : Nat} {z : Int} (HC : chkB y i 3 a c z (pg_wd y i) = true) (h9 : stA (Snd l base D) 3 a c z d b y i ls st K I R Q) : Snd l base D d b y i ls st K I R Q := by
  intro p e rm s m args below meth cc H locs cells slots lsA stA am am0 K0 hcx hsf hma hdf hdl hcb hsb hh hS hl hs he
  obtain ⟨hx, hb, hr, hml, hown, hlk, hnm, htb⟩ := id hcx
  obtain ⟨x, hx1, h⟩ := (show ∃ x, ls[a]? = some (some (pR (some x))) ∧ Snd l base D d b y (i + 1) ls (pR (some x) :: st) K I R Q from h9)
  have HC : (dc y i (.aload a) 2 || (decide (a < 4) && dc y i (.aload_n (fF a)) 1)) = true := HC
  rw [Bool.or_eq_true, Bool.and_eq_true, decide_eq_true_eq] at HC
  obtain ⟨v', hv1, hv2⟩ := lr_get hl hx1
  have hs' : sr am K (pR (some x) :: st) (v' :: stA) := ⟨hv2, hs⟩
  obtain ⟨rfl, hkx⟩ := hv2
  rcases HC with h0 | ⟨h1, h0⟩
  · obtain ⟨hd, hn⟩ := dc_at h0
    refine lv_aload hx hb hd hv1 ?_
    rw [← hn]
    exact h p e rm s m args below meth cc H locs cells slots lsA _ am am0 K0 hcx hsf hma hdf hdl hcb hsb hh hS hl hs' he
  · obtain ⟨hd, hn⟩ := dc_at h0
    refine lv_aload_n (i := a) hx hb hd (by rw [fF, dif_pos h1]) hv1 ?_
    rw [← hn]
    exact h p e rm s m args below meth cc H locs cells slots lsA _ am am0 K0 hcx hsf hma hdf hdl hcb hsb hh hS hl hs' he

set_option maxHeartbeats 1000000 in
theorem sd_2 {l : Launch} {base : Nat} {D : va_G} {d b y i : Nat} {ls : List (Option PV)} {st : List PV} {K : KM} {I : IM} {R : RM} {Q : QT} {a c : Nat} {z : Int} (HC : chkB y i 2 a c z (pg_wd y i) = true) (h9 : stA (Snd l base D) 2 a c z d b y i ls st K I R Q) : Snd l base D d b y i ls st K I R Q := by
  intro p e rm s m args below meth cc H locs cells slots lsA stA am am0 K0 hcx hsf hma hdf hdl hcb hsb hh hS hl hs he
  obtain ⟨hx, hb, hr, hml, hown, hlk, hnm, htb⟩ := id hcx
  obtain ⟨x, r, rfl, ha, h⟩ := (show ∃ x r, st = pI x :: r ∧ a < ls.length ∧ Snd l base D d b y (i + 1) (ls.set a (some (pI x))) r K I R Q from h9)
  obtain ⟨rA, rfl, hs2⟩ := sr_i hs
  have HC : (dc y i (.istore a) 2 || (decide (a < 4) && dc y i (.istore_n (fF a)) 1)) = true := HC
  rw [Bool.or_eq_true, Bool.and_eq_true, decide_eq_true_eq] at HC
  obtain ⟨hlen, lv, hlv, hlr⟩ := id hl
  rcases HC with h0 | ⟨h1, h0⟩
  · obtain ⟨hd, hn⟩ := dc_at h0
    refine lv_istore hx hb hd hlv (by rw [← hlen]; exact ha) rfl (fun lsB hB => ?_)
    rw [← hn]
    exact h p e rm s m args below meth cc H locs cells slots lsB _ am am0 K0 hcx hsf hma hdf hdl hcb hsb hh hS (lr_set hlen hlr rfl rfl hB) hs2 he
  · obtain ⟨hd, hn⟩ := dc_at h0
    refine lv_istore_n (i := a) hx hb hd (by rw [fF, dif_pos h1]) hlv (by rw [← hlen]; exact ha) rfl (fun lsB hB => ?_)
    rw [← hn]
    exact h p e rm s m args below meth cc H locs cells slots lsB _ am am0 K0 hcx hsf hma hdf hdl hcb hsb hh hS (lr_set hlen hlr rfl rfl hB) hs2 he

set_option maxHeartbeats 1000000 in
theorem sd_4 {l : Launch} {base : Nat} {D : va_G} {d b y i : Nat} {ls : List (Option PV)} {st : List PV} {K : KM} {I : IM} {R : RM} {Q : QT} {a c : Nat} {z : Int} (HC : chkB y i 4 a c z (pg_wd y i) = true) (h9 : stA (Snd l base D) 4 a c z d b y i ls st K I R Q) : Snd l base D d b y i ls st K I R Q := by
  intro p e rm s m args below meth cc H locs cells slots lsA stA am am0 K0 hcx hsf hma hdf hdl hcb hsb hh hS hl hs he
  obtain ⟨hx, hb, hr, hml, hown, hlk, hnm, htb⟩ := id hcx
  obtain ⟨v, r, rfl, hvv, ha, h⟩ := (show ∃ v r, st = v :: r ∧ (v = pO ∨ ∃ L, v = pR (some L)) ∧ a < ls.length ∧ Snd l base D d b y (i + 1) (ls.set a (some v)) r K I R Q from h9)
  obtain ⟨v', rA, rfl, hvr, hs2⟩ := sr_c hs
  obtain ⟨q, rfl⟩ : ∃ q, v' = .ref q := by
    rcases hvv with rfl | ⟨L, rfl⟩
    · exact hvr
    · exact ⟨am L, hvr.1⟩
  have HC : (dc y i (.astore a) 2 || (decide (a < 4) && dc y i (.astore_n (fF a)) 1)) = true := HC
  rw [Bool.or_eq_true, Bool.and_eq_true, decide_eq_true_eq] at HC
  obtain ⟨hlen, lv, hlv, hlr⟩ := id hl
  rcases HC with h0 | ⟨h1, h0⟩
  · obtain ⟨hd, hn⟩ := dc_at h0
    refine lv_astore hx hb hd hlv (by rw [← hlen]; exact ha) rfl (fun lsB hB => ?_)
    rw [← hn]
    exact h p e rm s m args below meth cc H locs cells slots lsB _ am am0 K0 hcx hsf hma hdf hdl hcb hsb hh hS (lr_set hlen hlr hvr rfl hB) hs2 he
  · obtain ⟨hd, hn⟩ := dc_at h0
    refine lv_astore_n (i := a) hx hb hd (by rw [fF, dif_pos h1]) hlv (by rw [← hlen]; exact ha) rfl (fun lsB hB => ?_)
    rw [← hn]
    exact h p e rm s m args below meth cc H locs cells slots lsB _ am am0 K0 hcx hsf hma hdf hdl hcb hsb hh hS (lr_set hlen hlr hvr rfl hB) hs2 he

set_option maxHeartbeats 1000000 in
theorem sd_5 {l : Launch} {base : Nat} {D : va_G} {d b y i : Nat} {ls : List (Option PV)} {st : List PV} {K : KM} {I : IM} {R : RM} {Q : QT} {a c : Nat} {z : Int} (HC : chkB y i 5 a c z (pg_wd y i) = true) (h9 : stA (Snd l base D) 5 a c z d b y i ls st K I R Q) : Snd l base D d b y i ls st K I R Q := by
  intro p e rm s m args below meth cc H locs cells slots lsA stA am am0 K0 hcx hsf hma hdf hdl hcb hsb hh hS hl hs he
  obtain ⟨hx, hb, hr, hml, hown, hlk, hnm, htb⟩ := id hcx
  obtain ⟨x, hx1, h⟩ := (show ∃ x, ls[a]? = some (some (pI x)) ∧ Snd l base D d b y (i + 1) (ls.set a (some (pI (x + Int32.ofInt z)))) st K I R Q from h9)
  obtain ⟨hd, hn⟩ := dc_at (show dc y i (.iinc a z) 3 = true from HC)
  obtain ⟨hlen, lv, hlv, hlr⟩ := id hl
  obtain ⟨v', hm, hv2, -⟩ := hlr a _ hx1
  obtain rfl := (show v' = .int x from hv2)
  obtain ⟨k, hk⟩ := List.mem_iff_getElem?.mp hm
  have ha : a < ls.length := (List.getElem?_eq_some_iff.mp hx1).1
  refine lv_iinc hx hb hd hlv hk rfl (by rw [← hlen]; exact ha) rfl (fun lsB hB => ?_)
  rw [← hn]
  exact h p e rm s m args below meth cc H locs cells slots lsB _ am am0 K0 hcx hsf hma hdf hdl hcb hsb hh hS (lr_set hlen hlr rfl rfl hB) hs he

set_option maxHeartbeats 1000000 in
theorem sd_6 {l : Launch} {base : Nat} {D : va_G} {d b y i : Nat} {ls : List (Option PV)} {st : List PV} {K : KM} {I : IM} {R : RM} {Q : QT} {a c : Nat} {z : Int} (HC : chkB y i 6 a c z (pg_wd y i) = true) (h9 : stA (Snd l base D) 6 a c z d b y i ls st K I R Q) : Snd l base D d b y i ls st K I R Q := by
  intro p e rm s m args below meth cc H locs cells slots lsA stA am am0 K0 hcx hsf hma hdf hdl hcb hsb hh hS hl hs he
  obtain ⟨hx, hb, hr, hml, hown, hlk, hnm, htb⟩ := id hcx
  obtain ⟨u, v, r, rfl, h⟩ := (show ∃ u v r, st = pI v :: pI u :: r ∧ Snd l base D d b y (i + 1) ls (pI (u + v) :: r) K I R Q from h9)
  obtain ⟨hd, hn⟩ := dc_at (show dc y i .iadd 1 = true from HC)
  obtain ⟨r1, rfl, hs1⟩ := sr_i hs
  obtain ⟨r2, rfl, hs2⟩ := sr_i hs1
  refine lv_iadd hx hb hd ?_
  rw [← hn]
  exact h p e rm s m args below meth cc H locs cells slots lsA _ am am0 K0 hcx hsf hma hdf hdl hcb hsb hh hS hl ⟨rfl, hs2⟩ he

set_option maxHeartbeats 1000000 in
theorem sd_7 {l : Launch} {base : Nat} {D : va_G} {d b y i : Nat} {ls : List (Option PV)} {st : List PV} {K : KM} {I : IM} {R : RM} {Q : QT} {a c : Nat} {z : Int} (HC : chkB y i 7 a c z (pg_wd y i) = true) (h9 : stA (Snd l base D) 7 a c z d b y i ls st K I R Q) : Snd l base D d b y i ls st K I R Q := by
  intro p e rm s m args below meth cc H locs cells slots lsA stA am am0 K0 hcx hsf hma hdf hdl hcb hsb hh hS hl hs he
  obtain ⟨hx, hb, hr, hml, hown, hlk, hnm, htb⟩ := id hcx
  obtain ⟨u, v, r, rfl, h⟩ := (show ∃ u v r, st = pI v :: pI u :: r ∧ Snd l base D d b y (i + 1) ls (pI (u - v) :: r) K I R Q from h9)
  obtain ⟨hd, hn⟩ := dc_at (show dc y i .isub 1 = true from HC)
  obtain ⟨r1, rfl, hs1⟩ := sr_i hs
  obtain ⟨r2, rfl, hs2⟩ := sr_i hs1
  refine lv_isub hx hb hd ?_
  rw [← hn]
  exact h p e rm s m args below meth cc H locs cells slots lsA _ am am0 K0 hcx hsf hma hdf hdl hcb hsb hh hS hl ⟨rfl, hs2⟩ he

set_option maxHeartbeats 1000000 in
theorem sd_8 {l : Launch} {base : Nat} {D : va_G} {d b y i : Nat} {ls : List (Option PV)} {st : List PV} {K : KM} {I : IM} {R : RM} {Q : QT} {a c : Nat} {z : Int} (HC : chkB y i 8 a c z (pg_wd y i) = true) (h9 : stA (Snd l base D) 8 a c z d b y i ls st K I R Q) : Snd l base D d b y i ls st K I R Q := by
  intro p e rm s m args below meth cc H locs cells slots lsA stA am am0 K0 hcx hsf hma hdf hdl hcb hsb hh hS hl hs he
  obtain ⟨hx, hb, hr, hml, hown, hlk, hnm, htb⟩ := id hcx
  obtain ⟨u, v, r, rfl, h⟩ := (show ∃ u v r, st = pI v :: pI u :: r ∧ Snd l base D d b y (i + 1) ls (pI (u * v) :: r) K I R Q from h9)
  obtain ⟨hd, hn⟩ := dc_at (show dc y i .imul 1 = true from HC)
  obtain ⟨r1, rfl, hs1⟩ := sr_i hs
  obtain ⟨r2, rfl, hs2⟩ := sr_i hs1
  refine lv_imul hx hb hd ?_
  rw [← hn]
  exact h p e rm s m args below meth cc H locs cells slots lsA _ am am0 K0 hcx hsf hma hdf hdl hcb hsb hh hS hl ⟨rfl, hs2⟩ he

set_option maxHeartbeats 1000000 in
theorem sd_9 {l : Launch} {base : Nat} {D : va_G} {d b y i : Nat} {ls : List (Option PV)} {st : List PV} {K : KM} {I : IM} {R : RM} {Q : QT} {a c : Nat} {z : Int} (HC : chkB y i 9 a c z (pg_wd y i) = true) (h9 : stA (Snd l base D) 9 a c z d b y i ls st K I R Q) : Snd l base D d b y i ls st K I R Q := by
  intro p e rm s m args below meth cc H locs cells slots lsA stA am am0 K0 hcx hsf hma hdf hdl hcb hsb hh hS hl hs he
  obtain ⟨hx, hb, hr, hml, hown, hlk, hnm, htb⟩ := id hcx
  obtain ⟨u, v, r, rfl, hne, h⟩ := (show ∃ u v r, st = pI v :: pI u :: r ∧ ¬ v = 0 ∧ Snd l base D d b y (i + 1) ls (pI (u / v) :: r) K I R Q from h9)
  obtain ⟨hd, hn⟩ := dc_at (show dc y i .idiv 1 = true from HC)
  obtain ⟨r1, rfl, hs1⟩ := sr_i hs
  obtain ⟨r2, rfl, hs2⟩ := sr_i hs1
  refine lv_idiv hx hb hd hne ?_
  rw [← hn]
  exact h p e rm s m args below meth cc H locs cells slots lsA _ am am0 K0 hcx hsf hma hdf hdl hcb hsb hh hS hl ⟨rfl, hs2⟩ he

set_option maxHeartbeats 1000000 in
theorem sd_10 {l : Launch} {base : Nat} {D : va_G} {d b y i : Nat} {ls : List (Option PV)} {st : List PV} {K : KM} {I : IM} {R : RM} {Q : QT} {a c : Nat} {z : Int} (HC : chkB y i 10 a c z (pg_wd y i) = true) (h9 : stA (Snd l base D) 10 a c z d b y i ls st K I R Q) : Snd l base D d b y i ls st K I R Q := by
  intro p e rm s m args below meth cc H locs cells slots lsA stA am am0 K0 hcx hsf hma hdf hdl hcb hsb hh hS hl hs he
  obtain ⟨hx, hb, hr, hml, hown, hlk, hnm, htb⟩ := id hcx
  obtain ⟨u, v, r, rfl, hne, h⟩ := (show ∃ u v r, st = pI v :: pI u :: r ∧ ¬ v = 0 ∧ Snd l base D d b y (i + 1) ls (pI (u - u / v * v) :: r) K I R Q from h9)
  obtain ⟨hd, hn⟩ := dc_at (show dc y i .irem 1 = true from HC)
  obtain ⟨r1, rfl, hs1⟩ := sr_i hs
  obtain ⟨r2, rfl, hs2⟩ := sr_i hs1
  refine lv_irem hx hb hd hne ?_
  rw [← hn]
  exact h p e rm s m args below meth cc H locs cells slots lsA _ am am0 K0 hcx hsf hma hdf hdl hcb hsb hh hS hl ⟨rfl, hs2⟩ he

set_option maxHeartbeats 1000000 in
theorem sd_12 {l : Launch} {base : Nat} {D : va_G} {d b y i : Nat} {ls : List (Option PV)} {st : List PV} {K : KM} {I : IM} {R : RM} {Q : QT} {a c : Nat} {z : Int} (HC : chkB y i 12 a c z (pg_wd y i) = true) (h9 : stA (Snd l base D) 12 a c z d b y i ls st K I R Q) : Snd l base D d b y i ls st K I R Q := by
  intro p e rm s m args below meth cc H locs cells slots lsA stA am am0 K0 hcx hsf hma hdf hdl hcb hsb hh hS hl hs he
  obtain ⟨hx, hb, hr, hml, hown, hlk, hnm, htb⟩ := id hcx
  obtain ⟨u, v, r, rfl, h⟩ := (show ∃ u v r, st = pI v :: pI u :: r ∧ Snd l base D d b y (i + 1) ls (pI (u &&& v) :: r) K I R Q from h9)
  obtain ⟨hd, hn⟩ := dc_at (show dc y i .iand 1 = true from HC)
  obtain ⟨r1, rfl, hs1⟩ := sr_i hs
  obtain ⟨r2, rfl, hs2⟩ := sr_i hs1
  refine lv_iand hx hb hd ?_
  rw [← hn]
  exact h p e rm s m args below meth cc H locs cells slots lsA _ am am0 K0 hcx hsf hma hdf hdl hcb hsb hh hS hl ⟨rfl, hs2⟩ he

set_option maxHeartbeats 1000000 in
theorem sd_54 {l : Launch} {base : Nat} {D : va_G} {d b y i : Nat} {ls : List (Option PV)} {st : List PV} {K : KM} {I : IM} {R : RM} {Q : QT} {a c : Nat} {z : Int} (HC : chkB y i 54 a c z (pg_wd y i) = true) (h9 : stA (Snd l base D) 54 a c z d b y i ls st K I R Q) : Snd l base D d b y i ls st K I R Q := by
  intro p e rm s m args below meth cc H locs cells slots lsA stA am am0 K0 hcx hsf hma hdf hdl hcb hsb hh hS hl hs he
  obtain ⟨hx, hb, hr, hml, hown, hlk, hnm, htb⟩ := id hcx
  obtain ⟨u, v, r, rfl, h⟩ := (show ∃ u v r, st = pI v :: pI u :: r ∧ Snd l base D d b y (i + 1) ls (pI (u ||| v) :: r) K I R Q from h9)
  obtain ⟨hd, hn⟩ := dc_at (show dc y i .ior 1 = true from HC)
  obtain ⟨r1, rfl, hs1⟩ := sr_i hs
  obtain ⟨r2, rfl, hs2⟩ := sr_i hs1
  refine lv_ior hx hb hd ?_
  rw [← hn]
  exact h p e rm s m args below meth cc H locs cells slots lsA _ am am0 K0 hcx hsf hma hdf hdl hcb hsb hh hS hl ⟨rfl, hs2⟩ he

set_option maxHeartbeats 1000000 in
theorem sd_55 {l : Launch} {base : Nat} {D : va_G} {d b y i : Nat} {ls : List (Option PV)} {st : List PV} {K : KM} {I : IM} {R : RM} {Q : QT} {a c : Nat} {z : Int} (HC : chkB y i 55 a c z (pg_wd y i) = true) (h9 : stA (Snd l base D) 55 a c z d b y i ls st K I R Q) : Snd l base D d b y i ls st K I R Q := by
  intro p e rm s m args below meth cc H locs cells slots lsA stA am am0 K0 hcx hsf hma hdf hdl hcb hsb hh hS hl hs he
  obtain ⟨hx, hb, hr, hml, hown, hlk, hnm, htb⟩ := id hcx
  obtain ⟨u, v, r, rfl, h⟩ := (show ∃ u v r, st = pI v :: pI u :: r ∧ Snd l base D d b y (i + 1) ls (pI (u ^^^ v) :: r) K I R Q from h9)
  obtain ⟨hd, hn⟩ := dc_at (show dc y i .ixor 1 = true from HC)
  obtain ⟨r1, rfl, hs1⟩ := sr_i hs
  obtain ⟨r2, rfl, hs2⟩ := sr_i hs1
  refine lv_ixor hx hb hd ?_
  rw [← hn]
  exact h p e rm s m args below meth cc H locs cells slots lsA _ am am0 K0 hcx hsf hma hdf hdl hcb hsb hh hS hl ⟨rfl, hs2⟩ he

set_option maxHeartbeats 1000000 in
theorem sd_56 {l : Launch} {base : Nat} {D : va_G} {d b y i : Nat} {ls : List (Option PV)} {st : List PV} {K : KM} {I : IM} {R : RM} {Q : QT} {a c : Nat} {z : Int} (HC : chkB y i 56 a c z (pg_wd y i) = true) (h9 : stA (Snd l base D) 56 a c z d b y i ls st K I R Q) : Snd l base D d b y i ls st K I R Q := by
  intro p e rm s m args below meth cc H locs cells slots lsA stA am am0 K0 hcx hsf hma hdf hdl hcb hsb hh hS hl hs he
  obtain ⟨hx, hb, hr, hml, hown, hlk, hnm, htb⟩ := id hcx
  obtain ⟨u, v, r, rfl, h⟩ := (show ∃ u v r, st = pI v :: pI u :: r ∧ Snd l base D d b y (i + 1) ls (pI (u <<< (v &&& 31)) :: r) K I R Q from h9)
  obtain ⟨hd, hn⟩ := dc_at (show dc y i .ishl 1 = true from HC)
  obtain ⟨r1, rfl, hs1⟩ := sr_i hs
  obtain ⟨r2, rfl, hs2⟩ := sr_i hs1
  refine lv_ishl hx hb hd ?_
  rw [← hn]
  exact h p e rm s m args below meth cc H locs cells slots lsA _ am am0 K0 hcx hsf hma hdf hdl hcb hsb hh hS hl ⟨rfl, hs2⟩ he

set_option maxHeartbeats 1000000 in
theorem sd_57 {l : Launch} {base : Nat} {D : va_G} {d b y i : Nat} {ls : List (Option PV)} {st : List PV} {K : KM} {I : IM} {R : RM} {Q : QT} {a c : Nat} {z : Int} (HC : chkB y i 57 a c z (pg_wd y i) = true) (h9 : stA (Snd l base D) 57 a c z d b y i ls st K I R Q) : Snd l base D d b y i ls st K I R Q := by
  intro p e rm s m args below meth cc H locs cells slots lsA stA am am0 K0 hcx hsf hma hdf hdl hcb hsb hh hS hl hs he
  obtain ⟨hx, hb, hr, hml, hown, hlk, hnm, htb⟩ := id hcx
  obtain ⟨u, v, r, rfl, h⟩ := (show ∃ u v r, st = pI v :: pI u :: r ∧ Snd l base D d b y (i + 1) ls (pI (u >>> (v &&& 31)) :: r) K I R Q from h9)
  obtain ⟨hd, hn⟩ := dc_at (show dc y i .ishr 1 = true from HC)
  obtain ⟨r1, rfl, hs1⟩ := sr_i hs
  obtain ⟨r2, rfl, hs2⟩ := sr_i hs1
  refine lv_ishr hx hb hd ?_
  rw [← hn]
  exact h p e rm s m args below meth cc H locs cells slots lsA _ am am0 K0 hcx hsf hma hdf hdl hcb hsb hh hS hl ⟨rfl, hs2⟩ he

set_option maxHeartbeats 1000000 in
theorem sd_11 {l : Launch} {base : Nat} {D : va_G} {d b y i : Nat} {ls : List (Option PV)} {st : List PV} {K : KM} {I : IM} {R : RM} {Q : QT} {a c : Nat} {z : Int} (HC : chkB y i 11 a c z (pg_wd y i) = true) (h9 : stA (Snd l base D) 11 a c z d b y i ls st K I R Q) : Snd l base D d b y i ls st K I R Q := by
  intro p e rm s m args below meth cc H locs cells slots lsA stA am am0 K0 hcx hsf hma hdf hdl hcb hsb hh hS hl hs he
  obtain ⟨hx, hb, hr, hml, hown, hlk, hnm, htb⟩ := id hcx
  obtain ⟨u, r, rfl, h⟩ := (show ∃ u r, st = pI u :: r ∧ Snd l base D d b y (i + 1) ls (pI (-u) :: r) K I R Q from h9)
  obtain ⟨hd, hn⟩ := dc_at (show dc y i .ineg 1 = true from HC)
  obtain ⟨r1, rfl, hs1⟩ := sr_i hs
  refine lv_ineg hx hb hd ?_
  rw [← hn]
  exact h p e rm s m args below meth cc H locs cells slots lsA _ am am0 K0 hcx hsf hma hdf hdl hcb hsb hh hS hl ⟨rfl, hs1⟩ he

set_option maxHeartbeats 1000000 in
theorem sd_13 {l : Launch} {base : Nat} {D : va_G} {d b y i : Nat} {ls : List (Option PV)} {st : List PV} {K : KM} {I : IM} {R : RM} {Q : QT} {a c : Nat} {z : Int} (HC : chkB y i 13 a c z (pg_wd y i) = true) (h9 : stA (Snd l base D) 13 a c z d b y i ls st K I R Q) : Snd l base D d b y i ls st K I R Q := by
  intro p e rm s m args below meth cc H locs cells slots lsA stA am am0 K0 hcx hsf hma hdf hdl hcb hsb hh hS hl hs he
  obtain ⟨hx, hb, hr, hml, hown, hlk, hnm, htb⟩ := id hcx
  obtain ⟨v, r, rfl, hc, h⟩ := (show ∃ v r, st = v :: r ∧ isC1 v ∧ Snd l base D d b y (i + 1) ls (v :: v :: r) K I R Q from h9)
  obtain ⟨hd, hn⟩ := dc_at (show dc y i .dup 1 = true from HC)
  obtain ⟨v', r1, rfl, hv, hs1⟩ := sr_c hs
  refine lv_dup hx hb hd (vr_c1 hv hc) ?_
  rw [← hn]
  exact h p e rm s m args below meth cc H locs cells slots lsA _ am am0 K0 hcx hsf hma hdf hdl hcb hsb hh hS hl ⟨hv, hv, hs1⟩ he

set_option maxHeartbeats 1000000 in
theorem sd_14 {l : Launch} {base : Nat} {D : va_G} {d b y i : Nat} {ls : List (Option PV)} {st : List PV} {K : KM} {I : IM} {R : RM} {Q : QT} {a c : Nat} {z : Int} (HC : chkB y i 14 a c z (pg_wd y i) = true) (h9 : stA (Snd l base D) 14 a c z d b y i ls st K I R Q) : Snd l base D d b y i ls st K I R Q := by
  intro p e rm s m args below meth cc H locs cells slots lsA stA am am0 K0 hcx hsf hma hdf hdl hcb hsb hh hS hl hs he
  obtain ⟨hx, hb, hr, hml, hown, hlk, hnm, htb⟩ := id hcx
  obtain ⟨v, w, r, rfl, hc, hc2, h⟩ := (show ∃ v w r, st = v :: w :: r ∧ isC1 v ∧ isC1 w ∧ Snd l base D d b y (i + 1) ls (v :: w :: v :: w :: r) K I R Q from h9)
  obtain ⟨hd, hn⟩ := dc_at (show dc y i .dup2 1 = true from HC)
  obtain ⟨v', r1, rfl, hv, hs1⟩ := sr_c hs
  obtain ⟨w', r2, rfl, hw, hs2⟩ := sr_c hs1
  refine lv_dup2_11 hx hb hd (by first | exact vr_c1 hv hc | exact vr_c1 hw hc2) (by first | exact vr_c1 hw hc2 | exact vr_c1 hv hc) ?_
  rw [← hn]
  exact h p e rm s m args below meth cc H locs cells slots lsA _ am am0 K0 hcx hsf hma hdf hdl hcb hsb hh hS hl ⟨hv, hw, hv, hw, hs2⟩ he

set_option maxHeartbeats 1000000 in
theorem sd_15 {l : Launch} {base : Nat} {D : va_G} {d b y i : Nat} {ls : List (Option PV)} {st : List PV} {K : KM} {I : IM} {R : RM} {Q : QT} {a c : Nat} {z : Int} (HC : chkB y i 15 a c z (pg_wd y i) = true) (h9 : stA (Snd l base D) 15 a c z d b y i ls st K I R Q) : Snd l base D d b y i ls st K I R Q := by
  intro p e rm s m args below meth cc H locs cells slots lsA stA am am0 K0 hcx hsf hma hdf hdl hcb hsb hh hS hl hs he
  obtain ⟨hx, hb, hr, hml, hown, hlk, hnm, htb⟩ := id hcx
  obtain ⟨v, r, rfl, hc, h⟩ := (show ∃ v r, st = v :: r ∧ isC1 v ∧ Snd l base D d b y (i + 1) ls r K I R Q from h9)
  obtain ⟨hd, hn⟩ := dc_at (show dc y i .pop 1 = true from HC)
  obtain ⟨v', r1, rfl, hv, hs1⟩ := sr_c hs
  refine lv_pop hx hb hd (vr_c1 hv hc) ?_
  rw [← hn]
  exact h p e rm s m args below meth cc H locs cells slots lsA _ am am0 K0 hcx hsf hma hdf hdl hcb hsb hh hS hl hs1 he

theorem off_eq {y i t : Nat} : ((pg_pc y i : Nat) : Int) + pg_off y i t = ((pg_pc y t : Nat) : Int) := by
  unfold pg_off
  omega

set_option maxHeartbeats 1000000 in
theorem sd_16 {l : Launch} {base : Nat} {D : va_G} {d b y i : Nat} {ls : List (Option PV)} {st : List PV} {K : KM} {I : IM} {R : RM} {Q : QT} {a c : Nat} {z : Int} (HC : chkB y i 16 a c z (pg_wd y i) = true) (h9 : stA (Snd l base D) 16 a c z d b y i ls st K I R Q) : Snd l base D d b y i ls st K I R Q := by
  intro p e rm s m args below meth cc H locs cells slots lsA stA am am0 K0 hcx hsf hma hdf hdl hcb hsb hh hS hl hs he
  obtain ⟨hx, hb, hr, hml, hown, hlk, hnm, htb⟩ := id hcx
  have hd : decode (pg_by y) (pg_pc y i) = .ok (.goto (pg_off y i a), 3) := of_decide_eq_true (show decide _ = true from HC)
  refine lv_goto hx hb hd off_eq ?_
  exact (show Snd l base D d b y a ls st K I R Q from h9) p e rm s m args below meth cc H locs cells slots lsA _ am am0 K0 hcx hsf hma hdf hdl hcb hsb hh hS hl hs he

set_option maxHeartbeats 1000000 in
theorem sd_17 {l : Launch} {base : Nat} {D : va_G} {d b y i : Nat} {ls : List (Option PV)} {st : List PV} {K : KM} {I : IM} {R : RM} {Q : QT} {a c : Nat} {z : Int} (HC : chkB y i 17 a c z (pg_wd y i) = true) (h9 : stA (Snd l base D) 17 a c z d b y i ls st K I R Q) : Snd l base D d b y i ls st K I R Q := by
  intro p e rm s m args below meth cc H locs cells slots lsA stA am am0 K0 hcx hsf hma hdf hdl hcb hsb hh hS hl hs he
  obtain ⟨hx, hb, hr, hml, hown, hlk, hnm, htb⟩ := id hcx
  obtain ⟨x, r, rfl, ht, hf⟩ := (show ∃ x r, st = pI x :: r ∧ (cmpc c x 0 → Snd l base D d b y a ls r K I R Q) ∧ (¬ cmpc c x 0 → Snd l base D d b y (i + 1) ls r K I R Q) from h9)
  obtain ⟨hd, hn⟩ := dc_at (show dc y i (ifI c (pg_off y i a)) 3 = true from HC)
  obtain ⟨r1, rfl, hs1⟩ := sr_i hs
  have ht' : cmpc c x 0 → W p l e rm s m args below meth cc H locs cells slots (vx_MQ below (QcF base D am0 K0 Q) (XcF base D am0 K0 Q) args s rm.cells rm.slots (ab base)) (F0 m (pg_pc y a) lsA r1) := fun q => ht q p e rm s m args below meth cc H locs cells slots lsA _ am am0 K0 hcx hsf hma hdf hdl hcb hsb hh hS hl hs1 he
  have hf' : ¬ cmpc c x 0 → W p l e rm s m args below meth cc H locs cells slots (vx_MQ below (QcF base D am0 K0 Q) (XcF base D am0 K0 Q) args s rm.cells rm.slots (ab base)) (F0 m (pg_pc y i + 3) lsA r1) := fun q => by
    rw [← hn]
    exact hf q p e rm s m args below meth cc H locs cells slots lsA _ am am0 K0 hcx hsf hma hdf hdl hcb hsb hh hS hl hs1 he
  match c, hd, ht', hf' with
  | 0, hd, ht, hf => exact lv_if_eq hx hb hd off_eq ht hf
  | 1, hd, ht, hf => exact lv_if_ne hx hb hd off_eq ht (fun q => hf (fun q2 => q2 q))
  | 2, hd, ht, hf => exact lv_if_lt hx hb hd off_eq ht hf
  | 3, hd, ht, hf => exact lv_if_ge hx hb hd off_eq ht hf
  | 4, hd, ht, hf => exact lv_if_gt hx hb hd off_eq ht hf
  | _ + 5, hd, ht, hf => exact lv_if_le hx hb hd off_eq ht hf

set_option maxHeartbeats 1000000 in
theorem sd_18 {l : Launch} {base : Nat} {D : va_G} {d b y i : Nat} {ls : List (Option PV)} {st : List PV} {K : KM} {I : IM} {R : RM} {Q : QT} {a c : Nat} {z : Int} (HC : chkB y i 18 a c z (pg_wd y i) = true) (h9 : stA (Snd l base D) 18 a c z d b y i ls st K I R Q) : Snd l base D d b y i ls st K I R Q := by
  intro p e rm s m args below meth cc H locs cells slots lsA stA am am0 K0 hcx hsf hma hdf hdl hcb hsb hh hS hl hs he
  obtain ⟨hx, hb, hr, hml, hown, hlk, hnm, htb⟩ := id hcx
  obtain ⟨u, v, r, rfl, ht, hf⟩ := (show ∃ u v r, st = pI v :: pI u :: r ∧ (cmpc c u v → Snd l base D d b y a ls r K I R Q) ∧ (¬ cmpc c u v → Snd l base D d b y (i + 1) ls r K I R Q) from h9)
  obtain ⟨hd, hn⟩ := dc_at (show dc y i (icI c (pg_off y i a)) 3 = true from HC)
  obtain ⟨r1, rfl, hs1⟩ := sr_i hs
  obtain ⟨r2, rfl, hs2⟩ := sr_i hs1
  have ht' : cmpc c u v → W p l e rm s m args below meth cc H locs cells slots (vx_MQ below (QcF base D am0 K0 Q) (XcF base D am0 K0 Q) args s rm.cells rm.slots (ab base)) (F0 m (pg_pc y a) lsA r2) := fun q => ht q p e rm s m args below meth cc H locs cells slots lsA _ am am0 K0 hcx hsf hma hdf hdl hcb hsb hh hS hl hs2 he
  have hf' : ¬ cmpc c u v → W p l e rm s m args below meth cc H locs cells slots (vx_MQ below (QcF base D am0 K0 Q) (XcF base D am0 K0 Q) args s rm.cells rm.slots (ab base)) (F0 m (pg_pc y i + 3) lsA r2) := fun q => by
    rw [← hn]
    exact hf q p e rm s m args below meth cc H locs cells slots lsA _ am am0 K0 hcx hsf hma hdf hdl hcb hsb hh hS hl hs2 he
  match c, hd, ht', hf' with
  | 0, hd, ht, hf => exact lv_icmp_eq hx hb hd off_eq ht hf
  | 1, hd, ht, hf => exact lv_icmp_ne hx hb hd off_eq ht (fun q => hf (fun q2 => q2 q))
  | 2, hd, ht, hf => exact lv_icmp_lt hx hb hd off_eq ht hf
  | 3, hd, ht, hf => exact lv_icmp_ge hx hb hd off_eq ht hf
  | 4, hd, ht, hf => exact lv_icmp_gt hx hb hd off_eq ht hf
  | _ + 5, hd, ht, hf => exact lv_icmp_le hx hb hd off_eq ht hf

set_option maxHeartbeats 1000000 in
theorem sd_19 {l : Launch} {base : Nat} {D : va_G} {d b y i : Nat} {ls : List (Option PV)} {st : List PV} {K : KM} {I : IM} {R : RM} {Q : QT} {a c : Nat} {z : Int} (HC : chkB y i 19 a c z (pg_wd y i) = true) (h9 : stA (Snd l base D) 19 a c z d b y i ls st K I R Q) : Snd l base D d b y i ls st K I R Q := by
  intro p e rm s m args below meth cc H locs cells slots lsA stA am am0 K0 hcx hsf hma hdf hdl hcb hsb hh hS hl hs he
  obtain ⟨hx, hb, hr, hml, hown, hlk, hnm, htb⟩ := id hcx
  obtain ⟨q, r, rfl, ht, hf⟩ := (show ∃ q r, st = pR q :: r ∧ (¬ q = none → Snd l base D d b y a ls r K I R Q) ∧ (q = none → Snd l base D d b y (i + 1) ls r K I R Q) from h9)
  obtain ⟨hd, hn⟩ := dc_at (show dc y i (.ifnonnull (pg_off y i a)) 3 = true from HC)
  obtain ⟨v', r1, rfl, hv, hs1⟩ := sr_c hs
  cases q with
  | none =>
    obtain rfl := (show v' = .null from hv)
    refine lv_ifnonnullN hx hb hd ?_
    rw [← hn]
    exact hf rfl p e rm s m args below meth cc H locs cells slots lsA _ am am0 K0 hcx hsf hma hdf hdl hcb hsb hh hS hl hs1 he
  | some L =>
    obtain ⟨rfl, hk⟩ := hv
    refine lv_ifnonnull hx hb hd off_eq ?_
    exact ht (fun q => by cases q) p e rm s m args below meth cc H locs cells slots lsA _ am am0 K0 hcx hsf hma hdf hdl hcb hsb hh hS hl hs1 he

set_option maxHeartbeats 1000000 in
theorem sd_20 {l : Launch} {base : Nat} {D : va_G} {d b y i : Nat} {ls : List (Option PV)} {st : List PV} {K : KM} {I : IM} {R : RM} {Q : QT} {a c : Nat} {z : Int} (HC : chkB y i 20 a c z (pg_wd y i) = true) (h9 : stA (Snd l base D) 20 a c z d b y i ls st K I R Q) : Snd l base D d b y i ls st K I R Q := by
  intro p e rm s m args below meth cc H locs cells slots lsA stA am am0 K0 hcx hsf hma hdf hdl hcb hsb hh hS hl hs he
  obtain ⟨hx, hb, hr, hml, hown, hlk, hnm, htb⟩ := id hcx
  obtain ⟨x, r, rfl, ht, hf⟩ := (show ∃ x r, st = pI x :: r ∧ (∀ (k : Nat) (t : Nat), (pg_sw.getD a (0, 0, 0, [])).2.2.2[k]? = some t → x.toInt = (pg_sw.getD a (0, 0, 0, [])).1 + k → Snd l base D d b y t ls r K I R Q) ∧ ((x.toInt < (pg_sw.getD a (0, 0, 0, [])).1 ∨ (pg_sw.getD a (0, 0, 0, [])).2.1 < x.toInt) → Snd l base D d b y (pg_sw.getD a (0, 0, 0, [])).2.2.1 ls r K I R Q) from h9)
  have HC : (match decode (pg_by y) (pg_pc y i) with
      | .ok (.tableswitch dflt lo hi offs, _) => decide (lo = (pg_sw.getD a (0, 0, 0, [])).1) && decide (hi = (pg_sw.getD a (0, 0, 0, [])).2.1) && decide (dflt = pg_off y i (pg_sw.getD a (0, 0, 0, [])).2.2.1) && decide (offs.toList = (pg_sw.getD a (0, 0, 0, [])).2.2.2.map (fun t => pg_off y i t)) && decide (hi - lo + 1 = ((pg_sw.getD a (0, 0, 0, [])).2.2.2.length : Int))
      | _ => false) = true := HC
  obtain ⟨r1, rfl, hs1⟩ := sr_i hs
  generalize pg_sw.getD a (0, 0, 0, []) = sw at ht hf HC
  split at HC
  · rename_i dflt lo hi offs len hd
    simp only [Bool.and_eq_true, decide_eq_true_eq] at HC
    obtain ⟨⟨⟨⟨h1, h2⟩, h3⟩, h4⟩, h5⟩ := HC
    by_cases hlo : x.toInt < lo
    · refine lv_tableOut (tgt := pg_pc y sw.2.2.1) hx hb hd (Or.inl hlo) (by rw [h3]; exact off_eq) ?_
      exact hf (Or.inl (by rw [← h1]; exact hlo)) p e rm s m args below meth cc H locs cells slots lsA _ am am0 K0 hcx hsf hma hdf hdl hcb hsb hh hS hl hs1 he
    · by_cases hhi : hi < x.toInt
      · refine lv_tableOut (tgt := pg_pc y sw.2.2.1) hx hb hd (Or.inr hhi) (by rw [h3]; exact off_eq) ?_
        exact hf (Or.inr (by rw [← h2]; exact hhi)) p e rm s m args below meth cc H locs cells slots lsA _ am am0 K0 hcx hsf hma hdf hdl hcb hsb hh hS hl hs1 he
      · have hk : (x.toInt - lo).toNat < sw.2.2.2.length := by omega
        have e1 : sw.2.2.2[(x.toInt - lo).toNat]? = some (sw.2.2.2[(x.toInt - lo).toNat]) := List.getElem?_eq_getElem hk
        refine lv_tableIn (off := pg_off y i (sw.2.2.2[(x.toInt - lo).toNat])) (tgt := pg_pc y (sw.2.2.2[(x.toInt - lo).toNat])) hx hb hd hlo hhi (by rw [← Array.getElem?_toList, h4, List.getElem?_map, e1]; rfl) off_eq ?_
        exact ht _ _ e1 (by rw [← h1]; omega) p e rm s m args below meth cc H locs cells slots lsA _ am am0 K0 hcx hsf hma hdf hdl hcb hsb hh hS hl hs1 he
  · cases HC

set_option maxHeartbeats 1000000 in
theorem sd_21 {l : Launch} {base : Nat} {D : va_G} {d b y i : Nat} {ls : List (Option PV)} {st : List PV} {K : KM} {I : IM} {R : RM} {Q : QT} {a c : Nat} {z : Int} (HC : chkB y i 21 a c z (pg_wd y i) = true) (h9 : stA (Snd l base D) 21 a c z d b y i ls st K I R Q) : Snd l base D d b y i ls st K I R Q := by
  intro p e rm s m args below meth cc H locs cells slots lsA stA am am0 K0 hcx hsf hma hdf hdl hcb hsb hh hS hl hs he
  obtain ⟨hx, hb, hr, hml, hown, hlk, hnm, htb⟩ := id hcx
  obtain ⟨x, r, rfl, h⟩ := (show ∃ x r, st = pI x :: r ∧ Snd l base D d b y (i + 1) ls (pL x :: r) K I R Q from h9)
  obtain ⟨hd, hn⟩ := dc_at (show dc y i .i2l 1 = true from HC)
  obtain ⟨r1, rfl, hs1⟩ := sr_i hs
  refine lv_i2l hx hb hd rfl ?_
  rw [← hn]
  exact h p e rm s m args below meth cc H locs cells slots lsA _ am am0 K0 hcx hsf hma hdf hdl hcb hsb hh hS hl ⟨rfl, hs1⟩ he

theorem lg_cmp_0 (u v : Int32) : lg_cmp u.toInt64 v.toInt64 = 0 ↔ u = v := by
  have h : u.toInt64 = v.toInt64 ↔ u = v := ⟨fun q => by
    have := congrArg Int64.toInt q
    rw [Int32.toInt_toInt64, Int32.toInt_toInt64] at this
    exact Int32.toInt_inj.mp this, fun q => by rw [q]⟩
  unfold lg_cmp
  constructor
  · intro q
    split at q
    · exact absurd q (by decide)
    · split at q
      · rename_i e
        exact h.mp e
      · exact absurd q (by decide)
  · intro q
    subst q
    rw [if_neg (by rw [gt_iff_lt, Int64.lt_iff_toInt_lt]; omega), if_pos rfl]

set_option maxHeartbeats 1000000 in
theorem sd_22 {l : Launch} {base : Nat} {D : va_G} {d b y i : Nat} {ls : List (Option PV)} {st : List PV} {K : KM} {I : IM} {R : RM} {Q : QT} {a c : Nat} {z : Int} (HC : chkB y i 22 a c z (pg_wd y i) = true) (h9 : stA (Snd l base D) 22 a c z d b y i ls st K I R Q) : Snd l base D d b y i ls st K I R Q := by
  intro p e rm s m args below meth cc H locs cells slots lsA stA am am0 K0 hcx hsf hma hdf hdl hcb hsb hh hS hl hs he
  obtain ⟨hx, hb, hr, hml, hown, hlk, hnm, htb⟩ := id hcx
  obtain ⟨u, v, r, rfl, h⟩ := (show ∃ u v r, st = pL v :: pL u :: r ∧ ∀ x : Int32, (x = 0 ↔ u = v) → Snd l base D d b y (i + 1) ls (pI x :: r) K I R Q from h9)
  obtain ⟨hd, hn⟩ := dc_at (show dc y i .lcmp 1 = true from HC)
  obtain ⟨r1, rfl, hs1⟩ := sr_l hs
  obtain ⟨r2, rfl, hs2⟩ := sr_l hs1
  refine W.lcmp hx hb hd ?_
  rw [← hn]
  exact h _ (lg_cmp_0 u v) p e rm s m args below meth cc H locs cells slots lsA _ am am0 K0 hcx hsf hma hdf hdl hcb hsb hh hS hl ⟨rfl, hs2⟩ he

set_option maxHeartbeats 1000000 in
theorem sd_23 {l : Launch} {base : Nat} {D : va_G} {d b y i : Nat} {ls : List (Option PV)} {st : List PV} {K : KM} {I : IM} {R : RM} {Q : QT} {a c : Nat} {z : Int} (HC : chkB y i 23 a c z (pg_wd y i) = true) (h9 : stA (Snd l base D) 23 a c z d b y i ls st K I R Q) : Snd l base D d b y i ls st K I R Q := by
  intro p e rm s m args below meth cc H locs cells slots lsA stA am am0 K0 hcx hsf hma hdf hdl hcb hsb hh hS hl hs he
  obtain ⟨hx, hb, hr, hml, hown, hlk, hnm, htb⟩ := id hcx
  obtain ⟨h01, h⟩ := (show (z = 0 ∨ z = 1) ∧ Snd l base D d b y (i + 1) ls (pL (Int32.ofInt z) :: st) K I R Q from h9)
  have HC : ((decide (z = 0) && dc y i (.lconst 0) 1) || (decide (z = 1) && dc y i (.lconst 1) 1)) = true := HC
  rw [Bool.or_eq_true, Bool.and_eq_true, Bool.and_eq_true, decide_eq_true_eq, decide_eq_true_eq] at HC
  rcases HC with ⟨rfl, h0⟩ | ⟨rfl, h0⟩
  · obtain ⟨hd, hn⟩ := dc_at h0
    refine lv_lconst (v := (Int32.ofInt 0).toInt64) hx hb hd (by decide) ?_
    rw [← hn]
    exact h p e rm s m args below meth cc H locs cells slots lsA _ am am0 K0 hcx hsf hma hdf hdl hcb hsb hh hS hl ⟨rfl, hs⟩ he
  · obtain ⟨hd, hn⟩ := dc_at h0
    refine lv_lconst (v := (Int32.ofInt 1).toInt64) hx hb hd (by decide) ?_
    rw [← hn]
    exact h p e rm s m args below meth cc H locs cells slots lsA _ am am0 K0 hcx hsf hma hdf hdl hcb hsb hh hS hl ⟨rfl, hs⟩ he
end
section
/-! the steps of the pure machine that read and write cells -/
abbrev wl (Ls : List Nat) (f : Nat → va_E) : va_W := ([] : va_W) ++ va_pl Ls f
theorem hp_write {base : Nat} {D : va_G} {am : Lb → Nat} {K : KM} {I I' : IM} {R R' : RM} {s : State} {H H1 : Heap} {tys : List (ClassId × FieldType)} {Ls : List Nat} {f : Nat → va_E} (h : hq base D am K I R s H tys Ls f) {L : Lb} {k n q0 : Nat} (hK : K L = some (k, n)) (hk : k ≠ 14) {e e' : va_E} (he : f (am L) = e) (hq0 : (wl Ls f)[q0]? = some (am L, e))
    (hP1 : va_P D vwCl ((wl Ls f).set q0 (am L, e')) H1) (hD1 : va_D (ab base) ((wl Ls f).set q0 (am L, e'))) (hent : ent am tys k n (I' L) (R' L) e') (hI : ∀ L2, L2 ≠ L → I' L2 = I L2 ∧ R' L2 = R L2) (hR : ∀ j L', R' L j = some L' → K L' ≠ none) (hbel : ∀ q, q < base → H1[q]? = H[q]?) : hp base D am K I' R' s H1 := by
  obtain ⟨h1, h2, h3, h4, h5, h6, h7⟩ := h
  subst he
  have hm := (h4 L k n hK hk).1
  have e1 := va_pl_set (e := e') h3 hm hq0
  rw [e1] at hP1 hD1
  refine ⟨tys, Ls, va_up f (am L) e', h1, hP1, hD1, fun L2 k2 n2 hK2 hk2 => ?_, fun L2 n2 hK2 => ?_, h6, fun L2 j L' hK2 hR2 => ?_⟩
  · obtain ⟨m2, t2⟩ := h4 L2 k2 n2 hK2 hk2
    refine ⟨m2, ?_⟩
    by_cases e2 : L2 = L
    · subst e2
      rw [hK] at hK2
      cases hK2
      rw [show va_up f (am L2) e' (am L2) = e' from if_pos rfl]
      exact hent
    · have e3 : am L2 ≠ am L := fun q => e2 (h6 L2 L (by rw [hK2]; exact fun q => by cases q) (by rw [hK]; exact fun q => by cases q) q)
      rw [show va_up f (am L) e' (am L2) = f (am L2) from if_neg e3, (hI L2 e2).1, (hI L2 e2).2]
      exact t2
  · have e2 : L2 ≠ L := fun q => by
      subst q
      rw [hK] at hK2
      cases hK2
      exact hk rfl
    obtain ⟨⟨scr, g1, g2⟩, g3⟩ := h5 L2 n2 hK2
    rw [(hI L2 e2).1]
    exact ⟨⟨scr, by rw [hbel _ g3]; exact g1, g2⟩, g3⟩
  · by_cases e2 : L2 = L
    · subst e2
      exact hR j L' hR2
    · rw [(hI L2 e2).2] at hR2
      exact h7 L2 j L' hK2 hR2
theorem bel_of {base : Nat} {s : State} {H H1 : Heap} {locs locs1 : List Loc} (hb : base ≤ s.heap.size) (h : va_S (ab base) s.heap H locs) (h1 : va_S (ab base) s.heap H1 locs1) : ∀ q, q < base → H1[q]? = H[q]? := fun q hq => by
  rw [h.2.1 q (Nat.lt_of_lt_of_le hq hb) (Nat.not_le.mpr hq), h1.2.1 q (Nat.lt_of_lt_of_le hq hb) (Nat.not_le.mpr hq)]
theorem hq_obj {base : Nat} {D : va_G} {am : Lb → Nat} {K : KM} {I : IM} {R : RM} {s : State} {H : Heap} {tys : List (ClassId × FieldType)} {Ls : List Nat} {f : Nat → va_E} (h : hq base D am K I R s H tys Ls f) {L : Lb} {k n : Nat} (hK : K L = some (k, n)) (hk : k < 6) : ∃ (q0 : Nat) (fs : List Value), (wl Ls f)[q0]? = some (am L, .inr (k, fs)) ∧ f (am L) = .inr (k, fs) ∧ fs.length = nfl k ∧ ∀ j, j < nfl k → fs[j]? = some (if isRT (tyc k j) = true then va_rf ((R L j).map am) else .int (I L j)) := by
  obtain ⟨h1, h2, h3, h4, h5, h6, h7⟩ := h
  obtain ⟨hm, he⟩ := h4 L k n hK (by omega)
  obtain ⟨q0, hq0⟩ := va_pl_get (X := ([] : va_W)) (f := f) hm
  rcases he with ⟨-, fs, e, a, b⟩ | ⟨h0, -⟩ | ⟨h0, -⟩ | ⟨h0, -⟩
  · exact ⟨q0, fs, by rw [← e]; exact hq0, e, a, b⟩
  · exact absurd hk (by omega)
  · exact absurd hk (by omega)
  · exact absurd hk (by omega)
theorem hq_ari {base : Nat} {D : va_G} {am : Lb → Nat} {K : KM} {I : IM} {R : RM} {s : State} {H : Heap} {tys : List (ClassId × FieldType)} {Ls : List Nat} {f : Nat → va_E} (h : hq base D am K I R s H tys Ls f) {L : Lb} {k n : Nat} (hK : K L = some (k, n)) (hk : k = 7 ∨ k = 8) : ∃ (q0 : Nat) (cA : ClassId) (t0 : Nat), (wl Ls f)[q0]? = some (am L, .inl (cA, n, .inl (I L))) ∧ f (am L) = .inl (cA, n, .inl (I L)) ∧ tys[t0]? = some (cA, kty k) := by
  obtain ⟨h1, h2, h3, h4, h5, h6, h7⟩ := h
  obtain ⟨hm, he⟩ := h4 L k n hK (by omega)
  obtain ⟨q0, hq0⟩ := va_pl_get (X := ([] : va_W)) (f := f) hm
  rcases he with ⟨h0, -⟩ | ⟨-, cA, t0, e, b⟩ | ⟨h0, -⟩ | ⟨h0, -⟩
  · exact absurd h0 (by omega)
  · exact ⟨q0, cA, t0, by rw [← e]; exact hq0, e, b⟩
  · exact absurd h0 (by omega)
  · exact absurd h0 (by omega)
theorem hq_arl {base : Nat} {D : va_G} {am : Lb → Nat} {K : KM} {I : IM} {R : RM} {s : State} {H : Heap} {tys : List (ClassId × FieldType)} {Ls : List Nat} {f : Nat → va_E} (h : hq base D am K I R s H tys Ls f) {L : Lb} {n : Nat} (hK : K L = some (13, n)) : ∃ (q0 : Nat) (cA : ClassId) (t0 : Nat), (wl Ls f)[q0]? = some (am L, .inl (cA, n, .inr (.inl (fun j => (I L j).toInt64)))) ∧ f (am L) = .inl (cA, n, .inr (.inl (fun j => (I L j).toInt64))) ∧ tys[t0]? = some (cA, .long) := by
  obtain ⟨h1, h2, h3, h4, h5, h6, h7⟩ := h
  obtain ⟨hm, he⟩ := h4 L 13 n hK (by omega)
  obtain ⟨q0, hq0⟩ := va_pl_get (X := ([] : va_W)) (f := f) hm
  rcases he with ⟨h0, -⟩ | ⟨h0, -⟩ | ⟨-, cA, t0, e, b⟩ | ⟨h0, -⟩
  · exact absurd h0 (by omega)
  · exact absurd h0 (by omega)
  · exact ⟨q0, cA, t0, by rw [← e]; exact hq0, e, b⟩
  · exact absurd h0 (by omega)
theorem hq_arq {base : Nat} {D : va_G} {am : Lb → Nat} {K : KM} {I : IM} {R : RM} {s : State} {H : Heap} {tys : List (ClassId × FieldType)} {Ls : List Nat} {f : Nat → va_E} (h : hq base D am K I R s H tys Ls f) {L : Lb} {k n : Nat} (hK : K L = some (k, n)) (hk : 9 ≤ k ∧ k ≤ 12) : ∃ (q0 : Nat) (cA : ClassId) (t0 : Nat), (wl Ls f)[q0]? = some (am L, .inl (cA, n, .inr (.inr (.inr (.inr (fun j => (R L j).map am)))))) ∧ f (am L) = .inl (cA, n, .inr (.inr (.inr (.inr (fun j => (R L j).map am))))) ∧ tys[t0]? = some (cA, .object (elN k)) := by
  obtain ⟨h1, h2, h3, h4, h5, h6, h7⟩ := h
  obtain ⟨hm, he⟩ := h4 L k n hK (by omega)
  obtain ⟨q0, hq0⟩ := va_pl_get (X := ([] : va_W)) (f := f) hm
  rcases he with ⟨h0, -⟩ | ⟨h0, -⟩ | ⟨h0, -⟩ | ⟨-, cA, t0, e, b⟩
  · exact absurd h0 (by omega)
  · exact absurd h0 (by omega)
  · exact absurd h0 (by omega)
  · exact ⟨q0, cA, t0, by rw [← e]; exact hq0, e, b⟩
theorem setI_at {I : IM} {L : Lb} {g : Nat → Int32} : setI I L g L = g := if_pos rfl
theorem setI_ne {I : IM} {L L2 : Lb} {g : Nat → Int32} (h : L2 ≠ L) : setI I L g L2 = I L2 := if_neg h
theorem setR_at {R : RM} {L : Lb} {g : Nat → Option Lb} : setR R L g L = g := if_pos rfl
theorem setR_ne {R : RM} {L L2 : Lb} {g : Nat → Option Lb} (h : L2 ≠ L) : setR R L g L2 = R L2 := if_neg h
theorem up2_at {I : IM} {L : Lb} {k : Nat} {x : Int32} : up2 I L k x L = upd (I L) k x := if_pos rfl
theorem up2R_at {R : RM} {L : Lb} {k : Nat} {x : Option Lb} : up2R R L k x L = va_up (R L) k x := if_pos rfl
theorem nar_b {x : Int32} (h : x = 0 ∨ x = 1) : vp_nar .boolean x = x := by
  rcases h with rfl | rfl <;> rfl

set_option maxHeartbeats 1000000 in
theorem sd_24 {l : Launch} {base : Nat} {D : va_G} {d b y i : Nat} {ls : List (Option PV)} {st : List PV} {K : KM} {I : IM} {R : RM} {Q : QT} {a c : Nat} {z : Int} (HC : chkB y i 24 a c z (pg_wd y i) = true) (h9 : stB (Snd l base D) 24 a c z d b y i ls st K I R Q) : Snd l base D d b y i ls st K I R Q := by
  intro p e rm s m args below meth cc H locs cells slots lsA stA am am0 K0 hcx hsf hma hdf hdl hcb hsb hh hS hl hs he
  obtain ⟨hx, hb, hr, hml, hown, hlk, hnm, htb⟩ := id hcx
  obtain ⟨tys, Ls, f, hhq⟩ := id hh
  obtain ⟨hKK, hP, hD, -, h14, hinj, hRR⟩ := id hhq
  obtain ⟨j, L, r, n, rfl, hK, hin, h⟩ := (show ∃ j L r n, st = pI j :: pR (some L) :: r ∧ K L = some (13, n) ∧ vp_in j n ∧ Snd l base D d b y (i + 1) ls (pL (I L j.toNatClampNeg) :: r) K I R Q from h9)
  obtain ⟨hd, hn⟩ := dc_at (show dc y i .laload 1 = true from HC)
  obtain ⟨r1, rfl, hs1⟩ := sr_i hs
  obtain ⟨r2, rfl, hk2, hs2⟩ := sr_r hs1
  obtain ⟨q0, cA, t0, hq0, hfe, ht0⟩ := hq_arl hhq hK
  refine va_lald hx hb hKK hP q0 t0 hq0 ht0 hin hd ?_
  rw [← hn]
  exact h p e rm s m args below meth cc H locs cells slots lsA _ am am0 K0 hcx hsf hma hdf hdl hcb hsb hh hS hl ⟨rfl, hs2⟩ he

set_option maxHeartbeats 1000000 in
theorem sd_27 {l : Launch} {base : Nat} {D : va_G} {d b y i : Nat} {ls : List (Option PV)} {st : List PV} {K : KM} {I : IM} {R : RM} {Q : QT} {a c : Nat} {z : Int} (HC : chkB y i 27 a c z (pg_wd y i) = true) (h9 : stB (Snd l base D) 27 a c z d b y i ls st K I R Q) : Snd l base D d b y i ls st K I R Q := by
  intro p e rm s m args below meth cc H locs cells slots lsA stA am am0 K0 hcx hsf hma hdf hdl hcb hsb hh hS hl hs he
  obtain ⟨hx, hb, hr, hml, hown, hlk, hnm, htb⟩ := id hcx
  obtain ⟨tys, Ls, f, hhq⟩ := id hh
  obtain ⟨hKK, hP, hD, -, h14, hinj, hRR⟩ := id hhq
  obtain ⟨j, L, r, k, n, rfl, hK, hk, hin, h⟩ := (show ∃ j L r k n, st = pI j :: pR (some L) :: r ∧ K L = some (k, n) ∧ (k = 7 ∨ k = 14) ∧ vp_in j n ∧ Snd l base D d b y (i + 1) ls (pI (I L j.toNatClampNeg) :: r) K I R Q from h9)
  obtain ⟨hd, hn⟩ := dc_at (show dc y i .iaload 1 = true from HC)
  obtain ⟨r1, rfl, hs1⟩ := sr_i hs
  obtain ⟨r2, rfl, hk2, hs2⟩ := sr_r hs1
  rcases hk with rfl | rfl
  · obtain ⟨q0, cA, t0, hq0, hfe, ht0⟩ := hq_ari hhq hK (Or.inl rfl)
    refine va_iald hx hb hKK hP q0 t0 hq0 ht0 hin hd ?_
    rw [← hn]
    exact h p e rm s m args below meth cc H locs cells slots lsA _ am am0 K0 hcx hsf hma hdf hdl hcb hsb hh hS hl ⟨rfl, hs2⟩ he
  · obtain ⟨⟨scr, hc, hof, hkn, hsz, hval⟩, -⟩ := h14 L n hK
    have hlt : j.toNatClampNeg < n := Nat.not_le.mp fun q => hin (Or.inr q)
    refine W.iald (v := .int (I L j.toNatClampNeg)) hx hb hc hof hkn (by rw [hsz]; exact hin) (hval _ hlt) rfl rfl hd ?_
    show W p l e rm s m args below meth cc H locs cells slots _ (F0 m (pg_pc y i + 1) lsA (.int (I L j.toNatClampNeg) :: r2))
    rw [← hn]
    exact h p e rm s m args below meth cc H locs cells slots lsA _ am am0 K0 hcx hsf hma hdf hdl hcb hsb hh hS hl ⟨rfl, hs2⟩ he

set_option maxHeartbeats 1000000 in
theorem sd_26 {l : Launch} {base : Nat} {D : va_G} {d b y i : Nat} {ls : List (Option PV)} {st : List PV} {K : KM} {I : IM} {R : RM} {Q : QT} {a c : Nat} {z : Int} (HC : chkB y i 26 a c z (pg_wd y i) = true) (h9 : stB (Snd l base D) 26 a c z d b y i ls st K I R Q) : Snd l base D d b y i ls st K I R Q := by
  intro p e rm s m args below meth cc H locs cells slots lsA stA am am0 K0 hcx hsf hma hdf hdl hcb hsb hh hS hl hs he
  obtain ⟨hx, hb, hr, hml, hown, hlk, hnm, htb⟩ := id hcx
  obtain ⟨tys, Ls, f, hhq⟩ := id hh
  obtain ⟨hKK, hP, hD, -, h14, hinj, hRR⟩ := id hhq
  obtain ⟨L, r, k, n, rfl, hK, hk, h⟩ := (show ∃ L r k n, st = pR (some L) :: r ∧ K L = some (k, n) ∧ (k = 7 ∨ k = 14) ∧ Snd l base D d b y (i + 1) ls (pI (Int32.ofNat n) :: r) K I R Q from h9)
  obtain ⟨hd, hn⟩ := dc_at (show dc y i .arraylength 1 = true from HC)
  obtain ⟨r1, rfl, hk2, hs1⟩ := sr_r hs
  rcases hk with rfl | rfl
  · obtain ⟨q0, cA, t0, hq0, hfe, ht0⟩ := hq_ari hhq hK (Or.inl rfl)
    refine W.alen (n := Int32.ofNat n) hx hb (hP q0 _ hq0) ((hKK.2 t0 _ ht0).1 n (fun j => .int (I L j))) (by show Int32.ofNat (arrV _ _ _).slots.size = _; rw [arrV_size]) rfl rfl hd ?_
    show W p l e rm s m args below meth cc H locs cells slots _ (F0 m (pg_pc y i + 1) lsA (.int (Int32.ofNat n) :: r1))
    rw [← hn]
    exact h p e rm s m args below meth cc H locs cells slots lsA _ am am0 K0 hcx hsf hma hdf hdl hcb hsb hh hS hl ⟨rfl, hs1⟩ he
  · obtain ⟨⟨scr, hc, hof, hkn, hsz, hval⟩, -⟩ := h14 L n hK
    refine W.alen (n := Int32.ofNat n) hx hb hc hof (by rw [hsz]) rfl rfl hd ?_
    show W p l e rm s m args below meth cc H locs cells slots _ (F0 m (pg_pc y i + 1) lsA (.int (Int32.ofNat n) :: r1))
    rw [← hn]
    exact h p e rm s m args below meth cc H locs cells slots lsA _ am am0 K0 hcx hsf hma hdf hdl hcb hsb hh hS hl ⟨rfl, hs1⟩ he

set_option maxHeartbeats 1000000 in
theorem sd_29 {l : Launch} {base : Nat} {D : va_G} {d b y i : Nat} {ls : List (Option PV)} {st : List PV} {K : KM} {I : IM} {R : RM} {Q : QT} {a c : Nat} {z : Int} (HC : chkB y i 29 a c z (pg_wd y i) = true) (h9 : stB (Snd l base D) 29 a c z d b y i ls st K I R Q) : Snd l base D d b y i ls st K I R Q := by
  intro p e rm s m args below meth cc H locs cells slots lsA stA am am0 K0 hcx hsf hma hdf hdl hcb hsb hh hS hl hs he
  obtain ⟨hx, hb, hr, hml, hown, hlk, hnm, htb⟩ := id hcx
  obtain ⟨tys, Ls, f, hhq⟩ := id hh
  obtain ⟨hKK, hP, hD, -, h14, hinj, hRR⟩ := id hhq
  obtain ⟨j, L, r, n, rfl, hK, hin, h⟩ := (show ∃ j L r n, st = pI j :: pR (some L) :: r ∧ K L = some (8, n) ∧ vp_in j n ∧ Snd l base D d b y (i + 1) ls (pI (I L j.toNatClampNeg) :: r) K I R Q from h9)
  obtain ⟨hd, hn⟩ := dc_at (show dc y i .baload 1 = true from HC)
  obtain ⟨r1, rfl, hs1⟩ := sr_i hs
  obtain ⟨r2, rfl, hk2, hs2⟩ := sr_r hs1
  obtain ⟨q0, cA, t0, hq0, hfe, ht0⟩ := hq_ari hhq hK (Or.inr rfl)
  refine va_zald hx hb hKK hP q0 t0 hq0 ht0 hin hd ?_
  rw [← hn]
  exact h p e rm s m args below meth cc H locs cells slots lsA _ am am0 K0 hcx hsf hma hdf hdl hcb hsb hh hS hl ⟨rfl, hs2⟩ he

set_option maxHeartbeats 1000000 in
theorem sd_31 {l : Launch} {base : Nat} {D : va_G} {d b y i : Nat} {ls : List (Option PV)} {st : List PV} {K : KM} {I : IM} {R : RM} {Q : QT} {a c : Nat} {z : Int} (HC : chkB y i 31 a c z (pg_wd y i) = true) (h9 : stB (Snd l base D) 31 a c z d b y i ls st K I R Q) : Snd l base D d b y i ls st K I R Q := by
  intro p e rm s m args below meth cc H locs cells slots lsA stA am am0 K0 hcx hsf hma hdf hdl hcb hsb hh hS hl hs he
  obtain ⟨hx, hb, hr, hml, hown, hlk, hnm, htb⟩ := id hcx
  obtain ⟨tys, Ls, f, hhq⟩ := id hh
  obtain ⟨hKK, hP, hD, -, h14, hinj, hRR⟩ := id hhq
  obtain ⟨j, L, r, k, n, rfl, hK, hk, hin, h⟩ := (show ∃ j L r k n, st = pI j :: pR (some L) :: r ∧ K L = some (k, n) ∧ (9 ≤ k ∧ k ≤ 12) ∧ vp_in j n ∧ Snd l base D d b y (i + 1) ls (pR (R L j.toNatClampNeg) :: r) K I R Q from h9)
  obtain ⟨hd, hn⟩ := dc_at (show dc y i .aaload 1 = true from HC)
  obtain ⟨r1, rfl, hs1⟩ := sr_i hs
  obtain ⟨r2, rfl, hk2, hs2⟩ := sr_r hs1
  obtain ⟨q0, cA, t0, hq0, hfe, ht0⟩ := hq_arq hhq hK hk
  refine va_aldq hx hb hKK hP q0 t0 hq0 ht0 hin hd ?_
  rw [← hn]
  exact h p e rm s m args below meth cc H locs cells slots lsA _ am am0 K0 hcx hsf hma hdf hdl hcb hsb hh hS hl ⟨qv_r (fun L2 hL2 => hRR L _ L2 hk2 hL2), hs2⟩ he

set_option maxHeartbeats 1000000 in
theorem sd_28 {l : Launch} {base : Nat} {D : va_G} {d b y i : Nat} {ls : List (Option PV)} {st : List PV} {K : KM} {I : IM} {R : RM} {Q : QT} {a c : Nat} {z : Int} (HC : chkB y i 28 a c z (pg_wd y i) = true) (h9 : stB (Snd l base D) 28 a c z d b y i ls st K I R Q) : Snd l base D d b y i ls st K I R Q := by
  intro p e rm s m args below meth cc H locs cells slots lsA stA am am0 K0 hcx hsf hma hdf hdl hcb hsb hh hS hl hs he
  obtain ⟨hx, hb, hr, hml, hown, hlk, hnm, htb⟩ := id hcx
  obtain ⟨tys, Ls, f, hhq⟩ := id hh
  obtain ⟨hKK, hP, hD, -, h14, hinj, hRR⟩ := id hhq
  obtain ⟨x, j, L, r, n, rfl, hK, hin, h⟩ := (show ∃ x j L r n, st = pI x :: pI j :: pR (some L) :: r ∧ K L = some (7, n) ∧ vp_in j n ∧ Snd l base D d b y (i + 1) ls r K (up2 I L j.toNatClampNeg x) R Q from h9)
  obtain ⟨hd, hn⟩ := dc_at (show dc y i .iastore 1 = true from HC)
  obtain ⟨r1, rfl, hs1⟩ := sr_i hs
  obtain ⟨r2, rfl, hs2⟩ := sr_i hs1
  obtain ⟨r3, rfl, hk2, hs3⟩ := sr_r hs2
  obtain ⟨q0, cA, t0, hq0, hfe, ht0⟩ := hq_ari hhq hK (Or.inl rfl)
  refine va_iast hx hb hKK hP hD hS q0 t0 hq0 ht0 hin hd (fun H1 locs1 hP1 hD1 hS1 => ?_)
  rw [← hn]
  exact h p e rm s m args below meth cc H1 locs1 cells slots lsA _ am am0 K0 hcx hsf hma hdf hdl hcb hsb (hp_write hhq hK (by decide) hfe hq0 hP1 hD1 (Or.inr (Or.inl ⟨Or.inl rfl, cA, t0, by rw [up2_at], ht0⟩)) (fun L2 h2 => ⟨setI_ne h2, rfl⟩) (fun j L2 hj => hRR L j L2 hk2 hj) (bel_of hsf.2.2.2.2.2.2 hS hS1)) hS1 hl hs3 he

set_option maxHeartbeats 1000000 in
theorem sd_30 {l : Launch} {base : Nat} {D : va_G} {d b y i : Nat} {ls : List (Option PV)} {st : List PV} {K : KM} {I : IM} {R : RM} {Q : QT} {a c : Nat} {z : Int} (HC : chkB y i 30 a c z (pg_wd y i) = true) (h9 : stB (Snd l base D) 30 a c z d b y i ls st K I R Q) : Snd l base D d b y i ls st K I R Q := by
  intro p e rm s m args below meth cc H locs cells slots lsA stA am am0 K0 hcx hsf hma hdf hdl hcb hsb hh hS hl hs he
  obtain ⟨hx, hb, hr, hml, hown, hlk, hnm, htb⟩ := id hcx
  obtain ⟨tys, Ls, f, hhq⟩ := id hh
  obtain ⟨hKK, hP, hD, -, h14, hinj, hRR⟩ := id hhq
  obtain ⟨x, j, L, r, n, rfl, hK, hin, h01, h⟩ := (show ∃ x j L r n, st = pI x :: pI j :: pR (some L) :: r ∧ K L = some (8, n) ∧ vp_in j n ∧ (x = 0 ∨ x = 1) ∧ Snd l base D d b y (i + 1) ls r K (up2 I L j.toNatClampNeg x) R Q from h9)
  obtain ⟨hd, hn⟩ := dc_at (show dc y i .bastore 1 = true from HC)
  obtain ⟨r1, rfl, hs1⟩ := sr_i hs
  obtain ⟨r2, rfl, hs2⟩ := sr_i hs1
  obtain ⟨r3, rfl, hk2, hs3⟩ := sr_r hs2
  obtain ⟨q0, cA, t0, hq0, hfe, ht0⟩ := hq_ari hhq hK (Or.inr rfl)
  refine va_zast hx hb hKK hP hD hS q0 t0 hq0 ht0 hin hd (fun H1 locs1 hP1 hD1 hS1 => ?_)
  rw [nar_b h01] at hP1 hD1
  rw [← hn]
  exact h p e rm s m args below meth cc H1 locs1 cells slots lsA _ am am0 K0 hcx hsf hma hdf hdl hcb hsb (hp_write hhq hK (by decide) hfe hq0 hP1 hD1 (Or.inr (Or.inl ⟨Or.inr rfl, cA, t0, by rw [up2_at], ht0⟩)) (fun L2 h2 => ⟨setI_ne h2, rfl⟩) (fun j L2 hj => hRR L j L2 hk2 hj) (bel_of hsf.2.2.2.2.2.2 hS hS1)) hS1 hl hs3 he

set_option maxHeartbeats 1000000 in
theorem sd_25 {l : Launch} {base : Nat} {D : va_G} {d b y i : Nat} {ls : List (Option PV)} {st : List PV} {K : KM} {I : IM} {R : RM} {Q : QT} {a c : Nat} {z : Int} (HC : chkB y i 25 a c z (pg_wd y i) = true) (h9 : stB (Snd l base D) 25 a c z d b y i ls st K I R Q) : Snd l base D d b y i ls st K I R Q := by
  intro p e rm s m args below meth cc H locs cells slots lsA stA am am0 K0 hcx hsf hma hdf hdl hcb hsb hh hS hl hs he
  obtain ⟨hx, hb, hr, hml, hown, hlk, hnm, htb⟩ := id hcx
  obtain ⟨tys, Ls, f, hhq⟩ := id hh
  obtain ⟨hKK, hP, hD, -, h14, hinj, hRR⟩ := id hhq
  obtain ⟨x, j, L, r, n, rfl, hK, hin, h⟩ := (show ∃ x j L r n, st = pL x :: pI j :: pR (some L) :: r ∧ K L = some (13, n) ∧ vp_in j n ∧ Snd l base D d b y (i + 1) ls r K (up2 I L j.toNatClampNeg x) R Q from h9)
  obtain ⟨hd, hn⟩ := dc_at (show dc y i .lastore 1 = true from HC)
  obtain ⟨r1, rfl, hs1⟩ := sr_l hs
  obtain ⟨r2, rfl, hs2⟩ := sr_i hs1
  obtain ⟨r3, rfl, hk2, hs3⟩ := sr_r hs2
  obtain ⟨q0, cA, t0, hq0, hfe, ht0⟩ := hq_arl hhq hK
  refine va_last hx hb hKK hP hD hS q0 t0 hq0 ht0 hin hd (fun H1 locs1 hP1 hD1 hS1 => ?_)
  rw [← hn]
  exact h p e rm s m args below meth cc H1 locs1 cells slots lsA _ am am0 K0 hcx hsf hma hdf hdl hcb hsb (hp_write hhq hK (by decide) hfe hq0 hP1 hD1 (Or.inr (Or.inr (Or.inl ⟨rfl, cA, t0, by rw [up2_at]; exact congrArg (fun g => (Sum.inl (cA, n, Sum.inr (Sum.inl g)) : va_E)) (funext fun q => by unfold vp_updL upd; split <;> rfl), ht0⟩))) (fun L2 h2 => ⟨setI_ne h2, rfl⟩) (fun j L2 hj => hRR L j L2 hk2 hj) (bel_of hsf.2.2.2.2.2.2 hS hS1)) hS1 hl hs3 he

set_option maxHeartbeats 1000000 in
theorem sd_32 {l : Launch} {base : Nat} {D : va_G} {d b y i : Nat} {ls : List (Option PV)} {st : List PV} {K : KM} {I : IM} {R : RM} {Q : QT} {a c : Nat} {z : Int} (HC : chkB y i 32 a c z (pg_wd y i) = true) (h9 : stB (Snd l base D) 32 a c z d b y i ls st K I R Q) : Snd l base D d b y i ls st K I R Q := by
  intro p e rm s m args below meth cc H locs cells slots lsA stA am am0 K0 hcx hsf hma hdf hdl hcb hsb hh hS hl hs he
  obtain ⟨hx, hb, hr, hml, hown, hlk, hnm, htb⟩ := id hcx
  obtain ⟨tys, Ls, f, hhq⟩ := id hh
  obtain ⟨hKK, hP, hD, -, h14, hinj, hRR⟩ := id hhq
  obtain ⟨L', j, L, r, k, n, n', rfl, hK, hk, hK', hin, h⟩ := (show ∃ L' j L r k n n', st = pR (some L') :: pI j :: pR (some L) :: r ∧ K L = some (k, n) ∧ (9 ≤ k ∧ k ≤ 12) ∧ K L' = some (elc k, n') ∧ vp_in j n ∧ Snd l base D d b y (i + 1) ls r K I (up2R R L j.toNatClampNeg (some L')) Q from h9)
  obtain ⟨hd, hn⟩ := dc_at (show dc y i .aastore 1 = true from HC)
  obtain ⟨r1, rfl, hkk, hs1⟩ := sr_r hs
  obtain ⟨r2, rfl, hs2⟩ := sr_i hs1
  obtain ⟨r3, rfl, hk2, hs3⟩ := sr_r hs2
  obtain ⟨q0, cA, t0, hq0, hfe, ht0⟩ := hq_arq hhq hK hk
  have hel : elc k < 6 := by unfold elc; split <;> decide
  obtain ⟨q1, fs, hq1, -, -, -⟩ := hq_obj hhq hK' hel
  refine va_astq (r := (clC (elc k), clT (elc k), nfl (elc k))) hx hb hKK hP hD hS q0 t0 q1 (elc k) hq0 ht0 hq1 (vw_at (elc k) hel) hin hd (fun H1 locs1 hP1 hD1 hS1 => ?_)
  rw [← hn]
  refine h p e rm s m args below meth cc H1 locs1 cells slots lsA _ am am0 K0 hcx hsf hma hdf hdl hcb hsb (hp_write hhq hK (by omega) hfe hq0 hP1 hD1 (Or.inr (Or.inr (Or.inr ⟨hk, cA, t0, ?_, ht0⟩))) (fun L2 h2 => ⟨rfl, setR_ne h2⟩) (fun j2 L2 hj => ?_) (bel_of hsf.2.2.2.2.2.2 hS hS1)) hS1 hl hs3 he
  · rw [up2R_at]
    exact congrArg (fun g => (Sum.inl (cA, n, Sum.inr (Sum.inr (Sum.inr (Sum.inr g)))) : va_E)) (funext fun q => by unfold va_up; split <;> rfl)
  · rw [up2R_at] at hj
    unfold va_up at hj
    split at hj
    · cases hj
      exact hkk
    · exact hRR L j2 L2 hk2 hj

set_option maxHeartbeats 1000000 in
theorem sd_33 {l : Launch} {base : Nat} {D : va_G} {d b y i : Nat} {ls : List (Option PV)} {st : List PV} {K : KM} {I : IM} {R : RM} {Q : QT} {a c : Nat} {z : Int} (HC : chkB y i 33 a c z (pg_wd y i) = true) (h9 : stB (Snd l base D) 33 a c z d b y i ls st K I R Q) : Snd l base D d b y i ls st K I R Q := by
  intro p e rm s m args below meth cc H locs cells slots lsA stA am am0 K0 hcx hsf hma hdf hdl hcb hsb hh hS hl hs he
  obtain ⟨hx, hb, hr, hml, hown, hlk, hnm, htb⟩ := id hcx
  obtain ⟨tys, Ls, f, hhq⟩ := id hh
  obtain ⟨hKK, hP, hD, -, h14, hinj, hRR⟩ := id hhq
  obtain ⟨L, r, n, rfl, hK, h⟩ := (show ∃ L r n, st = pR (some L) :: r ∧ K L = some (a, n) ∧ Snd l base D d b y (i + 1) ls (pI (I L c) :: r) K I R Q from h9)
  have HC : (dc y i (.getfield z.toNat) 3 && decide (a < 6) && decide (c < nfl a) && (decide (tyc a c = .int) || decide (tyc a c = .boolean)) && isw ((pg_wd y i).getD 0 0) (.fieldLink (pg_own y) z.toNat (clT a c).1 (clT a c).2.1 (clT a c).2.2.1)) = true := HC
  simp only [Bool.and_eq_true, Bool.or_eq_true, decide_eq_true_eq] at HC
  obtain ⟨⟨⟨⟨h0, ha⟩, hc⟩, hty⟩, hw⟩ := HC
  obtain ⟨hd, hn⟩ := dc_at h0
  obtain ⟨r1, rfl, hk2, hs1⟩ := sr_r hs
  obtain ⟨q0, fs, hq0, hfe, hfl, hfs⟩ := hq_obj hhq hK ha
  have hv := hfs c hc
  rw [if_neg (by rcases hty with q | q <;> rw [q] <;> exact Bool.false_ne_true)] at hv
  refine va_get hx hb (uws_at ha hsf) (fun _ q => q) hown hKK hP q0 hq0 (vw_at a ha) c hc (sfp_word hsf hw) (fun x q => q) hv hd ?_
  rw [← hn]
  exact h p e rm s m args below meth cc H locs cells slots lsA _ am am0 K0 hcx hsf hma hdf hdl hcb hsb hh hS hl ⟨rfl, hs1⟩ he

set_option maxHeartbeats 1000000 in
theorem sd_34 {l : Launch} {base : Nat} {D : va_G} {d b y i : Nat} {ls : List (Option PV)} {st : List PV} {K : KM} {I : IM} {R : RM} {Q : QT} {a c : Nat} {z : Int} (HC : chkB y i 34 a c z (pg_wd y i) = true) (h9 : stB (Snd l base D) 34 a c z d b y i ls st K I R Q) : Snd l base D d b y i ls st K I R Q := by
  intro p e rm s m args below meth cc H locs cells slots lsA stA am am0 K0 hcx hsf hma hdf hdl hcb hsb hh hS hl hs he
  obtain ⟨hx, hb, hr, hml, hown, hlk, hnm, htb⟩ := id hcx
  obtain ⟨tys, Ls, f, hhq⟩ := id hh
  obtain ⟨hKK, hP, hD, -, h14, hinj, hRR⟩ := id hhq
  obtain ⟨L, r, n, rfl, hK, h⟩ := (show ∃ L r n, st = pR (some L) :: r ∧ K L = some (a, n) ∧ Snd l base D d b y (i + 1) ls (pR (R L c) :: r) K I R Q from h9)
  have HC : (dc y i (.getfield z.toNat) 3 && decide (a < 6) && decide (c < nfl a) && isRT (tyc a c) && isw ((pg_wd y i).getD 0 0) (.fieldLink (pg_own y) z.toNat (clT a c).1 (clT a c).2.1 (clT a c).2.2.1)) = true := HC
  simp only [Bool.and_eq_true, Bool.or_eq_true, decide_eq_true_eq] at HC
  obtain ⟨⟨⟨⟨h0, ha⟩, hc⟩, hty⟩, hw⟩ := HC
  obtain ⟨hd, hn⟩ := dc_at h0
  obtain ⟨r1, rfl, hk2, hs1⟩ := sr_r hs
  obtain ⟨q0, fs, hq0, hfe, hfl, hfs⟩ := hq_obj hhq hK ha
  have hv := hfs c hc
  rw [if_pos hty] at hv
  refine va_get hx hb (uws_at ha hsf) (fun _ q => q) hown hKK hP q0 hq0 (vw_at a ha) c hc (sfp_word hsf hw) (fun x q => q) hv hd ?_
  rw [← hn]
  exact h p e rm s m args below meth cc H locs cells slots lsA _ am am0 K0 hcx hsf hma hdf hdl hcb hsb hh hS hl ⟨qv_r (fun L2 hL2 => hRR L _ L2 hk2 hL2), hs1⟩ he

set_option maxHeartbeats 1000000 in
theorem sd_48 {l : Launch} {base : Nat} {D : va_G} {d b y i : Nat} {ls : List (Option PV)} {st : List PV} {K : KM} {I : IM} {R : RM} {Q : QT} {a c : Nat} {z : Int} (HC : chkB y i 48 a c z (pg_wd y i) = true) (h9 : stB (Snd l base D) 48 a c z d b y i ls st K I R Q) : Snd l base D d b y i ls st K I R Q := by
  intro p e rm s m args below meth cc H locs cells slots lsA stA am am0 K0 hcx hsf hma hdf hdl hcb hsb hh hS hl hs he
  obtain ⟨hx, hb, hr, hml, hown, hlk, hnm, htb⟩ := id hcx
  obtain ⟨tys, Ls, f, hhq⟩ := id hh
  obtain ⟨hKK, hP, hD, -, h14, hinj, hRR⟩ := id hhq
  obtain ⟨L, r, n, rfl, hK, h⟩ := (show ∃ L r n, st = pR (some L) :: r ∧ K L = some (a, n) ∧ Snd l base D d b y (i + 1) ls (pI (I L c) :: r) K I R Q from h9)
  have HC : (dc y i (.getfield z.toNat) 3 && decide (a < 6) && decide (c < nfl a) && (decide (tyc a c = .int) || decide (tyc a c = .boolean)) && isw ((pg_wd y i).getD 0 0) (.fieldLinkNest (pg_own y) z.toNat (clT a c).1 (clT a c).2.1 (clT a c).2.2.1 "KayfabeRing")) = true := HC
  simp only [Bool.and_eq_true, Bool.or_eq_true, decide_eq_true_eq] at HC
  obtain ⟨⟨⟨⟨h0, ha⟩, hc⟩, hty⟩, hw⟩ := HC
  obtain ⟨hd, hn⟩ := dc_at h0
  obtain ⟨r1, rfl, hk2, hs1⟩ := sr_r hs
  obtain ⟨q0, fs, hq0, hfe, hfl, hfs⟩ := hq_obj hhq hK ha
  have hv := hfs c hc
  rw [if_neg (by rcases hty with q | q <;> rw [q] <;> exact Bool.false_ne_true)] at hv
  refine va_getN hx hb (uws_at ha hsf) (fun _ q => q) hown hKK hP q0 hq0 (vw_at a ha) c hc (sfp_word hsf hw) (fun x q => q) hv hd ?_
  rw [← hn]
  exact h p e rm s m args below meth cc H locs cells slots lsA _ am am0 K0 hcx hsf hma hdf hdl hcb hsb hh hS hl ⟨rfl, hs1⟩ he

set_option maxHeartbeats 1000000 in
theorem sd_35 {l : Launch} {base : Nat} {D : va_G} {d b y i : Nat} {ls : List (Option PV)} {st : List PV} {K : KM} {I : IM} {R : RM} {Q : QT} {a c : Nat} {z : Int} (HC : chkB y i 35 a c z (pg_wd y i) = true) (h9 : stB (Snd l base D) 35 a c z d b y i ls st K I R Q) : Snd l base D d b y i ls st K I R Q := by
  intro p e rm s m args below meth cc H locs cells slots lsA stA am am0 K0 hcx hsf hma hdf hdl hcb hsb hh hS hl hs he
  obtain ⟨hx, hb, hr, hml, hown, hlk, hnm, htb⟩ := id hcx
  obtain ⟨tys, Ls, f, hhq⟩ := id hh
  obtain ⟨hKK, hP, hD, -, h14, hinj, hRR⟩ := id hhq
  obtain ⟨x, L, r, n, rfl, hK, h⟩ := (show ∃ x L r n, st = pI x :: pR (some L) :: r ∧ K L = some (a, n) ∧ Snd l base D d b y (i + 1) ls r K (up2 I L c x) R Q from h9)
  have HC : (dc y i (.putfield z.toNat) 3 && decide (a < 6) && decide (c < nfl a) && decide (tyc a c = .int) && decide ((clT a c).2.2.2 = false) && isw ((pg_wd y i).getD 0 0) (.fieldLink (pg_own y) z.toNat (clT a c).1 (clT a c).2.1 (clT a c).2.2.1)) = true := HC
  simp only [Bool.and_eq_true, Bool.or_eq_true, decide_eq_true_eq] at HC
  obtain ⟨⟨⟨⟨⟨h0, ha⟩, hc⟩, hty⟩, hfin⟩, hw⟩ := HC
  obtain ⟨hd, hn⟩ := dc_at h0
  obtain ⟨r1, rfl, hs1⟩ := sr_i hs
  obtain ⟨r2, rfl, hk2, hs2⟩ := sr_r hs1
  obtain ⟨q0, fs, hq0, hfe, hfl, hfs⟩ := hq_obj hhq hK ha
  refine va_put hx hb (uws_at ha hsf) (fun _ q => q) (tyc a) (tyc_at a ha) (nmc_at a ha) hown hKK hP hD hS q0 hq0 (vw_at a ha) c hc (sfp_word hsf hw) (fun x q => q) hfin (tyc_at a ha c hc) (by rw [hty]; rfl) (by rw [hty]; rfl) (by rw [hfl]; exact hc) hd (fun H1 locs1 hP1 hD1 hS1 => ?_)
  rw [← hn]
  refine h p e rm s m args below meth cc H1 locs1 cells slots lsA _ am am0 K0 hcx hsf hma hdf hdl hcb hsb (hp_write hhq hK (by omega) hfe hq0 hP1 hD1 (Or.inl ⟨ha, _, rfl, by rw [List.length_set]; exact hfl, fun j hj => ?_⟩) (fun L2 h2 => ⟨setI_ne h2, rfl⟩) (fun j L2 hj => hRR L j L2 hk2 hj) (bel_of hsf.2.2.2.2.2.2 hS hS1)) hS1 hl hs2 he
  rw [List.getElem?_set]
  by_cases e1 : c = j
  · subst e1
    rw [if_pos rfl, if_pos (by rw [hfl]; exact hc), hty, if_neg (by exact Bool.false_ne_true), up2_at]
    unfold upd
    rw [if_pos rfl]
  · rw [if_neg e1, hfs j hj, up2_at]
    unfold upd
    rw [if_neg (Ne.symm e1)]

set_option maxHeartbeats 1000000 in
theorem sd_50 {l : Launch} {base : Nat} {D : va_G} {d b y i : Nat} {ls : List (Option PV)} {st : List PV} {K : KM} {I : IM} {R : RM} {Q : QT} {a c : Nat} {z : Int} (HC : chkB y i 50 a c z (pg_wd y i) = true) (h9 : stB (Snd l base D) 50 a c z d b y i ls st K I R Q) : Snd l base D d b y i ls st K I R Q := by
  intro p e rm s m args below meth cc H locs cells slots lsA stA am am0 K0 hcx hsf hma hdf hdl hcb hsb hh hS hl hs he
  obtain ⟨hx, hb, hr, hml, hown, hlk, hnm, htb⟩ := id hcx
  obtain ⟨tys, Ls, f, hhq⟩ := id hh
  obtain ⟨hKK, hP, hD, -, h14, hinj, hRR⟩ := id hhq
  obtain ⟨x, L, r, n, rfl, hK, h01, h⟩ := (show ∃ x L r n, st = pI x :: pR (some L) :: r ∧ K L = some (a, n) ∧ (x = 0 ∨ x = 1) ∧ Snd l base D d b y (i + 1) ls r K (up2 I L c x) R Q from h9)
  have HC : (dc y i (.putfield z.toNat) 3 && decide (a < 6) && decide (c < nfl a) && decide (tyc a c = .boolean) && decide ((clT a c).2.2.2 = false) && isw ((pg_wd y i).getD 0 0) (.fieldLink (pg_own y) z.toNat (clT a c).1 (clT a c).2.1 (clT a c).2.2.1)) = true := HC
  simp only [Bool.and_eq_true, Bool.or_eq_true, decide_eq_true_eq] at HC
  obtain ⟨⟨⟨⟨⟨h0, ha⟩, hc⟩, hty⟩, hfin⟩, hw⟩ := HC
  obtain ⟨hd, hn⟩ := dc_at h0
  obtain ⟨r1, rfl, hs1⟩ := sr_i hs
  obtain ⟨r2, rfl, hk2, hs2⟩ := sr_r hs1
  obtain ⟨q0, fs, hq0, hfe, hfl, hfs⟩ := hq_obj hhq hK ha
  refine va_put hx hb (uws_at ha hsf) (fun _ q => q) (tyc a) (tyc_at a ha) (nmc_at a ha) hown hKK hP hD hS q0 hq0 (vw_at a ha) c hc (sfp_word hsf hw) (fun x q => q) hfin (tyc_at a ha c hc) (by rw [hty]; rcases h01 with rfl | rfl <;> rfl) (by rw [hty]; rcases h01 with rfl | rfl <;> rfl) (by rw [hfl]; exact hc) hd (fun H1 locs1 hP1 hD1 hS1 => ?_)
  rw [← hn]
  refine h p e rm s m args below meth cc H1 locs1 cells slots lsA _ am am0 K0 hcx hsf hma hdf hdl hcb hsb (hp_write hhq hK (by omega) hfe hq0 hP1 hD1 (Or.inl ⟨ha, _, rfl, by rw [List.length_set]; exact hfl, fun j hj => ?_⟩) (fun L2 h2 => ⟨setI_ne h2, rfl⟩) (fun j L2 hj => hRR L j L2 hk2 hj) (bel_of hsf.2.2.2.2.2.2 hS hS1)) hS1 hl hs2 he
  rw [List.getElem?_set]
  by_cases e1 : c = j
  · subst e1
    rw [if_pos rfl, if_pos (by rw [hfl]; exact hc), hty, if_neg (by exact Bool.false_ne_true), up2_at]
    unfold upd
    rw [if_pos rfl]
  · rw [if_neg e1, hfs j hj, up2_at]
    unfold upd
    rw [if_neg (Ne.symm e1)]

set_option maxHeartbeats 1000000 in
theorem sd_36 {l : Launch} {base : Nat} {D : va_G} {d b y i : Nat} {ls : List (Option PV)} {st : List PV} {K : KM} {I : IM} {R : RM} {Q : QT} {a c : Nat} {z : Int} (HC : chkB y i 36 a c z (pg_wd y i) = true) (h9 : stB (Snd l base D) 36 a c z d b y i ls st K I R Q) : Snd l base D d b y i ls st K I R Q := by
  intro p e rm s m args below meth cc H locs cells slots lsA stA am am0 K0 hcx hsf hma hdf hdl hcb hsb hh hS hl hs he
  obtain ⟨hx, hb, hr, hml, hown, hlk, hnm, htb⟩ := id hcx
  obtain ⟨tys, Ls, f, hhq⟩ := id hh
  obtain ⟨hKK, hP, hD, -, h14, hinj, hRR⟩ := id hhq
  obtain ⟨q, L, r, n, rfl, hK, h⟩ := (show ∃ q L r n, st = pR (some q) :: pR (some L) :: r ∧ K L = some (a, n) ∧ Snd l base D d b y (i + 1) ls r K I (up2R R L c (some q)) Q from h9)
  have HC : (dc y i (.putfield z.toNat) 3 && decide (a < 6) && decide (c < nfl a) && isRT (tyc a c) && (decide ((clT a c).2.2.2 = false) || (decide ((pg_nm y).name = "<init>") && decide ((clT a c).1 = pg_own y) && decide ((clT a c).2.2.2 = true))) && isw ((pg_wd y i).getD 0 0) (.fieldLink (pg_own y) z.toNat (clT a c).1 (clT a c).2.1 (clT a c).2.2.1)) = true := HC
  simp only [Bool.and_eq_true, Bool.or_eq_true, decide_eq_true_eq] at HC
  obtain ⟨⟨⟨⟨⟨h0, ha⟩, hc⟩, hty⟩, hfin⟩, hw⟩ := HC
  obtain ⟨hd, hn⟩ := dc_at h0
  obtain ⟨r1, rfl, hkk, hs1⟩ := sr_r hs
  obtain ⟨r2, rfl, hk2, hs2⟩ := sr_r hs1
  obtain ⟨q0, fs, hq0, hfe, hfl, hfs⟩ := hq_obj hhq hK ha
  have hna : narrow (tyc a c) (.ref (am q)) = .ref (am q) := by
    revert hty
    generalize tyc a c = t
    intro hty
    cases t <;> first | rfl | cases hty
  have hft : fits (tyc a c) (.ref (am q)) = true := by
    revert hty
    generalize tyc a c = t
    intro hty
    cases t <;> first | rfl | cases hty
  rcases hfin with hfin | ⟨⟨hin, hde⟩, hfin⟩
  · refine va_put hx hb (uws_at ha hsf) (fun _ q => q) (tyc a) (tyc_at a ha) (nmc_at a ha) hown hKK hP hD hS q0 hq0 (vw_at a ha) c hc (sfp_word hsf hw) (fun x q => q) hfin (tyc_at a ha c hc) hna hft (by rw [hfl]; exact hc) hd (fun H1 locs1 hP1 hD1 hS1 => ?_)
    rw [← hn]
    refine h p e rm s m args below meth cc H1 locs1 cells slots lsA _ am am0 K0 hcx hsf hma hdf hdl hcb hsb (hp_write hhq hK (by omega) hfe hq0 hP1 hD1 (Or.inl ⟨ha, _, rfl, by rw [List.length_set]; exact hfl, fun j hj => ?_⟩) (fun L2 h2 => ⟨rfl, setR_ne h2⟩) (fun j L2 hj => ?_) (bel_of hsf.2.2.2.2.2.2 hS hS1)) hS1 hl hs2 he
    · rw [List.getElem?_set]
      by_cases e1 : c = j
      · subst e1
        rw [if_pos rfl, if_pos (by rw [hfl]; exact hc), if_pos hty, up2R_at]
        unfold va_up
        rw [if_pos rfl]
        rfl
      · rw [if_neg e1, hfs j hj, up2R_at]
        unfold va_up
        rw [if_neg (Ne.symm e1)]
    · rw [up2R_at] at hj
      unfold va_up at hj
      split at hj
      · cases hj
        exact hkk
      · exact hRR L j L2 hk2 hj

  · refine va_putF hx hb (uws_at ha hsf) (fun _ q => q) (tyc a) (tyc_at a ha) (nmc_at a ha) hown hKK hP hD hS q0 hq0 (vw_at a ha) c hc (sfp_word hsf hw) (fun x q => q) hfin (hnm.trans hin) hde (tyc_at a ha c hc) hna hft (by rw [hfl]; exact hc) hd (fun H1 locs1 hP1 hD1 hS1 => ?_)
    rw [← hn]
    refine h p e rm s m args below meth cc H1 locs1 cells slots lsA _ am am0 K0 hcx hsf hma hdf hdl hcb hsb (hp_write hhq hK (by omega) hfe hq0 hP1 hD1 (Or.inl ⟨ha, _, rfl, by rw [List.length_set]; exact hfl, fun j hj => ?_⟩) (fun L2 h2 => ⟨rfl, setR_ne h2⟩) (fun j L2 hj => ?_) (bel_of hsf.2.2.2.2.2.2 hS hS1)) hS1 hl hs2 he
    · rw [List.getElem?_set]
      by_cases e1 : c = j
      · subst e1
        rw [if_pos rfl, if_pos (by rw [hfl]; exact hc), if_pos hty, up2R_at]
        unfold va_up
        rw [if_pos rfl]
        rfl
      · rw [if_neg e1, hfs j hj, up2R_at]
        unfold va_up
        rw [if_neg (Ne.symm e1)]
    · rw [up2R_at] at hj
      unfold va_up at hj
      split at hj
      · cases hj
        exact hkk
      · exact hRR L j L2 hk2 hj
end
section
/-! the steps of the pure machine that make cells, call, throw and return -/
theorem ent_kind {am : Lb → Nat} {tys : List (ClassId × FieldType)} {k n : Nat} {i : Nat → Int32} {r : Nat → Option Lb} {e : va_E} (h : ent am tys k n i r e) : k ≠ 14 := by
  rcases h with h | h | h | h
  · exact fun q => by have := h.1; omega
  · exact fun q => by have := h.1; omega
  · exact fun q => by have := h.1; omega
  · exact fun q => by have := h.1; omega
/-- a new cell, by a label that named nothing -/
theorem hp_new {base : Nat} {D : va_G} {am : Lb → Nat} {K : KM} {I : IM} {R : RM} {s : State} {H H1 : Heap} {tys t2 : List (ClassId × FieldType)} {Ls : List Nat} {f : Nat → va_E} (h : hq base D am K I R s H tys Ls f) {L : Lb} (hL : K L = none) {k n q : Nat} {e : va_E}
    (hK1 : va_K D vwCl (tys ++ t2) s) (hP1 : va_P D vwCl (wl Ls f ++ [(q, e)]) H1) (hD1 : va_D (ab base) (wl Ls f ++ [(q, e)])) (hent : ∀ am' : Lb → Nat, ent am' (tys ++ t2) k n (fun _ => 0) (fun _ => none) e) (hbel : ∀ q, q < base → H1[q]? = H[q]?) :
    hp base D (fun L2 => if L2 = L then q else am L2) (setK K L (k, n)) (setI I L (fun _ => 0)) (setR R L (fun _ => none)) s H1 ∧ ext am K (fun L2 => if L2 = L then q else am L2) (setK K L (k, n)) := by
  obtain ⟨h1, h2, h3, h4, h5, h6, h7⟩ := h
  have hne : ∀ L2, K L2 ≠ none → L2 ≠ L := fun L2 h2 e2 => h2 (by rw [e2]; exact hL)
  have hext : ext am K (fun L2 => if L2 = L then q else am L2) (setK K L (k, n)) := fun L2 hk2 => ⟨if_neg (hne L2 hk2), if_neg (hne L2 hk2)⟩
  have hlen : (wl Ls f).length = Ls.length := by simp [wl, va_pl]
  have hq : q ∉ Ls := by
    intro hq
    obtain ⟨j, hj⟩ := va_pl_get (X := ([] : va_W)) (f := f) hq
    have hlt : j < (wl Ls f).length := (List.getElem?_eq_some_iff.mp hj).1
    have := hD1.1 j (wl Ls f).length (q, f q) (q, e) (by rw [List.getElem?_append_left hlt]; exact hj) (by simp) rfl
    omega
  have hqb : base ≤ q := hD1.2 (wl Ls f).length (q, e) (by simp)
  have e1 : wl Ls f ++ [(q, e)] = wl (Ls ++ [q]) (va_up f q e) := by
    show ([] ++ va_pl Ls f) ++ [(q, e)] = [] ++ va_pl (Ls ++ [q]) (va_up f q e)
    rw [List.append_assoc, va_pl_push hq]
  rw [e1] at hP1 hD1
  have hk14 := ent_kind (hent am)
  have hsome : ∀ L2, setK K L (k, n) L2 ≠ none → L2 = L ∨ (L2 ≠ L ∧ K L2 ≠ none) := fun L2 h2 => by
    by_cases e2 : L2 = L
    · exact Or.inl e2
    · refine Or.inr ⟨e2, ?_⟩
      unfold setK at h2
      rwa [if_neg e2] at h2
  have hamne : ∀ L2, K L2 ≠ none → am L2 ≠ q := fun L2 hk2 e2 => by
    cases hK2 : K L2 with
    | none => exact hk2 hK2
    | some kn =>
      obtain ⟨k2, n2⟩ := kn
      by_cases h14 : k2 = 14
      · subst h14
        have := (h5 L2 n2 hK2).2
        omega
      · exact hq (by rw [← e2]; exact (h4 L2 k2 n2 hK2 h14).1)
  refine ⟨⟨tys ++ t2, Ls ++ [q], va_up f q e, hK1, hP1, hD1, fun L2 k2 n2 hK2 hk2 => ?_, fun L2 n2 hK2 => ?_, fun L2 L3 hk2 hk3 he => ?_, fun L2 j L3 hk2 hr => ?_⟩, hext⟩
  · by_cases e2 : L2 = L
    · subst e2
      rw [show setK K L2 (k, n) L2 = some (k, n) from if_pos rfl] at hK2
      cases hK2
      dsimp only
      rw [if_pos rfl, show va_up f q e q = e from if_pos rfl, setI_at, setR_at]
      exact ⟨List.mem_append_right _ List.mem_cons_self, hent _⟩
    · rw [show setK K L (k, n) L2 = K L2 from if_neg e2] at hK2
      obtain ⟨m2, t2e⟩ := h4 L2 k2 n2 hK2 hk2
      have hkk : K L2 ≠ none := by rw [hK2]; exact fun z => by cases z
      dsimp only
      rw [if_neg e2, show va_up f q e (am L2) = f (am L2) from if_neg (hamne L2 hkk), setI_ne e2, setR_ne e2]
      exact ⟨List.mem_append_left _ m2, ent_am (fun j L' hj => if_neg (hne L' (h7 L2 j L' hkk hj))) (ent_app t2e)⟩
  · have e2 : L2 ≠ L := fun z => by
      subst z
      rw [show setK K L2 (k, n) L2 = some (k, n) from if_pos rfl] at hK2
      cases hK2
      exact hk14 rfl
    rw [show setK K L (k, n) L2 = K L2 from if_neg e2] at hK2
    obtain ⟨⟨scr, g1, g2⟩, g3⟩ := h5 L2 n2 hK2
    dsimp only
    rw [if_neg e2, setI_ne e2]
    exact ⟨⟨scr, by rw [hbel _ g3]; exact g1, g2⟩, g3⟩
  · dsimp only at he
    rcases hsome L2 hk2 with rfl | ⟨e2, k2⟩
    · rcases hsome L3 hk3 with rfl | ⟨e3, k3⟩
      · rfl
      · rw [if_pos rfl, if_neg e3] at he
        exact absurd he.symm (hamne L3 k3)
    · rcases hsome L3 hk3 with rfl | ⟨e3, k3⟩
      · rw [if_pos rfl, if_neg e2] at he
        exact absurd he (hamne L2 k2)
      · rw [if_neg e2, if_neg e3] at he
        exact h6 L2 L3 k2 k3 he
  · rcases hsome L2 hk2 with rfl | ⟨e2, k2⟩
    · rw [setR_at] at hr
      cases hr
    · rw [setR_ne e2] at hr
      have := h7 L2 j L3 k2 hr
      show setK K L (k, n) L3 ≠ none
      unfold setK
      split
      · exact fun z => by cases z
      · exact this
theorem tyc_kinds : (List.range 6).all (fun ci => (List.range (nfl ci)).all (fun j => decide (tyc ci j = .int) || decide (tyc ci j = .boolean) || isRT (tyc ci j))) = true := by decide +kernel
theorem default_at {ci j : Nat} (h : ci < 6) (hj : j < nfl ci) : defaultValue (tyc ci j) = (if isRT (tyc ci j) = true then .null else .int 0) := by
  have h1 := List.all_eq_true.mp (List.all_eq_true.mp tyc_kinds ci (List.mem_range.mpr h)) j (List.mem_range.mpr hj)
  simp only [Bool.or_eq_true, decide_eq_true_eq] at h1
  rcases h1 with (h1 | h1) | h1
  · rw [h1]; rfl
  · rw [h1]; rfl
  · rw [if_pos h1]
    revert h1
    generalize tyc ci j = t
    intro h1
    cases t <;> first | rfl | cases h1

set_option maxHeartbeats 1000000 in
theorem sd_37 {l : Launch} {base : Nat} {D : va_G} {d b y i : Nat} {ls : List (Option PV)} {st : List PV} {K : KM} {I : IM} {R : RM} {Q : QT} {a c : Nat} {z : Int} (HC : chkB y i 37 a c z (pg_wd y i) = true) (h9 : stC (Snd l base D) 37 a c z d b y i ls st K I R Q) : Snd l base D d b y i ls st K I R Q := by
  intro p e rm s m args below meth cc H locs cells slots lsA stA am am0 K0 hcx hsf hma hdf hdl hcb hsb hh hS hl hs he
  obtain ⟨hx, hb, hr, hml, hown, hlk, hnm, htb⟩ := id hcx
  obtain ⟨tys, Ls, f, hhq⟩ := id hh
  obtain ⟨hKK, hP, hD, -, h14, hinj, hRR⟩ := id hhq
  have hA : ∀ q, s.heap.size ≤ q → ab base q := fun q hq => Nat.le_trans hsf.2.2.2.2.2.2 hq
  obtain ⟨L, b', hL, rfl, h⟩ := (show ∃ L b', K L = none ∧ b = b' + (1 + nfl a) ∧ Snd l base D d b' y (i + 1) ls (pR (some L) :: st) (setK K L (a, 0)) (setI I L (fun _ => 0)) (setR R L (fun _ => none)) Q from h9)
  have HC : (dc y i (.new z.toNat) 3 && decide (a < 6) && isw ((pg_wd y i).getD 0 0) (.classLink (pg_own y) z.toNat (clC a)) && isw ((pg_wd y i).getD 1 0) (.instantiable (clC a) (nfl a)) && isw ((pg_wd y i).getD 2 0) (.initialized (clC a))) = true := HC
  simp only [Bool.and_eq_true, decide_eq_true_eq] at HC
  obtain ⟨⟨⟨⟨h0, ha⟩, hw0⟩, hw1⟩, hw2⟩ := HC
  obtain ⟨hd, hn⟩ := dc_at h0
  refine va_new (fs := (List.range (nfl a)).map (fun j => defaultValue (tyc a j))) hx hb (uws_at ha hsf) (fun _ q => q) (tyc a) (tyc_at a ha) hown (sfp_word hsf hw0) (sfp_word hsf hw1) (sfp_word hsf hw2) hKK hP hD hS hA (vw_at a ha) (fun j hj => by simp [vp_V, hj]) (by omega) (by omega) hd (fun q H1 hP1 hD1 hS1 => ?_)
  obtain ⟨hp1, hx1⟩ := hp_new (t2 := []) (k := a) (n := 0) hhq hL (by rw [List.append_nil]; exact hKK) hP1 hD1 (fun am' => Or.inl ⟨ha, _, rfl, by simp, fun j hj => by
    rw [List.getElem?_map, List.getElem?_range hj]
    show some (defaultValue (tyc a j)) = _
    rw [default_at ha hj]
    rfl⟩) (bel_of hsf.2.2.2.2.2.2 hS hS1)
  rw [← hn]
  exact h p e rm s m args below meth cc H1 locs (cells + 1) (slots + nfl a) lsA _ _ am0 K0 hcx hsf hma hdf hdl (by omega) (by omega) hp1 hS1 (lr_ext hx1 hl) ⟨⟨congrArg Value.ref (if_pos rfl).symm, by unfold setK; rw [if_pos rfl]; exact fun z => by cases z⟩, sr_ext hx1 hs⟩ (ext_tr he hx1)

set_option maxHeartbeats 1000000 in
theorem sd_38 {l : Launch} {base : Nat} {D : va_G} {d b y i : Nat} {ls : List (Option PV)} {st : List PV} {K : KM} {I : IM} {R : RM} {Q : QT} {a c : Nat} {z : Int} (HC : chkB y i 38 a c z (pg_wd y i) = true) (h9 : stC (Snd l base D) 38 a c z d b y i ls st K I R Q) : Snd l base D d b y i ls st K I R Q := by
  intro p e rm s m args below meth cc H locs cells slots lsA stA am am0 K0 hcx hsf hma hdf hdl hcb hsb hh hS hl hs he
  obtain ⟨hx, hb, hr, hml, hown, hlk, hnm, htb⟩ := id hcx
  obtain ⟨tys, Ls, f, hhq⟩ := id hh
  obtain ⟨hKK, hP, hD, -, h14, hinj, hRR⟩ := id hhq
  have hA : ∀ q, s.heap.size ≤ q → ab base q := fun q hq => Nat.le_trans hsf.2.2.2.2.2.2 hq
  obtain ⟨L, n, r, b', rfl, hL, hlt, rfl, h⟩ := (show ∃ L n r b', st = pI (Int32.ofNat n) :: r ∧ K L = none ∧ n < 1000000 ∧ b = b' + (1 + n) ∧ Snd l base D d b' y (i + 1) ls (pR (some L) :: r) (setK K L (a, n)) (setI I L (fun _ => 0)) (setR R L (fun _ => none)) Q from h9)
  have HC : ((decide (a = 7) && dc y i (.newarray .int) 2 && isw ((pg_wd y i).getD 0 0) (.arrayClass .int)) || (decide (a = 8) && dc y i (.newarray .boolean) 2 && isw ((pg_wd y i).getD 0 0) (.arrayClass .boolean)) || (decide (a = 13) && dc y i (.newarray .long) 2 && isw ((pg_wd y i).getD 0 0) (.arrayClass .long))) = true := HC
  simp only [Bool.and_eq_true, Bool.or_eq_true, decide_eq_true_eq] at HC
  obtain ⟨r1, rfl, hs1⟩ := sr_i hs
  obtain ⟨hn0, hnN⟩ : ¬ (Int32.ofNat n) < 0 ∧ (Int32.ofNat n).toNatClampNeg = n := ⟨nI_pos (by omega), nI_clamp (by omega)⟩
  rcases HC with (⟨⟨rfl, h0⟩, hw⟩ | ⟨⟨rfl, h0⟩, hw⟩) | ⟨⟨rfl, h0⟩, hw⟩
  · obtain ⟨hd, hn⟩ := dc_at h0
    refine va_newa (atype := .int) (ty := .int) (a0 := (n, .inl (fun _ => 0))) (N' := n) hx hb (sfp_word hsf hw) rfl hKK hP hD hS hA (fun cA => rfl) hn0 hnN (by show n * 4 ≤ _; omega) (by omega) (by omega) hd (fun q cA H1 hK1 hP1 hD1 hS1 => ?_)
    obtain ⟨hp1, hx1⟩ := hp_new (k := 7) (n := n) hhq hL hK1 hP1 hD1 (fun am' => Or.inr (Or.inl ⟨Or.inl rfl, cA, tys.length, rfl, by simp [kty]⟩)) (bel_of hsf.2.2.2.2.2.2 hS hS1)
    rw [← hn]
    exact h p e rm s m args below meth cc H1 locs (cells + 1) (slots + n) lsA _ _ am0 K0 hcx hsf hma hdf hdl (by omega) (by omega) hp1 hS1 (lr_ext hx1 hl) ⟨⟨congrArg Value.ref (if_pos rfl).symm, by unfold setK; rw [if_pos rfl]; exact fun z => by cases z⟩, sr_ext hx1 hs1⟩ (ext_tr he hx1)
  · obtain ⟨hd, hn⟩ := dc_at h0
    refine va_newa (atype := .boolean) (ty := .boolean) (a0 := (n, .inl (fun _ => 0))) (N' := n) hx hb (sfp_word hsf hw) rfl hKK hP hD hS hA (fun cA => rfl) hn0 hnN (by show n * 1 ≤ _; omega) (by omega) (by omega) hd (fun q cA H1 hK1 hP1 hD1 hS1 => ?_)
    obtain ⟨hp1, hx1⟩ := hp_new (k := 8) (n := n) hhq hL hK1 hP1 hD1 (fun am' => Or.inr (Or.inl ⟨Or.inr rfl, cA, tys.length, rfl, by simp [kty]⟩)) (bel_of hsf.2.2.2.2.2.2 hS hS1)
    rw [← hn]
    exact h p e rm s m args below meth cc H1 locs (cells + 1) (slots + n) lsA _ _ am0 K0 hcx hsf hma hdf hdl (by omega) (by omega) hp1 hS1 (lr_ext hx1 hl) ⟨⟨congrArg Value.ref (if_pos rfl).symm, by unfold setK; rw [if_pos rfl]; exact fun z => by cases z⟩, sr_ext hx1 hs1⟩ (ext_tr he hx1)
  · obtain ⟨hd, hn⟩ := dc_at h0
    refine va_newa (atype := .long) (ty := .long) (a0 := (n, .inr (.inl (fun _ => (0 : Int32).toInt64)))) (N' := n) hx hb (sfp_word hsf hw) rfl hKK hP hD hS hA (fun cA => rfl) hn0 hnN (by show n * 8 ≤ _; omega) (by omega) (by omega) hd (fun q cA H1 hK1 hP1 hD1 hS1 => ?_)
    obtain ⟨hp1, hx1⟩ := hp_new (k := 13) (n := n) hhq hL hK1 hP1 hD1 (fun am' => Or.inr (Or.inr (Or.inl ⟨rfl, cA, tys.length, rfl, by simp⟩))) (bel_of hsf.2.2.2.2.2.2 hS hS1)
    rw [← hn]
    exact h p e rm s m args below meth cc H1 locs (cells + 1) (slots + n) lsA _ _ am0 K0 hcx hsf hma hdf hdl (by omega) (by omega) hp1 hS1 (lr_ext hx1 hl) ⟨⟨congrArg Value.ref (if_pos rfl).symm, by unfold setK; rw [if_pos rfl]; exact fun z => by cases z⟩, sr_ext hx1 hs1⟩ (ext_tr he hx1)

set_option maxHeartbeats 1000000 in
theorem sd_39 {l : Launch} {base : Nat} {D : va_G} {d b y i : Nat} {ls : List (Option PV)} {st : List PV} {K : KM} {I : IM} {R : RM} {Q : QT} {a c : Nat} {z : Int} (HC : chkB y i 39 a c z (pg_wd y i) = true) (h9 : stC (Snd l base D) 39 a c z d b y i ls st K I R Q) : Snd l base D d b y i ls st K I R Q := by
  intro p e rm s m args below meth cc H locs cells slots lsA stA am am0 K0 hcx hsf hma hdf hdl hcb hsb hh hS hl hs he
  obtain ⟨hx, hb, hr, hml, hown, hlk, hnm, htb⟩ := id hcx
  obtain ⟨tys, Ls, f, hhq⟩ := id hh
  obtain ⟨hKK, hP, hD, -, h14, hinj, hRR⟩ := id hhq
  have hA : ∀ q, s.heap.size ≤ q → ab base q := fun q hq => Nat.le_trans hsf.2.2.2.2.2.2 hq
  obtain ⟨L, n, r, b', rfl, hL, hlt, rfl, h⟩ := (show ∃ L n r b', st = pI (Int32.ofNat n) :: r ∧ K L = none ∧ n < 1000000 ∧ b = b' + (1 + n) ∧ Snd l base D d b' y (i + 1) ls (pR (some L) :: r) (setK K L (a, n)) (setI I L (fun _ => 0)) (setR R L (fun _ => none)) Q from h9)
  have HC : (dc y i (.anewarray z.toNat) 3 && decide (9 ≤ a) && decide (a ≤ 12) && isw ((pg_wd y i).getD 0 0) (.classLink (pg_own y) z.toNat (elN a))) = true := HC
  simp only [Bool.and_eq_true, Bool.or_eq_true, decide_eq_true_eq] at HC
  obtain ⟨⟨⟨h0, ha1⟩, ha2⟩, hw⟩ := HC
  obtain ⟨hd, hn⟩ := dc_at h0
  obtain ⟨r1, rfl, hs1⟩ := sr_i hs
  obtain ⟨hn0, hnN⟩ : ¬ (Int32.ofNat n) < 0 ∧ (Int32.ofNat n).toNatClampNeg = n := ⟨nI_pos (by omega), nI_clamp (by omega)⟩
  refine va_newq hx hb hown (sfp_word hsf hw) (hsf.2.1 a ha1 ha2) hKK hP hD hS hA hn0 hnN (by omega) (by omega) (by omega) hd (fun q cA H1 hK1 hP1 hD1 hS1 => ?_)
  obtain ⟨hp1, hx1⟩ := hp_new (k := a) (n := n) hhq hL hK1 hP1 hD1 (fun am' => Or.inr (Or.inr (Or.inr ⟨⟨ha1, ha2⟩, cA, tys.length, rfl, by simp⟩))) (bel_of hsf.2.2.2.2.2.2 hS hS1)
  rw [← hn]
  exact h p e rm s m args below meth cc H1 locs (cells + 1) (slots + n) lsA _ _ am0 K0 hcx hsf hma hdf hdl (by omega) (by omega) hp1 hS1 (lr_ext hx1 hl) ⟨⟨congrArg Value.ref (if_pos rfl).symm, by unfold setK; rw [if_pos rfl]; exact fun z => by cases z⟩, sr_ext hx1 hs1⟩ (ext_tr he hx1)

set_option maxHeartbeats 1000000 in
theorem sd_43 {l : Launch} {base : Nat} {D : va_G} {d b y i : Nat} {ls : List (Option PV)} {st : List PV} {K : KM} {I : IM} {R : RM} {Q : QT} {a c : Nat} {z : Int} (HC : chkB y i 43 a c z (pg_wd y i) = true) (h9 : stC (Snd l base D) 43 a c z d b y i ls st K I R Q) : Snd l base D d b y i ls st K I R Q := by
  intro p e rm s m args below meth cc H locs cells slots lsA stA am am0 K0 hcx hsf hma hdf hdl hcb hsb hh hS hl hs he
  obtain ⟨hx, hb, hr, hml, hown, hlk, hnm, htb⟩ := id hcx
  obtain ⟨tys, Ls, f, hhq⟩ := id hh
  obtain ⟨hKK, hP, hD, -, h14, hinj, hRR⟩ := id hhq
  have hA : ∀ q, s.heap.size ≤ q → ab base q := fun q hq => Nat.le_trans hsf.2.2.2.2.2.2 hq
  obtain ⟨L, r, rfl, hrl, hd1, h⟩ := (show ∃ L r, st = pR (some L) :: r ∧ r.length ≤ 4 ∧ 1 ≤ d ∧ Snd l base D d b y (i + 1) ls r K I R Q from h9)
  have HC : (dc y i (.invokespecial z.toNat) 3 && isw ((pg_wd y i).getD 0 0) (.methodLink (pg_own y) z.toNat Lib.objectInit) && isw ((pg_wd y i).getD 1 0) (.instanceMethod Lib.objectInit) && isw ((pg_wd y i).getD 2 0) (.code Lib.objectInit ⟨#[0xb1]⟩ 1 none)) = true := HC
  simp only [Bool.and_eq_true, Bool.or_eq_true, decide_eq_true_eq] at HC
  obtain ⟨⟨⟨h0, hw0⟩, hw1⟩, hw2⟩ := HC
  obtain ⟨hd, hn⟩ := dc_at h0
  obtain ⟨r1, rfl, hk2, hs1⟩ := sr_r hs
  have hc1 := sr_cat hs1
  have hlz := hl.2.choose_spec.1.1
  refine W.objInit hx hb hown (sfp_word hsf hw0) (sfp_word hsf hw1) (sfp_word hsf hw2) rfl (by show lsA.size = _; rw [hlz, hml]) rfl hd (by omega) (by show 2 * 0 + _ + 12 ≤ _; omega) ?_
  show W p l e rm s m args below meth cc H locs cells slots _ (F0 m (pg_pc y i + 3) lsA r1)
  rw [← hn]
  exact h p e rm s m args below meth cc H locs cells slots lsA _ am am0 K0 hcx hsf hma hdf hdl hcb hsb hh hS hl hs1 he

set_option maxHeartbeats 1000000 in
theorem sd_51 {l : Launch} {base : Nat} {D : va_G} {d b y i : Nat} {ls : List (Option PV)} {st : List PV} {K : KM} {I : IM} {R : RM} {Q : QT} {a c : Nat} {z : Int} (HC : chkB y i 51 a c z (pg_wd y i) = true) (h9 : stC (Snd l base D) 51 a c z d b y i ls st K I R Q) : Snd l base D d b y i ls st K I R Q := by
  intro p e rm s m args below meth cc H locs cells slots lsA stA am am0 K0 hcx hsf hma hdf hdl hcb hsb hh hS hl hs he
  obtain ⟨hx, hb, hr, hml, hown, hlk, hnm, htb⟩ := id hcx
  obtain ⟨tys, Ls, f, hhq⟩ := id hh
  obtain ⟨hKK, hP, hD, -, h14, hinj, hRR⟩ := id hhq
  have hA : ∀ q, s.heap.size ≤ q → ab base q := fun q hq => Nat.le_trans hsf.2.2.2.2.2.2 hq
  obtain ⟨u, v, r, rfl, hrl, hd1, h⟩ := (show ∃ u v r, st = pI v :: pI u :: r ∧ r.length ≤ 4 ∧ 1 ≤ d ∧ Snd l base D d b y (i + 1) ls (pI (if u < v then v else u) :: r) K I R Q from h9)
  have HC : (dc y i (.invokestatic z.toNat) 3 && isw ((pg_wd y i).getD 0 0) (.methodLink (pg_own y) z.toNat Lib.Math.max.name) && isw ((pg_wd y i).getD 1 0) (.static Lib.Math.max.name) && isw ((pg_wd y i).getD 2 0) (.initialized "java/lang/Math") && isw ((pg_wd y i).getD 3 0) (.code Lib.Math.max.name Lib.Math.max.code 2 (some .int))) = true := HC
  simp only [Bool.and_eq_true, Bool.or_eq_true, decide_eq_true_eq] at HC
  obtain ⟨⟨⟨⟨h0, hw0⟩, hw1⟩, hw2⟩, hw3⟩ := HC
  obtain ⟨hd, hn⟩ := dc_at h0
  obtain ⟨r0, rfl, hs0⟩ := sr_i hs
  obtain ⟨r1, rfl, hs1⟩ := sr_i hs0
  have hc1 := sr_cat hs1
  have hlz := hl.2.choose_spec.1.1
  refine va_mmax hx hb (by rw [hlz, hml]) hown (sfp_word hsf hw0) (sfp_word hsf hw1) (sfp_word hsf hw2) (sfp_word hsf hw3) (by omega) (by omega) (by omega) (by omega) hd ?_
  rw [← hn]
  exact h p e rm s m args below meth cc H locs cells slots lsA _ am am0 K0 hcx hsf hma hdf hdl hcb hsb hh hS hl ⟨rfl, hs1⟩ he

set_option maxHeartbeats 1000000 in
theorem sd_52 {l : Launch} {base : Nat} {D : va_G} {d b y i : Nat} {ls : List (Option PV)} {st : List PV} {K : KM} {I : IM} {R : RM} {Q : QT} {a c : Nat} {z : Int} (HC : chkB y i 52 a c z (pg_wd y i) = true) (h9 : stC (Snd l base D) 52 a c z d b y i ls st K I R Q) : Snd l base D d b y i ls st K I R Q := by
  intro p e rm s m args below meth cc H locs cells slots lsA stA am am0 K0 hcx hsf hma hdf hdl hcb hsb hh hS hl hs he
  obtain ⟨hx, hb, hr, hml, hown, hlk, hnm, htb⟩ := id hcx
  obtain ⟨tys, Ls, f, hhq⟩ := id hh
  obtain ⟨hKK, hP, hD, -, h14, hinj, hRR⟩ := id hhq
  have hA : ∀ q, s.heap.size ≤ q → ab base q := fun q hq => Nat.le_trans hsf.2.2.2.2.2.2 hq
  obtain ⟨u, v, r, rfl, hrl, hd1, h⟩ := (show ∃ u v r, st = pI v :: pI u :: r ∧ r.length ≤ 4 ∧ 1 ≤ d ∧ Snd l base D d b y (i + 1) ls (pI (if v < u then v else u) :: r) K I R Q from h9)
  have HC : (dc y i (.invokestatic z.toNat) 3 && isw ((pg_wd y i).getD 0 0) (.methodLink (pg_own y) z.toNat Lib.Math.min.name) && isw ((pg_wd y i).getD 1 0) (.static Lib.Math.min.name) && isw ((pg_wd y i).getD 2 0) (.initialized "java/lang/Math") && isw ((pg_wd y i).getD 3 0) (.code Lib.Math.min.name Lib.Math.min.code 2 (some .int))) = true := HC
  simp only [Bool.and_eq_true, Bool.or_eq_true, decide_eq_true_eq] at HC
  obtain ⟨⟨⟨⟨h0, hw0⟩, hw1⟩, hw2⟩, hw3⟩ := HC
  obtain ⟨hd, hn⟩ := dc_at h0
  obtain ⟨r0, rfl, hs0⟩ := sr_i hs
  obtain ⟨r1, rfl, hs1⟩ := sr_i hs0
  have hc1 := sr_cat hs1
  have hlz := hl.2.choose_spec.1.1
  refine va_mmin hx hb (by rw [hlz, hml]) hown (sfp_word hsf hw0) (sfp_word hsf hw1) (sfp_word hsf hw2) (sfp_word hsf hw3) (by omega) (by omega) (by omega) (by omega) hd ?_
  rw [← hn]
  exact h p e rm s m args below meth cc H locs cells slots lsA _ am am0 K0 hcx hsf hma hdf hdl hcb hsb hh hS hl ⟨rfl, hs1⟩ he

set_option maxHeartbeats 1000000 in
theorem sd_53 {l : Launch} {base : Nat} {D : va_G} {d b y i : Nat} {ls : List (Option PV)} {st : List PV} {K : KM} {I : IM} {R : RM} {Q : QT} {a c : Nat} {z : Int} (HC : chkB y i 53 a c z (pg_wd y i) = true) (h9 : stC (Snd l base D) 53 a c z d b y i ls st K I R Q) : Snd l base D d b y i ls st K I R Q := by
  intro p e rm s m args below meth cc H locs cells slots lsA stA am am0 K0 hcx hsf hma hdf hdl hcb hsb hh hS hl hs he
  obtain ⟨hx, hb, hr, hml, hown, hlk, hnm, htb⟩ := id hcx
  obtain ⟨tys, Ls, f, hhq⟩ := id hh
  obtain ⟨hKK, hP, hD, -, h14, hinj, hRR⟩ := id hhq
  have hA : ∀ q, s.heap.size ≤ q → ab base q := fun q hq => Nat.le_trans hsf.2.2.2.2.2.2 hq
  obtain ⟨u, r, rfl, hrl, hd1, h⟩ := (show ∃ u r, st = pI u :: r ∧ r.length ≤ 4 ∧ 1 ≤ d ∧ Snd l base D d b y (i + 1) ls (pI (if 0 ≤ u then u else 0 - u) :: r) K I R Q from h9)
  have HC : (dc y i (.invokestatic z.toNat) 3 && isw ((pg_wd y i).getD 0 0) (.methodLink (pg_own y) z.toNat Lib.Math.abs.name) && isw ((pg_wd y i).getD 1 0) (.static Lib.Math.abs.name) && isw ((pg_wd y i).getD 2 0) (.initialized "java/lang/Math") && isw ((pg_wd y i).getD 3 0) (.code Lib.Math.abs.name Lib.Math.abs.code 1 (some .int))) = true := HC
  simp only [Bool.and_eq_true, Bool.or_eq_true, decide_eq_true_eq] at HC
  obtain ⟨⟨⟨⟨h0, hw0⟩, hw1⟩, hw2⟩, hw3⟩ := HC
  obtain ⟨hd, hn⟩ := dc_at h0
  obtain ⟨r1, rfl, hs1⟩ := sr_i hs
  have hc1 := sr_cat hs1
  have hlz := hl.2.choose_spec.1.1
  refine va_mabs hx hb (by rw [hlz, hml]) hown (sfp_word hsf hw0) (sfp_word hsf hw1) (sfp_word hsf hw2) (sfp_word hsf hw3) (by omega) (by omega) (by omega) (by omega) hd ?_
  rw [← hn]
  exact h p e rm s m args below meth cc H locs cells slots lsA _ am am0 K0 hcx hsf hma hdf hdl hcb hsb hh hS hl ⟨rfl, hs1⟩ he

set_option maxHeartbeats 1000000 in
theorem sd_45 {l : Launch} {base : Nat} {D : va_G} {d b y i : Nat} {ls : List (Option PV)} {st : List PV} {K : KM} {I : IM} {R : RM} {Q : QT} {a c : Nat} {z : Int} (HC : chkB y i 45 a c z (pg_wd y i) = true) (h9 : stC (Snd l base D) 45 a c z d b y i ls st K I R Q) : Snd l base D d b y i ls st K I R Q := by
  intro p e rm s m args below meth cc H locs cells slots lsA stA am am0 K0 hcx hsf hma hdf hdl hcb hsb hh hS hl hs he
  obtain ⟨hx, hb, hr, hml, hown, hlk, hnm, htb⟩ := id hcx
  obtain ⟨tys, Ls, f, hhq⟩ := id hh
  obtain ⟨hKK, hP, hD, -, h14, hinj, hRR⟩ := id hhq
  have hA : ∀ q, s.heap.size ≤ q → ab base q := fun q hq => Nat.le_trans hsf.2.2.2.2.2.2 hq
  obtain ⟨x, rfl, hb01, h⟩ := (show ∃ x, st = [pI x] ∧ (pg_rt y = some .boolean → x = 0 ∨ x = 1) ∧ Q (.inl (some (pI x))) K I R from h9)
  have HC : (dc0 y i .ireturn 1 && (decide (pg_rt y = some .int) || decide (pg_rt y = some .boolean))) = true := HC
  simp only [dc0, Bool.and_eq_true, Bool.or_eq_true, decide_eq_true_eq] at HC
  obtain ⟨hd, hrt⟩ := HC
  obtain ⟨r1, rfl, hs1⟩ := sr_i hs
  obtain rfl := sr_nil hs1
  have hvf : ∀ t : State, t.heap = H → va_F (ab base) s t := fun t ht => ⟨by rw [ht]; exact hS.1, fun q q1 q2 => by rw [ht]; exact hS.2.1 q q1 q2⟩
  refine W.widen (k := rm.cells) (n := rm.slots) (by omega) (by omega) (vx_ret ?_)
  have hq : ∀ t : State, t.heap = H → s.WarmedH t.vm → QcF base D am0 K0 Q args s (.returned (some (.int x))) t := fun t ht hW => ⟨some (pI x), K, I, R, am, h, ⟨.int x, rfl, rfl⟩, by rw [ht]; exact hp_moved hW.alike hh, he, hvf t ht⟩
  rcases hrt with hrt | hrt
  · exact W.iret hx hb (hr.trans hrt) hq hS.2.2 hd hlk
  · exact W.zret hx hb (hr.trans hrt) (by rcases hb01 hrt with rfl | rfl <;> rfl) hq hS.2.2 hd hlk

set_option maxHeartbeats 1000000 in
theorem sd_46 {l : Launch} {base : Nat} {D : va_G} {d b y i : Nat} {ls : List (Option PV)} {st : List PV} {K : KM} {I : IM} {R : RM} {Q : QT} {a c : Nat} {z : Int} (HC : chkB y i 46 a c z (pg_wd y i) = true) (h9 : stC (Snd l base D) 46 a c z d b y i ls st K I R Q) : Snd l base D d b y i ls st K I R Q := by
  intro p e rm s m args below meth cc H locs cells slots lsA stA am am0 K0 hcx hsf hma hdf hdl hcb hsb hh hS hl hs he
  obtain ⟨hx, hb, hr, hml, hown, hlk, hnm, htb⟩ := id hcx
  obtain ⟨tys, Ls, f, hhq⟩ := id hh
  obtain ⟨hKK, hP, hD, -, h14, hinj, hRR⟩ := id hhq
  have hA : ∀ q, s.heap.size ≤ q → ab base q := fun q hq => Nat.le_trans hsf.2.2.2.2.2.2 hq
  obtain ⟨L, rfl, h⟩ := (show ∃ L, st = [pR (some L)] ∧ Q (.inl (some (pR (some L)))) K I R from h9)
  have HC : (dc0 y i .areturn 1 && (match pg_rt y with
      | some t => isRT t
      | none => false)) = true := HC
  simp only [dc0, Bool.and_eq_true, decide_eq_true_eq] at HC
  obtain ⟨hd, hrt⟩ := HC
  obtain ⟨r1, rfl, hk2, hs1⟩ := sr_r hs
  obtain rfl := sr_nil hs1
  have hvf : ∀ t : State, t.heap = H → va_F (ab base) s t := fun t ht => ⟨by rw [ht]; exact hS.1, fun q q1 q2 => by rw [ht]; exact hS.2.1 q q1 q2⟩
  refine W.widen (k := rm.cells) (n := rm.slots) (by omega) (by omega) (vx_ret ?_)
  have hq : ∀ t : State, t.heap = H → s.WarmedH t.vm → QcF base D am0 K0 Q args s (.returned (some (.ref (am L)))) t := fun t ht hW => ⟨some (pR (some L)), K, I, R, am, h, ⟨.ref (am L), rfl, rfl, hk2⟩, by rw [ht]; exact hp_moved hW.alike hh, he, hvf t ht⟩
  cases hrr : pg_rt y with
  | none => rw [hrr] at hrt; cases hrt
  | some t =>
    rw [hrr] at hrt hr
    exact W.aret hx hb hr (by
      cases t <;> first | exact Or.inl ⟨_, rfl⟩ | exact Or.inr ⟨_, rfl⟩ | cases hrt) (Or.inr ⟨_, rfl⟩) hq hS.2.2 hd hlk

set_option maxHeartbeats 1000000 in
theorem sd_47 {l : Launch} {base : Nat} {D : va_G} {d b y i : Nat} {ls : List (Option PV)} {st : List PV} {K : KM} {I : IM} {R : RM} {Q : QT} {a c : Nat} {z : Int} (HC : chkB y i 47 a c z (pg_wd y i) = true) (h9 : stC (Snd l base D) 47 a c z d b y i ls st K I R Q) : Snd l base D d b y i ls st K I R Q := by
  intro p e rm s m args below meth cc H locs cells slots lsA stA am am0 K0 hcx hsf hma hdf hdl hcb hsb hh hS hl hs he
  obtain ⟨hx, hb, hr, hml, hown, hlk, hnm, htb⟩ := id hcx
  obtain ⟨tys, Ls, f, hhq⟩ := id hh
  obtain ⟨hKK, hP, hD, -, h14, hinj, hRR⟩ := id hhq
  have hA : ∀ q, s.heap.size ≤ q → ab base q := fun q hq => Nat.le_trans hsf.2.2.2.2.2.2 hq
  obtain ⟨rfl, h⟩ := (show st = [] ∧ Q (.inl none) K I R from h9)
  have HC : (dc0 y i .return_ 1 && decide (pg_rt y = none)) = true := HC
  simp only [dc0, Bool.and_eq_true, decide_eq_true_eq] at HC
  obtain ⟨hd, hrt⟩ := HC
  obtain rfl := sr_nil hs
  have hvf : ∀ t : State, t.heap = H → va_F (ab base) s t := fun t ht => ⟨by rw [ht]; exact hS.1, fun q q1 q2 => by rw [ht]; exact hS.2.1 q q1 q2⟩
  refine W.widen (k := rm.cells) (n := rm.slots) (by omega) (by omega) (vx_ret ?_)
  have hq : ∀ t : State, t.heap = H → s.WarmedH t.vm → QcF base D am0 K0 Q args s (.returned none) t := fun t ht hW => ⟨none, K, I, R, am, h, rfl, by rw [ht]; exact hp_moved hW.alike hh, he, hvf t ht⟩
  exact W.vret hx hb (hr.trans hrt) hq hS.2.2 hd hlk
end
section
theorem z_castw : Cond.castable (pg_ex 1) (pg_ex 1) ∈ lw_tbl ∧ Cond.castable (pg_ex 2) (pg_ex 2) ∈ lw_tbl ∧ Cond.castable (pg_ex 3) (pg_ex 3) ∈ lw_tbl := ⟨List.mem_of_getElem? (i := 372) (by decide +kernel), List.mem_of_getElem? (i := 292) (by decide +kernel), List.mem_of_getElem? (i := 424) (by decide +kernel)⟩

/-! throws and calls -/
theorem va_at_grow {D : va_G} {cl : List vw_C} {q : Nat × va_E} {H H1 : Heap} (hk : ∀ a : Nat, a < H.size → H1[a]? = H[a]?) (h : va_at D cl q H) : va_at D cl q H1 := by
  obtain ⟨a, e⟩ := q
  cases e with
  | inl x =>
    have h : H[a]? = some (vp_cell x.1 x.2) := h
    show H1[a]? = some (vp_cell x.1 x.2)
    rw [hk a (Array.getElem?_eq_some_iff.mp h).1]
    exact h
  | inr o =>
    obtain ⟨r, hr, cell, hc, h2⟩ := h
    exact ⟨r, hr, cell, by rw [hk a (Array.getElem?_eq_some_iff.mp hc).1]; exact hc, h2⟩
theorem hp_grow {base : Nat} {D : va_G} {am : Lb → Nat} {K : KM} {I : IM} {R : RM} {s : State} {H H1 : Heap} (hk : ∀ a : Nat, a < H.size → H1[a]? = H[a]?) (h : hp base D am K I R s H) : hp base D am K I R s H1 := by
  obtain ⟨tys, Ls, f, h1, h2, h3, h4, h5, h6, h7⟩ := h
  refine ⟨tys, Ls, f, h1, fun k q hq => va_at_grow hk (h2 k q hq), h3, h4, fun L n hL => ?_, h6, h7⟩
  obtain ⟨⟨scr, g1, g2⟩, g3⟩ := h5 L n hL
  exact ⟨⟨scr, by rw [hk _ (Array.getElem?_eq_some_iff.mp g1).1]; exact g1, g2⟩, g3⟩
def thW (e : Nat) : List Cond := vx_atS RX5 (if e = 1 then 53 else if e = 2 then 64 else 87) (pg_ex e) thn
set_option maxRecDepth 100000 in
theorem thW_ok : [1, 2, 3].all (fun e => (thW e).all (fun w => decide (w ∈ lw_tbl) && okw w && vx_ot w) && Bundle.fit (pg_ex e)) = true := by decide +kernel
theorem thn_ok : thn.all Bundle.fit = true := by decide +kernel
theorem hh_of (y : Nat) : pg_hh y = (pg_hx y).map (fun h => (h.1, h.2.1, h.2.2.2.2.1, h.2.2.2.2.2.1)) ∧ ∀ h ∈ pg_hx y, isw h.2.2.2.2.2.2 (.classLink (pg_own y) h.2.2.2.2.2.1 (pg_ex h.2.2.2.1)) = true ∧ pg_pc y h.2.2.1 = h.2.2.2.2.1 ∧ h.2.2.2.2.2.1 ≠ 0 ∧ (h.2.2.2.1 = 1 ∨ h.2.2.2.1 = 2 ∨ h.2.2.2.1 = 3) := by
  by_cases hy : y < 103
  · have h := List.all_eq_true.mp chkH_all y (List.mem_range.mpr hy)
    unfold chkH at h
    simp only [Bool.and_eq_true, Bool.or_eq_true, decide_eq_true_eq, List.all_eq_true] at h
    refine ⟨h.1, fun q hq => ?_⟩
    obtain ⟨⟨⟨a, b⟩, c⟩, d⟩ := h.2 q hq
    exact ⟨a, b, c, by rcases d with (d | d) | d <;> simp [d]⟩
  · have e1 : pg_ms[y]? = none := List.getElem?_eq_none (Nat.le_of_not_lt hy)
    have e2 : pg_hs[y]? = none := List.getElem?_eq_none (Nat.le_of_not_lt hy)
    have e3 : pg_hx y = [] := by simp [pg_hx, e2]
    refine ⟨by simp [pg_hh, e1, e3, pg_m0], fun h hh => by rw [e3] at hh; cases hh⟩
def PcF (base : Nat) (D : va_G) (am : Lb → Nat) (K : KM) (I : IM) (R : RM) (as : List PV) : Array Value → State → Prop := fun av U => sfp base U U.heap ∧ hp base D am K I R U U.heap ∧ ∃ as' : List Value, av = as'.toArray ∧ sr am K as as'
theorem blindF {base : Nat} {D : va_G} {am : Lb → Nat} {K : KM} {I : IM} {R : RM} {as : List PV} : FrameBlind (PcF base D am K I R as) := by
  intro a U g mk h
  obtain ⟨h1, h2, h3⟩ := h
  exact ⟨sfp_warm (s := U) (U := U.calling g mk a) (State.WarmedH.refl U) (Nat.le_refl _) (fun _ _ _ => rfl) h1, hp_moved (s := U) (U := U.calling g mk a) (State.WarmedH.refl U).alike h2, h3⟩
theorem chkC_at {a : Nat} (h : chkC a = true) : isw (pg_qs.getD a pg_q0).2.2.2.1 (pg_cw a) = true ∧ isw (pg_qs.getD a pg_q0).2.2.2.2.1 (if pg_sta a then .static (pg_nm a) else .instanceMethod (pg_nm a)) = true ∧ isw (pg_qs.getD a pg_q0).2.2.2.2.2.1 (.initialized (pg_own a)) = true ∧ ((pg_nm a).cls ≠ "java/lang/invoke/MethodHandle" ∧ (pg_nm a).cls ≠ "java/lang/invoke/VarHandle") ∧ (parseMethodDescriptor (pg_nm a).desc).map (fun d => d.parameters.length) = some (if pg_sta a then pg_na a else pg_na a - 1) ∧ plainName (pg_nm a).cls = true ∧ pg_pc a 0 = 0 ∧ pg_na a ≤ pg_ml a ∧ pg_ml a ≤ 40 ∧ pg_own a ≠ "java/lang/Math" ∧ (pg_sta a = true ∨ 1 ≤ pg_na a) := by
  unfold chkC at h
  simp only [Bool.and_eq_true, Bool.or_eq_true, decide_eq_true_eq] at h
  obtain ⟨⟨⟨⟨⟨⟨⟨⟨⟨⟨⟨⟨h1, h2⟩, h3⟩, h4⟩, h5⟩, h6⟩, h7⟩, h8⟩, h9⟩, h10⟩, -⟩, h12⟩, h13⟩ := h
  exact ⟨h1, h2, h3, ⟨h4, h5⟩, h6, h7, h8, h9, h10, h12, h13⟩
set_option maxHeartbeats 1000000 in
/-- what the pure machine does at a method's entry is a contract of the method -/
theorem snd_met {l : Launch} {base : Nat} {D : va_G} {a d' : Nat} {K : KM} {I : IM} {R : RM} {as : List PV} {P : QT} (HX : Snd l base D d' (pg_cst a) a 0 (entls a as) [] K I R P) (hck : chkC a = true) (hna : as.length = pg_na a) (hc1 : ∀ v ∈ as, isC1 v) (am : Lb → Nat) :
    vx_Met l (pg_nm a) [pg_cw a] { frames := d', cells := pg_cst a, slots := pg_cst a, locals := 80 * d' } (PcF base D am K I R as) (QcF base D am K P) (XcF base D am K P) (pg_cst a) (pg_cst a) (ab base) := by
  obtain ⟨k1, k2, k3, k4, k5, k6, k7, k8, k9, k10, k11⟩ := chkC_at hck
  have hgo : ∀ (p : Program) (e : Env) (s : State) (m : MethodId) (args : Array Value) (below : List Frame) (meth : Method) (c : Code) (s₁ : State), BodyLoose p l (pg_nm a) (headSpec [pg_cw a] { frames := d', cells := pg_cst a, slots := pg_cst a, locals := 80 * d' }) (pg_by a) (pg_ml a) (pg_rt a) e s m args below meth c s₁ → c.maxLocals = pg_ml a → c.exceptionTable.toList = tableOf (pg_hh a) → PcF base D am K I R as args s →
      W p l e (headSpec [pg_cw a] { frames := d', cells := pg_cst a, slots := pg_cst a, locals := 80 * d' }).room s m args below meth c s.heap [] 0 0 (vx_MQ below (QcF base D am K P) (XcF base D am K P) args s (pg_cst a) (pg_cst a) (ab base)) (entryFrame m args (pg_ml a)) := by
    intro p e s m args below meth c s₁ B hml htab hP
    obtain ⟨hsf, hh, as', rfl, hsr⟩ := hP
    rw [lg_entry_eq]
    have hcx : Cx p s m meth c a := ⟨B.exec, B.bytes, B.returns, hml, findClass_of_methodNamed B.named, B.notSynchronized, (name_of_methodNamed B.named B.method).1, htab⟩
    have := HX p e { frames := d', cells := pg_cst a, slots := pg_cst a, locals := 80 * d' } s m as'.toArray below meth c s.heap [] 0 0 _ [] am am K hcx hsf k10 (Nat.le_refl _) (Nat.le_refl _) (Nat.le_of_eq (Nat.zero_add _)) (Nat.le_of_eq (Nat.zero_add _)) hh va_S.rf (lr_entry hsr hc1 (by rw [hna]; exact k8)) trivial ext_rfl
    rw [k7] at this
    exact this
  by_cases hhe : pg_hh a = []
  · refine vx_ofW (cc := pg_by a) (maxL := pg_ml a) (ret := pg_rt a) (ws' := []) k6 (by unfold pg_cw; rw [if_pos hhe]) (fun p e s m args below meth c s₁ B hml hno hP => hgo p e s m args below meth c s₁ B hml ?_ hP)
    rw [hhe]
    cases hq : c.exceptionTable.toList with
    | nil => rfl
    | cons x r => exact (hno x (by rw [hq]; exact List.mem_cons_self)).elim
  · refine vx_ofWH (cc := pg_by a) (maxL := pg_ml a) (ret := pg_rt a) (hh := pg_hh a) (ws' := []) k6 (by unfold pg_cw; rw [if_neg hhe]) (fun p e s m args below meth c s₁ B hml hP => hgo p e s m args below meth c s₁ B hml ?_ hP)
    refine vx_table (x := pg_nm a) (bytes := pg_by a) (maxL' := pg_ml a) (ret' := pg_rt a) B ?_
    have := atoms_spec (ws := [pg_cw a]) B.pre (pg_cw a) List.mem_cons_self
    unfold pg_cw at this
    rw [if_neg hhe] at this
    exact this
section ZC
variable {p : Program} {l : Launch} {e : Env} {R : Room} {s : State} {m : MethodId} {args : Array Value} {below : List Frame} {meth : Method} {c : Code} {H : Heap} {locs : List Loc} {cells slots : Nat} {Q : State → Prop}
/-- behind a call that returns or throws -/
theorem z_call {pc : Nat} {ls : Array Slot} {rest st0 : List Value} {base mc ms : Nat} {Qa : State → Outcome → State → Prop} {XC : String → State → State → Prop} (hr : vx_Run p l e R s m args below meth c H locs cells slots mc ms (F0 m pc ls st0) rest Qa XC (ab base)) (hS : va_S (ab base) s.heap H locs)
    (hQF : ∀ st o t, Qa st o t → va_F (ab base) st t) (hXF : ∀ E st t, XC E st t → va_F (ab base) st t)
    (kx : ∀ (E : String) (ce : Cell) (q9 : Addr) (st t : State) (H1 : Heap) (locs1 : List Loc), st.heap = H → t.heap = H1 → s.vm.Alike t.vm → XC E st t → va_S (ab base) s.heap H1 locs1 → H1[q9]? = some ce → ce.vm = .none → s.vm.findClass E = some ce.cls → vx_W p l e R s m args below meth c H1 locs1 (cells + mc) (slots + ms) Q (F0 m pc ls rest) q9)
    (kk : ∀ (v : Option Value) (st t : State) (H1 : Heap) (locs1 : List Loc), st.heap = H → t.heap = H1 → s.vm.Alike t.vm → Qa st (.returned v) t → va_S (ab base) s.heap H1 locs1 → W p l e R s m args below meth c H1 locs1 (cells + mc) (slots + ms) Q (F0 m (pc + 3) ls (v.toList ++ rest))) : W p l e R s m args below meth c H locs cells slots Q (F0 m pc ls st0) := by
  intro T hT X
  rcases hr T hT X with ⟨v, st₀, t, T', L, h0, X', hL, e1, e2, hq, st⟩ | ⟨q, st₀, t, T', L, E, ce, h0, X', hL, e1, e2, hx, hce, hcv, hcl, st⟩
  · obtain ⟨k1, k2, k3⟩ := vx_keep h0 e1 hS (fun _ _ z => z) (fun _ z => z) hL (hQF _ _ _ hq)
    obtain ⟨t2, a1, b1⟩ := kk v st₀ t T'.heap (locs ++ L) h0 e1.symm (by rw [← e2]; exact X'.warmed.alike) hq k3 T' rfl X'
    exact ⟨t2, st t2 a1, b1⟩
  · obtain ⟨k1, k2, k3⟩ := vx_keep h0 e1 hS (fun _ _ z => z) (fun _ z => z) hL (hXF _ _ _ hx)
    obtain ⟨t2, a1, b1⟩ := kx E ce q st₀ t T'.heap (locs ++ L) h0 e1.symm (by rw [← e2]; exact X'.warmed.alike) hx k3 (by rw [e1]; exact hce) hcv hcl T' rfl X'
    exact ⟨t2, st.trans a1, b1⟩
end ZC
def mkE (h : Nat × Nat × Nat × Nat × Nat × Nat × Nat) : ExceptionTableEntry := ⟨h.1, h.2.1, h.2.2.2.2.1, h.2.2.2.2.2.1⟩
theorem pg_ex_ne {e f : Nat} (he : 1 ≤ e ∧ e ≤ 3) (hf : f = 1 ∨ f = 2 ∨ f = 3) (h : f ≠ e) : pg_ex e ≠ pg_ex f := by
  have : e = 1 ∨ e = 2 ∨ e = 3 := by omega
  rcases this with rfl | rfl | rfl <;> rcases hf with rfl | rfl | rfl <;> first | exact absurd rfl h | decide
set_option maxHeartbeats 1000000 in
/-- behind a call: what the pure machine says of it carries over -/
theorem z_aft {l : Launch} {base : Nat} {D : va_G} {d b' y i a : Nat} {ls : List (Option PV)} {rest : List PV} {Q P : QT} {K : KM}
    (h2 : ∀ r K' I' R', P r K' I' R' → aft (Snd l base D) d b' y i ls rest Q r K' I' R')
    {p : Program} {e : Env} {rm : Room} {s : State} {m : MethodId} {args : Array Value} {below : List Frame} {meth : Method} {cc : Code} {H : Heap} {locs : List Loc} {cells slots : Nat} {lsA : Array Slot} {restA st0 : List Value} {am am0 : Lb → Nat} {K0 : KM} {av : Array Value}
    (hcx : Cx p s m meth cc y) (hsf : sfp base s s.heap) (hma : pg_own y ≠ "java/lang/Math") (hdf : d ≤ rm.frames) (hdl : 80 * d ≤ rm.locals) (hcb : cells + pg_cst a + b' ≤ rm.cells) (hsb : slots + pg_cst a + b' ≤ rm.slots)
    (hS : va_S (ab base) s.heap H locs) (hl : lr am K ls lsA (pg_ml y)) (hs : sr am K rest restA) (he : ext am0 K0 am K) (hn : pg_pc y (i + 1) = pg_pc y i + 3)
    (hr : vx_Run p l e rm s m args below meth cc H locs cells slots (pg_cst a) (pg_cst a) (F0 m (pg_pc y i) lsA st0) restA (QcF base D am K P av) (XcF base D am K P) (ab base)) :
    W p l e rm s m args below meth cc H locs cells slots (vx_MQ below (QcF base D am0 K0 Q) (XcF base D am0 K0 Q) args s rm.cells rm.slots (ab base)) (F0 m (pg_pc y i) lsA st0) := by
  refine z_call hr hS (fun st o t hq => ?_) (fun E st t hx => ?_) (fun E ce q9 st t H1 locs1 hst ht hvm hx hS1 hce hcv hcl => ?_) (fun v st t H1 locs1 hst ht hvm hq hS1 => ?_)
  · obtain ⟨r, K', I', R', am', -, -, -, -, hF⟩ := hq
    exact hF
  · obtain ⟨r, K', I', R', am', -, -, -, -, hF⟩ := hx
    exact hF
  · obtain ⟨e9, K', I', R', am', hP, ⟨rfl, he9⟩, hh1, hx1, hF⟩ := hx
    have hh2 : hp base D am' K' I' R' s H1 := by rw [← ht]; exact hp_moved hvm.symm hh1
    have h3 := h2 _ _ _ _ hP
    unfold aft at h3
    dsimp only at h3
    split at h3
    · rename_i h hf
      unfold hfind at hf
      split at hf
      · rename_i x hfx
        cases hf
        obtain ⟨hpx, as1, bs1, hsp, hpre⟩ := List.find?_eq_some_iff_append.mp hfx
        simp only [Bool.and_eq_true, decide_eq_true_eq] at hpx
        obtain ⟨⟨c1, c2⟩, c3⟩ := hpx
        obtain ⟨hmap, hall⟩ := hh_of y
        obtain ⟨w1, w2, w3, w4⟩ := hall x (by rw [hsp]; exact List.mem_append_right _ List.mem_cons_self)
        have htb : cc.exceptionTable.toList = tableOf (pg_hh y) := hcx.2.2.2.2.2.2.2
        have hown := hcx.2.2.2.2.1
        have htb2 : cc.exceptionTable.toList = as1.map mkE ++ mkE x :: bs1.map mkE := by
          rw [htb, hmap, hsp, tableOf, List.map_map, List.map_append, List.map_cons]
          rfl
        refine vx_catch (name := pg_ex x.2.2.2.1) hown (as1.map mkE) (mkE x) (bs1.map mkE) htb2 (fun z hz => ?_) ?_ w3 (sfp_word hsf w1) ?_ hce hcv hcl ?_
        · obtain ⟨z2, hz2, rfl⟩ := List.mem_map.mp hz
          obtain ⟨v1, v2, v3, v4⟩ := hall z2 (by rw [hsp]; exact List.mem_append_left _ hz2)
          have hn2 := hpre z2 hz2
          by_cases hcov : z2.1 ≤ pg_pc y i ∧ pg_pc y i < z2.2.1
          · refine Or.inr ⟨v3, pg_ex z2.2.2.2.1, sfp_word hsf v1, ?_⟩
            refine hsf.2.2.2.1 _ _ (pg_ex_ne he9 v4 (fun q => ?_))
            simp [hcov.1, hcov.2, q] at hn2
          · refine Or.inl ?_
            show (decide (z2.1 ≤ pg_pc y i) && decide (pg_pc y i < z2.2.1)) = false
            by_cases q1 : z2.1 ≤ pg_pc y i
            · rw [decide_eq_false (fun q2 => hcov ⟨q1, q2⟩), Bool.and_false]
            · rw [decide_eq_false q1, Bool.false_and]
        · show (decide (x.1 ≤ pg_pc y i) && decide (pg_pc y i < x.2.1)) = true
          rw [decide_eq_true c1, decide_eq_true c2]; rfl
        · have hE : pg_ex x.2.2.2.1 = pg_ex e9 := by rw [c3]
          rw [hE]
          have hcw : ∀ f : Nat, f = 1 ∨ f = 2 ∨ f = 3 → Cond.castable (pg_ex f) (pg_ex f) ∈ lw_tbl := by
            intro f hf
            rcases hf with rfl | rfl | rfl
            · exact z_castw.1
            · exact z_castw.2.1
            · exact z_castw.2.2
          have hm := hcw e9 (by omega)
          exact okw_use (by rfl) (hsf.1 _ hm (by rfl))
        · show W p l e rm s m args below meth cc H1 locs1 (cells + pg_cst a) (slots + pg_cst a) _ (F0 m x.2.2.2.2.1 lsA [.ref q9])
          rw [← w2]
          exact h3 p e rm s m args below meth cc H1 locs1 _ _ lsA _ am' am0 K0 hcx hsf hma hdf hdl hcb hsb hh2 hS1 (lr_ext hx1 hl) ⟨⟨q9, rfl⟩, trivial⟩ (ext_tr he hx1)
      · cases hf
    · obtain ⟨hx0, hQ⟩ := h3
      have htb : cc.exceptionTable.toList = tableOf (pg_hh y) := hcx.2.2.2.2.2.2.2
      rw [(hh_of y).1, hx0] at htb
      refine vx_out (fun x hx => by rw [htb] at hx; cases hx) hcx.2.2.2.2.2.1 hce hcv hcl (fun t2 ht2 hvm2 => ⟨e9, K', I', R', am', hQ, ⟨rfl, he9⟩, by rw [ht2]; exact hp_moved hvm2 hh2, ext_tr he hx1, by rw [ht2]; exact hS1.1, fun q q1 q2 => by rw [ht2]; exact hS1.2.1 q q1 q2⟩) hS1.2.2 (by omega) (by omega)
  · obtain ⟨r, K', I', R', am', hP, ho, hh1, hx1, hF⟩ := hq
    have hh2 : hp base D am' K' I' R' s H1 := by rw [← ht]; exact hp_moved hvm.symm hh1
    have h3 := h2 _ _ _ _ hP
    rw [← hn]
    cases r with
    | none =>
      have ho : Outcome.returned v = .returned none := ho
      cases ho
      exact (show Snd l base D d b' y (i + 1) ls rest K' I' R' Q from h3) p e rm s m args below meth cc H1 locs1 _ _ lsA _ am' am0 K0 hcx hsf hma hdf hdl hcb hsb hh2 hS1 (lr_ext hx1 hl) (sr_ext hx1 hs) (ext_tr he hx1)
    | some w =>
      obtain ⟨v', ho, hv⟩ := ho
      cases ho
      exact (show Snd l base D d b' y (i + 1) ls (w :: rest) K' I' R' Q from h3) p e rm s m args below meth cc H1 locs1 _ _ lsA _ am' am0 K0 hcx hsf hma hdf hdl hcb hsb hh2 hS1 (lr_ext hx1 hl) ⟨hv, sr_ext hx1 hs⟩ (ext_tr he hx1)

theorem sr_cat1 {am : Lb → Nat} {K : KM} : ∀ {st : List PV} {st' : List Value}, sr am K st st' → (∀ v ∈ st, isC1 v) → (st'.map fun v => v.category).sum = st.length
  | [], [], _, _ => rfl
  | v :: r, v' :: r', hs, hc => by
    have h1 := vr_c1 hs.1 (hc v List.mem_cons_self)
    have h2 := sr_cat1 hs.2 (fun w hw => hc w (List.mem_cons_of_mem _ hw))
    simp only [List.map_cons, List.sum_cons, List.length_cons]
    omega
  | [], _ :: _, hs, _ => hs.elim
  | _ :: _, [], hs, _ => hs.elim

set_option maxHeartbeats 1000000 in
theorem sd_40 {l : Launch} {base : Nat} {D : va_G} {d b y i : Nat} {ls : List (Option PV)} {st : List PV} {K : KM} {I : IM} {R : RM} {Q : QT} {a c : Nat} {z : Int} (HC : chkB y i 40 a c z (pg_wd y i) = true) (h9 : stC (Snd l base D) 40 a c z d b y i ls st K I R Q) : Snd l base D d b y i ls st K I R Q := by
  intro p e rm s m args below meth cc H locs cells slots lsA stA am am0 K0 hcx hsf hma hdf hdl hcb hsb hh hS hl hs he
  obtain ⟨hx, hb, hr, hml, hown, hlk, hnm, htb⟩ := id hcx
  obtain ⟨as, rest, d', b', P, rfl, hna, hc1, hrl, rfl, rfl, h1, h2⟩ := (show ∃ as rest d' b' P, st = as.reverse ++ rest ∧ as.length = pg_na a ∧ (∀ v ∈ as, isC1 v) ∧ (rest.length ≤ 4 ∨ rest.length ≤ 8 ∧ ∀ v ∈ rest, isC1 v) ∧ d = d' + 1 ∧ b = b' + pg_cst a ∧ Snd l base D d' (pg_cst a) a 0 (entls a as) [] K I R P ∧ ∀ r K' I' R', P r K' I' R' → aft (Snd l base D) (d' + 1) b' y i ls rest Q r K' I' R' from by
    obtain ⟨as, rest, d', b', P, e1, e2, e2c, e3, e4, e5, e6, e7⟩ := h9
    exact ⟨as, rest, d', b', P, e1, e2, e2c, e3, e4, e5, e6, by rw [← e4]; exact e7⟩)
  have HC : (dc y i (.invokestatic z.toNat) 3 && chkC a && pg_sta a && isw ((pg_wd y i).getD 0 0) (.methodLink (pg_own y) z.toNat (pg_nm a))) = true := HC
  simp only [Bool.and_eq_true] at HC
  obtain ⟨⟨⟨h0, hck⟩, hst⟩, hw⟩ := HC
  obtain ⟨hd, hn⟩ := dc_at h0
  obtain ⟨k1, k2, k3, k4, k5, k6, k7, k8, k9, k10, k11⟩ := chkC_at hck
  rw [hst, if_pos rfl] at k2 k5
  obtain ⟨asA, restA, rfl, hsa, hsr⟩ := sr_un hs
  have hlen2 := sr_len hsa
  have hcat : 2 * (F0 m (pg_pc y i) lsA ([] : List Value)).monitorRoom + (restA.map fun v => v.category).sum ≤ 8 := by
    show 2 * 0 + _ ≤ 8
    rcases hrl with hrl | ⟨hrl, hr1⟩
    · have := sr_cat hsr
      omega
    · have := sr_cat1 hsr hr1
      omega
  have hlz := hl.2.choose_spec.1.1
  have hcwd : (pg_cw a).before args s = true := sfp_word hsf k1
  have hcwU : ∀ w ∈ [pg_cw a], ∀ (a' : Array Value) (U : State), s.WarmedH U.vm → w.before a' U = true := fun w hw a' U hW => by
    rw [List.mem_singleton] at hw
    subst hw
    have ho : okw (pg_cw a) = true := by
      unfold isw at k1
      rw [Bool.and_eq_true] at k1
      exact k1.2
    exact okw_use ho (okw_warm ho hW (okw_use ho hcwd))
  have hsig : ∀ sig, parseMethodDescriptor (pg_nm a).desc = some sig → as.length = sig.parameters.length := fun sig hsg => by
    rw [hsg, Option.map_some] at k5
    have := Option.some.inj k5
    rw [this]
    exact hna
  have hlo0 : 8 + (pg_ml a + 11) + 80 * d' ≤ rm.locals := by omega
  have hfix : CallFix p m cc (pg_by y) (pg_ml y) s args [] (pg_own y) := ⟨hx, hb, hml, hown, fun w hw => nomatch hw⟩
  have hpre : PreS s H (PcF base D am K I R as) asA := ⟨blindF, fun U hU hW => ⟨sfp_warm hW (by rw [hU]; exact hS.1) (fun q q1 q2 => by rw [hU]; exact hS.2.1 q q1 q2) hsf, by rw [hU]; exact hp_moved hW.alike hh, asA, rfl, hsa⟩⟩
  refine z_aft (a := a) (d := d' + 1) h2 hcx hsf hma hdf hdl (by omega) (by omega) hS hl hsr he hn (av := asA.toArray) (st0 := asA.reverse ++ restA) ?_
  by_cases hhe : pg_hh a = []
  · have ecw : pg_cw a = .code (pg_nm a) (pg_by a) (pg_ml a) (pg_rt a) := by unfold pg_cw; rw [if_pos hhe]
    exact vx_runS (n := as.length) hfix (snd_met h1 hck hna hc1 am) ⟨⟨rfl, rfl, hdf, hlo0, hcwU, by rw [ecw]; exact List.mem_cons_self, by rw [← ecw]; exact hcwd, sfp_word hsf k3, k4, hsig, sfp_word hsf hw⟩, sfp_word hsf k2⟩ hpre rfl hlen2 hlz rfl hcat hd ⟨by omega, by omega⟩
  · have ecw : pg_cw a = .codeWith (pg_nm a) (pg_by a) (pg_ml a) (pg_rt a) (pg_hh a) := by unfold pg_cw; rw [if_neg hhe]
    exact vx_runSX (n := as.length) hfix (snd_met h1 hck hna hc1 am) ⟨⟨rfl, rfl, hdf, hlo0, hcwU, by rw [ecw]; exact List.mem_cons_self⟩, by rw [← ecw]; exact hcwd, sfp_word hsf k3, k4, hsig, sfp_word hsf hw, sfp_word hsf k2⟩ hpre rfl hlen2 hlz rfl hcat hd ⟨by omega, by omega⟩

set_option maxHeartbeats 1000000 in
theorem sd_41 {l : Launch} {base : Nat} {D : va_G} {d b y i : Nat} {ls : List (Option PV)} {st : List PV} {K : KM} {I : IM} {R : RM} {Q : QT} {a c : Nat} {z : Int} (HC : chkB y i 41 a c z (pg_wd y i) = true) (h9 : stC (Snd l base D) 41 a c z d b y i ls st K I R Q) : Snd l base D d b y i ls st K I R Q := by
  intro p e rm s m args below meth cc H locs cells slots lsA stA am am0 K0 hcx hsf hma hdf hdl hcb hsb hh hS hl hs he
  obtain ⟨hx, hb, hr, hml, hown, hlk, hnm, htb⟩ := id hcx
  obtain ⟨L, as, rest, d', b', n, P, rfl, hna, hc1, hrl, hK, rfl, rfl, h1, h2⟩ := (show ∃ L as rest d' b' n P, st = as.reverse ++ pR (some L) :: rest ∧ as.length + 1 = pg_na a ∧ (∀ v ∈ as, isC1 v) ∧ rest.length ≤ 4 ∧ K L = some (pg_cl a, n) ∧ d = d' + 1 ∧ b = b' + pg_cst a ∧ Snd l base D d' (pg_cst a) a 0 (entls a (pR (some L) :: as)) [] K I R P ∧ ∀ r K' I' R', P r K' I' R' → aft (Snd l base D) (d' + 1) b' y i ls rest Q r K' I' R' from by
    obtain ⟨L, as, rest, d', b', n, P, e1, e2, e2c, e3, e4, e5, e6, e7, e8⟩ := h9
    exact ⟨L, as, rest, d', b', n, P, e1, e2, e2c, e3, e4, e5, e6, e7, by rw [← e5]; exact e8⟩)
  have HC : (dc y i (.invokevirtual z.toNat) 3 && chkC a && !(pg_sta a) && decide (pg_hh a = []) && decide (pg_cl a < 6) && decide (pg_own a = clC (pg_cl a)) && isw ((pg_wd y i).getD 0 0) (.methodLink (pg_own y) z.toNat (pg_nm a)) && isw (pg_qs.getD a pg_q0).2.2.2.2.2.2 (.selects (pg_own a) (pg_nm a) (pg_nm a))) = true := HC
  simp only [Bool.and_eq_true, decide_eq_true_eq, Bool.not_eq_true'] at HC
  obtain ⟨⟨⟨⟨⟨⟨⟨h0, hck⟩, hst⟩, hhe⟩, hcl7⟩, hoc⟩, hw⟩, hsel⟩ := HC
  obtain ⟨hd, hn⟩ := dc_at h0
  obtain ⟨k1, k2, k3, k4, k5, k6, k7, k8, k9, k10, k11⟩ := chkC_at hck
  rw [hst, if_neg (by exact Bool.false_ne_true)] at k2 k5
  obtain ⟨asA, c2, rfl, hsa, hs2⟩ := sr_un hs
  obtain ⟨restA, rfl, hkL, hsr⟩ := sr_r hs2
  have hlen2 := sr_len hsa
  have hcat : 2 * (F0 m (pg_pc y i) lsA ([] : List Value)).monitorRoom + (restA.map fun v => v.category).sum ≤ 8 := by
    have := sr_cat hsr
    show 2 * 0 + _ ≤ 8
    omega
  have hlz := hl.2.choose_spec.1.1
  have hcwd : (pg_cw a).before args s = true := sfp_word hsf k1
  have hcwU : ∀ w ∈ [pg_cw a], ∀ (a' : Array Value) (U : State), s.WarmedH U.vm → w.before a' U = true := fun w hw a' U hW => by
    rw [List.mem_singleton] at hw
    subst hw
    have ho : okw (pg_cw a) = true := by
      unfold isw at k1
      rw [Bool.and_eq_true] at k1
      exact k1.2
    exact okw_use ho (okw_warm ho hW (okw_use ho hcwd))
  have hsig : ∀ sig, parseMethodDescriptor (pg_nm a).desc = some sig → as.length = sig.parameters.length := fun sig hsg => by
    rw [hsg, Option.map_some] at k5
    have := Option.some.inj k5
    rw [this]
    omega
  have hlo0 : 8 + (pg_ml a + 11) + 80 * d' ≤ rm.locals := by omega
  have hfix : CallFix p m cc (pg_by y) (pg_ml y) s args [] (pg_own y) := ⟨hx, hb, hml, hown, fun w hw => nomatch hw⟩
  have hsa2 : sr am K (pR (some L) :: as) (.ref (am L) :: asA) := ⟨⟨rfl, hkL⟩, hsa⟩
  have hc2 : ∀ v ∈ (pR (some L) :: as), isC1 v := fun v hv => by
    rcases List.mem_cons.mp hv with rfl | hv
    · trivial
    · exact hc1 v hv
  have hpre : ∀ U : State, U.heap = H → s.WarmedH U.vm → PcF base D am K I R (pR (some L) :: as) (Value.ref (am L) :: asA).toArray U := fun U hU hW => ⟨sfp_warm hW (by rw [hU]; exact hS.1) (fun q q1 q2 => by rw [hU]; exact hS.2.1 q q1 q2) hsf, by rw [hU]; exact hp_moved hW.alike hh, _, rfl, hsa2⟩
  have ecw : pg_cw a = .code (pg_nm a) (pg_by a) (pg_ml a) (pg_rt a) := by unfold pg_cw; rw [if_pos hhe]
  obtain ⟨tys, Ls, f, hhq⟩ := id hh
  obtain ⟨q0, fs, hq0, -, -, -⟩ := hq_obj hhq hK hcl7
  have hrecv := va_recv hhq.1 hhq.2.1 (vw_at _ hcl7) hq0
  refine z_aft (a := a) (d := d' + 1) h2 hcx hsf hma hdf hdl (by omega) (by omega) hS hl hsr he hn (av := (Value.ref (am L) :: asA).toArray) (st0 := asA.reverse ++ .ref (am L) :: restA) ?_
  exact vx_runV (n := as.length) (C := pg_own a) hfix (snd_met h1 hck (by rw [List.length_cons]; exact hna) hc2 am) ⟨⟨rfl, rfl, hdf, hlo0, hcwU, by rw [ecw]; exact List.mem_cons_self, by rw [← ecw]; exact hcwd, sfp_word hsf k3, k4, hsig, sfp_word hsf hw⟩, sfp_word hsf k2, sfp_word hsf hsel⟩ ⟨blindF, by rw [hoc]; exact hrecv, hpre⟩ rfl hlen2 hlz rfl hcat hd ⟨by omega, by omega⟩

/-- a contract without throws -/
theorem met_of_vx {l : Launch} {y : MethodName} {ws : List Cond} {rm : Room} {Pc : Array Value → State → Prop} {Qc : Array Value → State → Outcome → State → Prop} {XC : String → State → State → Prop} {mc ms : Nat} {free : Addr → Prop} (h : vx_Met l y ws rm Pc Qc XC mc ms free) (hno : ∀ E st t, ¬ XC E st t) : Met l y ws rm Pc Qc mc ms free := by
  intro p e a1 a2 a3 s m args below a4 a5 a6 a7
  obtain ⟨n, o, b1, b2, b3, b4⟩ := h p e a1 a2 a3 s m args below a4 a5 a6 a7
  refine ⟨n, o, b1, b2, b3, ?_⟩
  rcases b4 with b4 | ⟨q, rfl, E, ce, L, hx, -⟩
  · exact b4
  · exact (hno _ _ _ hx).elim
theorem run_of_va {p : Program} {l : Launch} {e : Env} {R : Room} {s : State} {m : MethodId} {args : Array Value} {below : List Frame} {meth : Method} {c : Code} {H : Heap} {locs : List Loc} {cells slots mc ms : Nat} {g : JFrame} {rest : List Value} {Qa : State → Outcome → State → Prop} {XC : String → State → State → Prop} {free : Addr → Prop} (h : va_Run p l e R s m args below meth c H locs cells slots mc ms g rest Qa free) : vx_Run p l e R s m args below meth c H locs cells slots mc ms g rest Qa XC free := fun T hT X => Or.inl (h T hT X)

set_option maxHeartbeats 1000000 in
theorem sd_42 {l : Launch} {base : Nat} {D : va_G} {d b y i : Nat} {ls : List (Option PV)} {st : List PV} {K : KM} {I : IM} {R : RM} {Q : QT} {a c : Nat} {z : Int} (HC : chkB y i 42 a c z (pg_wd y i) = true) (h9 : stC (Snd l base D) 42 a c z d b y i ls st K I R Q) : Snd l base D d b y i ls st K I R Q := by
  intro p e rm s m args below meth cc H locs cells slots lsA stA am am0 K0 hcx hsf hma hdf hdl hcb hsb hh hS hl hs he
  obtain ⟨hx, hb, hr, hml, hown, hlk, hnm, htb⟩ := id hcx
  obtain ⟨L, as, rest, d', b', n, P, rfl, hna, hc1, hrl, hK, rfl, rfl, h1, h2⟩ := (show ∃ L as rest d' b' n P, st = as.reverse ++ pR (some L) :: rest ∧ as.length + 1 = pg_na a ∧ (∀ v ∈ as, isC1 v) ∧ rest.length ≤ 4 ∧ K L = some (pg_cl a, n) ∧ d = d' + 1 ∧ b = b' + pg_cst a ∧ Snd l base D d' (pg_cst a) a 0 (entls a (pR (some L) :: as)) [] K I R P ∧ ∀ r K' I' R', P r K' I' R' → (∃ v, r = .inl v) ∧ aft (Snd l base D) (d' + 1) b' y i ls rest Q r K' I' R' from by
    obtain ⟨L, as, rest, d', b', n, P, e1, e2, e2c, e3, e4, e5, e6, e7, e8⟩ := h9
    exact ⟨L, as, rest, d', b', n, P, e1, e2, e2c, e3, e4, e5, e6, e7, by rw [← e5]; exact e8⟩)
  have HC : (dc y i (.invokespecial z.toNat) 3 && chkC a && !(pg_sta a) && decide (pg_hh a = []) && decide (pg_cl a < 6) && decide (pg_own a = clC (pg_cl a)) && decide ((pg_nm a).name = "<init>") && decide (pg_rt a = none) && ((decide (c = 0) && isw ((pg_wd y i).getD 0 0) (.methodLink (pg_own y) z.toNat (pg_nm a))) || (decide (c = 1) && isw ((pg_wd y i).getD 0 0) (.methodLinkNest (pg_own y) z.toNat (pg_nm a) "KayfabeRing")))) = true := HC
  simp only [Bool.and_eq_true, Bool.or_eq_true, decide_eq_true_eq, Bool.not_eq_true'] at HC
  obtain ⟨⟨⟨⟨⟨⟨⟨⟨h0, hck⟩, hst⟩, hhe⟩, hcl7⟩, hoc⟩, hin⟩, hrt⟩, hw⟩ := HC
  obtain ⟨hd, hn⟩ := dc_at h0
  obtain ⟨k1, k2, k3, k4, k5, k6, k7, k8, k9, k10, k11⟩ := chkC_at hck
  rw [hst, if_neg (by exact Bool.false_ne_true)] at k2 k5
  obtain ⟨asA, c2, rfl, hsa, hs2⟩ := sr_un hs
  obtain ⟨restA, rfl, hkL, hsr⟩ := sr_r hs2
  have hlen2 := sr_len hsa
  have hcat : 2 * (F0 m (pg_pc y i) lsA ([] : List Value)).monitorRoom + (restA.map fun v => v.category).sum ≤ 8 := by
    have := sr_cat hsr
    show 2 * 0 + _ ≤ 8
    omega
  have hlz := hl.2.choose_spec.1.1
  have hcwd : (pg_cw a).before args s = true := sfp_word hsf k1
  have hcwU : ∀ w ∈ [pg_cw a], ∀ (a' : Array Value) (U : State), s.WarmedH U.vm → w.before a' U = true := fun w hw a' U hW => by
    rw [List.mem_singleton] at hw
    subst hw
    have ho : okw (pg_cw a) = true := by
      unfold isw at k1
      rw [Bool.and_eq_true] at k1
      exact k1.2
    exact okw_use ho (okw_warm ho hW (okw_use ho hcwd))
  have hsig : ∀ sig, parseMethodDescriptor (pg_nm a).desc = some sig → as.length = sig.parameters.length := fun sig hsg => by
    rw [hsg, Option.map_some] at k5
    have := Option.some.inj k5
    rw [this]
    omega
  have hlo0 : 8 + (pg_ml a + 11) + 80 * d' ≤ rm.locals := by omega
  have hfix : CallFix p m cc (pg_by y) (pg_ml y) s args [] (pg_own y) := ⟨hx, hb, hml, hown, fun w hw => nomatch hw⟩
  have hsa2 : sr am K (pR (some L) :: as) (.ref (am L) :: asA) := ⟨⟨rfl, hkL⟩, hsa⟩
  have hc2 : ∀ v ∈ (pR (some L) :: as), isC1 v := fun v hv => by
    rcases List.mem_cons.mp hv with rfl | hv
    · trivial
    · exact hc1 v hv
  have hpre : ∀ U : State, U.heap = H → s.WarmedH U.vm → PcF base D am K I R (pR (some L) :: as) (Value.ref (am L) :: asA).toArray U := fun U hU hW => ⟨sfp_warm hW (by rw [hU]; exact hS.1) (fun q q1 q2 => by rw [hU]; exact hS.2.1 q q1 q2) hsf, by rw [hU]; exact hp_moved hW.alike hh, _, rfl, hsa2⟩
  have ecw : pg_cw a = .code (pg_nm a) (pg_by a) (pg_ml a) (pg_rt a) := by unfold pg_cw; rw [if_pos hhe]
  rw [hrt] at ecw
  have hMet := met_of_vx (snd_met h1 hck (by rw [List.length_cons]; exact hna) hc2 am) (fun E st t hx => by
    obtain ⟨e9, K', I', R', am', hP, -⟩ := hx
    obtain ⟨v, hv⟩ := (h2 _ _ _ _ hP).1
    cases hv)
  refine z_aft (a := a) (d := d' + 1) (fun r K' I' R' hP => (h2 r K' I' R' hP).2) hcx hsf hma hdf hdl (by omega) (by omega) hS hl hsr he hn (av := (Value.ref (am L) :: asA).toArray) (st0 := asA.reverse ++ .ref (am L) :: restA) (run_of_va ?_)
  rcases hw with ⟨-, hw⟩ | ⟨-, hw⟩
  · exact va_runI (n := as.length) hfix hMet ⟨⟨rfl, rfl, hdf, hlo0, hcwU, by rw [ecw]; exact List.mem_cons_self, by rw [← ecw]; exact hcwd, sfp_word hsf k3, k4, hsig, sfp_word hsf hw⟩, hin, sfp_word hsf k2⟩ ⟨blindF, hpre⟩ rfl hlen2 hlz rfl hcat hd ⟨by omega, by omega⟩
  · exact va_runIN (n := as.length) (host := "KayfabeRing") hfix hMet ⟨⟨⟨rfl, rfl, hdf, hlo0, hcwU, by rw [ecw]; exact List.mem_cons_self⟩, by rw [← ecw]; exact hcwd, sfp_word hsf k3, k4, hsig, sfp_word hsf hw⟩, hin, sfp_word hsf k2⟩ ⟨blindF, hpre⟩ rfl hlen2 hlz rfl hcat hd ⟨by omega, by omega⟩

set_option maxHeartbeats 1000000 in
theorem sd_44 {l : Launch} {base : Nat} {D : va_G} {d b y i : Nat} {ls : List (Option PV)} {st : List PV} {K : KM} {I : IM} {R : RM} {Q : QT} {a c : Nat} {z : Int} (hlt : l.stackTraces = false) (HC : chkB y i 44 a c z (pg_wd y i) = true) (h9 : stC (Snd l base D) 44 a c z d b y i ls st K I R Q) : Snd l base D d b y i ls st K I R Q := by
  intro p e rm s m args below meth cc H locs cells slots lsA stA am am0 K0 hcx hsf hma hdf hdl hcb hsb hh hS hl hs he
  obtain ⟨hx, hb, hr, hml, hown, hlk, hnm, htb⟩ := id hcx
  obtain ⟨rfl, hhx, hd6, hb7, hQ⟩ := (show st = [] ∧ pg_hx y = [] ∧ 6 ≤ d ∧ 7 ≤ b ∧ Q (.inr a) K I R from h9)
  generalize pg_wd y i = w at HC
  have HC : (decide (pg_own y = RX5) && (decide (a = 1) || decide (a = 2) || decide (a = 3)) && dc0 y i (.new (w.getD 2 0)) 3 && decide (decode (pg_by y) (pg_pc y i + 3) = .ok (.dup, 1)) && decide ((pg_st.getD c ("", 0, "")).1 = RX5) && decide (c < pg_st.length) &&
      ((decide (w.getD 4 0 = 0) && decide (decode (pg_by y) (pg_pc y i + 4) = .ok (.ldc (pg_st.getD c ("", 0, "")).2.1, 2)) && decide (decode (pg_by y) (pg_pc y i + 6) = .ok (.invokespecial (w.getD 3 0), 3)) && decide (decode (pg_by y) (pg_pc y i + 9) = .ok (.athrow, 1))) ||
       (decide (w.getD 4 0 = 1) && decide (decode (pg_by y) (pg_pc y i + 4) = .ok (.ldc_w (pg_st.getD c ("", 0, "")).2.1, 3)) && decide (decode (pg_by y) (pg_pc y i + 7) = .ok (.invokespecial (w.getD 3 0), 3)) && decide (decode (pg_by y) (pg_pc y i + 10) = .ok (.athrow, 1)))) &&
      isw (w.getD 0 0) (.classLink RX5 (w.getD 2 0) (pg_ex a)) && isw (w.getD 1 0) (.initialized (pg_ex a)) && (decide (a = 1 ∧ w.getD 3 0 = 53) || decide (a = 2 ∧ w.getD 3 0 = 64) || decide (a = 3 ∧ w.getD 3 0 = 87))) = true := HC
  simp only [dc0, Bool.and_eq_true, Bool.or_eq_true, decide_eq_true_eq] at HC
  obtain ⟨⟨⟨⟨⟨⟨⟨⟨⟨ho5, ha⟩, d0⟩, d3⟩, hs5⟩, hcl⟩, hds⟩, hw0⟩, hw1⟩, hic⟩ := HC
  obtain rfl := sr_nil hs
  have hlz := hl.2.choose_spec.1.1
  have ha3 : 1 ≤ a ∧ a ≤ 3 := by omega
  rw [ho5] at hown
  have htb0 : cc.exceptionTable.toList = [] := by rw [htb, (hh_of y).1, hhx]; rfl
  have hic2 : w.getD 3 0 = (if a = 1 then 53 else if a = 2 then 64 else 87) := by
    rcases hic with (⟨rfl, q⟩ | ⟨rfl, q⟩) | ⟨rfl, q⟩ <;> simpa using q
  have hmem : a ∈ [1, 2, 3] := by
    rcases ha with (rfl | rfl) | rfl <;> simp
  have hT := List.all_eq_true.mp thW_ok a hmem
  rw [Bool.and_eq_true] at hT
  have hTw : ∀ w ∈ thW a, w ∈ lw_tbl ∧ okw w = true ∧ vx_ot w = true := fun w9 hw9 => by
    have := List.all_eq_true.mp hT.1 w9 hw9
    simp only [Bool.and_eq_true, decide_eq_true_eq] at this
    exact ⟨this.1.1, this.1.2, this.2⟩
  have eT : thW a = vx_atS RX5 (w.getD 3 0) (pg_ex a) thn := by rw [hic2]; rfl
  rw [eT] at hTw
  have hstm : pg_st.getD c ("", 0, "") ∈ pg_st := by
    rw [List.getD_eq_getElem?_getD, List.getElem?_eq_getElem hcl]
    exact List.getElem_mem hcl
  obtain ⟨sa, hsa⟩ := hsf.2.2.1 _ hstm
  rw [hs5] at hsa
  have hgood : ∀ w9 ∈ Cond.classLink RX5 (w.getD 2 0) (pg_ex a) :: Cond.initialized (pg_ex a) :: vx_atS RX5 (w.getD 3 0) (pg_ex a) thn, vx_ot w9 = true := fun w9 hw9 => by
    rcases List.mem_cons.mp hw9 with rfl | hw9
    · rfl
    · rcases List.mem_cons.mp hw9 with rfl | hw9
      · rfl
      · exact (hTw w9 hw9).2.2
  have hat : ∀ w9 ∈ vx_atS RX5 (w.getD 3 0) (pg_ex a) thn, w9.before args s = true := fun w9 hw9 => okw_use (hTw w9 hw9).2.1 (hsf.1 w9 (hTw w9 hw9).1 (hTw w9 hw9).2.1)
  have hXC : ∀ t : State, s.vm.Alike t.vm → H.size ≤ t.heap.size → (∀ q : Nat, q < H.size → t.heap[q]? = H[q]?) → XcF base D am0 K0 Q (pg_ex a) s t := fun t hvm hz hk => ⟨a, K, I, R, am, hQ, ⟨rfl, ha3⟩, hp_grow hk (hp_moved hvm hh), he, Nat.le_trans hS.1 hz, fun q q1 q2 => by rw [hk q (Nat.lt_of_lt_of_le q1 hS.1)]; exact hS.2.1 q q1 q2⟩
  have hnm2 : ∀ n ∈ thn, Bundle.fit n = true := fun n hn => List.all_eq_true.mp thn_ok n hn
  rcases hds with ⟨⟨⟨-, d4⟩, d6⟩, d9⟩ | ⟨⟨⟨-, d4⟩, d6⟩, d9⟩
  · exact vx_throwS hx hb hlt hown hT.2 hnm2 (sfp_word hsf hw0) (sfp_word hsf hw1) hsa hat hgood hsf.2.2.2.2.1 hsf.2.2.2.2.2.1 hS (by rw [hlz, hml]) d0 d3 d4 d6 d9 (fun x hx => by rw [htb0] at hx; cases hx) (by show 2 + 3 < _; omega) (by show 0 + (13 * (2 + 1) + 43) ≤ _; omega) (by omega) (by omega) hlk hXC hS.2.2 (by omega) (by omega)
  · exact vx_throwSW hx hb hlt hown hT.2 hnm2 (sfp_word hsf hw0) (sfp_word hsf hw1) hsa hat hgood hsf.2.2.2.2.1 hsf.2.2.2.2.2.1 hS (by rw [hlz, hml]) d0 d3 d4 d6 d9 (fun x hx => by rw [htb0] at hx; cases hx) (by show 2 + 3 < _; omega) (by show 0 + (13 * (2 + 1) + 43) ≤ _; omega) (by omega) (by omega) hlk hXC hS.2.2 (by omega) (by omega)
end
section
/-! the soundness of the pure machine -/
set_option maxHeartbeats 4000000 in
theorem snd_step {l : Launch} (hlt : l.stackTraces = false) {base : Nat} {D : va_G} (HC : ∀ y i r, pg_at y i = some r → pg_own y ≠ "java/lang/Math" → chk y i = true) {d b y i : Nat} {ls : List (Option PV)} {st : List PV} {K : KM} {I : IM} {R : RM} {Q : QT} (h : Mst (Snd l base D) d b y i ls st K I R Q) : Snd l base D d b y i ls st K I R Q := by
  intro p e rm s m args below meth cc H locs cells slots lsA stK am am0 K0 hcx hsf hma hdf hdl hcb hsb hh hS hl hs he
  obtain ⟨op, a, c, z, hi, h⟩ := h
  have HK := chk_at hi (HC y i _ hi hma)
  rcases h with h | h | h
  · unfold stA at h
    split at h
    · exact sd_0 HK h p e rm s m args below meth cc H locs cells slots lsA stK am am0 K0 hcx hsf hma hdf hdl hcb hsb hh hS hl hs he
    · exact sd_1 HK h p e rm s m args below meth cc H locs cells slots lsA stK am am0 K0 hcx hsf hma hdf hdl hcb hsb hh hS hl hs he
    · exact sd_2 HK h p e rm s m args below meth cc H locs cells slots lsA stK am am0 K0 hcx hsf hma hdf hdl hcb hsb hh hS hl hs he
    · exact sd_3 HK h p e rm s m args below meth cc H locs cells slots lsA stK am am0 K0 hcx hsf hma hdf hdl hcb hsb hh hS hl hs he
    · exact sd_4 HK h p e rm s m args below meth cc H locs cells slots lsA stK am am0 K0 hcx hsf hma hdf hdl hcb hsb hh hS hl hs he
    · exact sd_5 HK h p e rm s m args below meth cc H locs cells slots lsA stK am am0 K0 hcx hsf hma hdf hdl hcb hsb hh hS hl hs he
    · exact sd_6 HK h p e rm s m args below meth cc H locs cells slots lsA stK am am0 K0 hcx hsf hma hdf hdl hcb hsb hh hS hl hs he
    · exact sd_7 HK h p e rm s m args below meth cc H locs cells slots lsA stK am am0 K0 hcx hsf hma hdf hdl hcb hsb hh hS hl hs he
    · exact sd_8 HK h p e rm s m args below meth cc H locs cells slots lsA stK am am0 K0 hcx hsf hma hdf hdl hcb hsb hh hS hl hs he
    · exact sd_9 HK h p e rm s m args below meth cc H locs cells slots lsA stK am am0 K0 hcx hsf hma hdf hdl hcb hsb hh hS hl hs he
    · exact sd_10 HK h p e rm s m args below meth cc H locs cells slots lsA stK am am0 K0 hcx hsf hma hdf hdl hcb hsb hh hS hl hs he
    · exact sd_11 HK h p e rm s m args below meth cc H locs cells slots lsA stK am am0 K0 hcx hsf hma hdf hdl hcb hsb hh hS hl hs he
    · exact sd_12 HK h p e rm s m args below meth cc H locs cells slots lsA stK am am0 K0 hcx hsf hma hdf hdl hcb hsb hh hS hl hs he
    · exact sd_13 HK h p e rm s m args below meth cc H locs cells slots lsA stK am am0 K0 hcx hsf hma hdf hdl hcb hsb hh hS hl hs he
    · exact sd_14 HK h p e rm s m args below meth cc H locs cells slots lsA stK am am0 K0 hcx hsf hma hdf hdl hcb hsb hh hS hl hs he
    · exact sd_15 HK h p e rm s m args below meth cc H locs cells slots lsA stK am am0 K0 hcx hsf hma hdf hdl hcb hsb hh hS hl hs he
    · exact sd_16 HK h p e rm s m args below meth cc H locs cells slots lsA stK am am0 K0 hcx hsf hma hdf hdl hcb hsb hh hS hl hs he
    · exact sd_17 HK h p e rm s m args below meth cc H locs cells slots lsA stK am am0 K0 hcx hsf hma hdf hdl hcb hsb hh hS hl hs he
    · exact sd_18 HK h p e rm s m args below meth cc H locs cells slots lsA stK am am0 K0 hcx hsf hma hdf hdl hcb hsb hh hS hl hs he
    · exact sd_19 HK h p e rm s m args below meth cc H locs cells slots lsA stK am am0 K0 hcx hsf hma hdf hdl hcb hsb hh hS hl hs he
    · exact sd_20 HK h p e rm s m args below meth cc H locs cells slots lsA stK am am0 K0 hcx hsf hma hdf hdl hcb hsb hh hS hl hs he
    · exact sd_21 HK h p e rm s m args below meth cc H locs cells slots lsA stK am am0 K0 hcx hsf hma hdf hdl hcb hsb hh hS hl hs he
    · exact sd_22 HK h p e rm s m args below meth cc H locs cells slots lsA stK am am0 K0 hcx hsf hma hdf hdl hcb hsb hh hS hl hs he
    · exact sd_23 HK h p e rm s m args below meth cc H locs cells slots lsA stK am am0 K0 hcx hsf hma hdf hdl hcb hsb hh hS hl hs he
    · exact sd_54 HK h p e rm s m args below meth cc H locs cells slots lsA stK am am0 K0 hcx hsf hma hdf hdl hcb hsb hh hS hl hs he
    · exact sd_55 HK h p e rm s m args below meth cc H locs cells slots lsA stK am am0 K0 hcx hsf hma hdf hdl hcb hsb hh hS hl hs he
    · exact sd_56 HK h p e rm s m args below meth cc H locs cells slots lsA stK am am0 K0 hcx hsf hma hdf hdl hcb hsb hh hS hl hs he
    · exact sd_57 HK h p e rm s m args below meth cc H locs cells slots lsA stK am am0 K0 hcx hsf hma hdf hdl hcb hsb hh hS hl hs he
    · exact h.elim
  · unfold stB at h
    split at h
    · exact sd_24 HK h p e rm s m args below meth cc H locs cells slots lsA stK am am0 K0 hcx hsf hma hdf hdl hcb hsb hh hS hl hs he
    · exact sd_25 HK h p e rm s m args below meth cc H locs cells slots lsA stK am am0 K0 hcx hsf hma hdf hdl hcb hsb hh hS hl hs he
    · exact sd_26 HK h p e rm s m args below meth cc H locs cells slots lsA stK am am0 K0 hcx hsf hma hdf hdl hcb hsb hh hS hl hs he
    · exact sd_27 HK h p e rm s m args below meth cc H locs cells slots lsA stK am am0 K0 hcx hsf hma hdf hdl hcb hsb hh hS hl hs he
    · exact sd_28 HK h p e rm s m args below meth cc H locs cells slots lsA stK am am0 K0 hcx hsf hma hdf hdl hcb hsb hh hS hl hs he
    · exact sd_29 HK h p e rm s m args below meth cc H locs cells slots lsA stK am am0 K0 hcx hsf hma hdf hdl hcb hsb hh hS hl hs he
    · exact sd_30 HK h p e rm s m args below meth cc H locs cells slots lsA stK am am0 K0 hcx hsf hma hdf hdl hcb hsb hh hS hl hs he
    · exact sd_31 HK h p e rm s m args below meth cc H locs cells slots lsA stK am am0 K0 hcx hsf hma hdf hdl hcb hsb hh hS hl hs he
    · exact sd_32 HK h p e rm s m args below meth cc H locs cells slots lsA stK am am0 K0 hcx hsf hma hdf hdl hcb hsb hh hS hl hs he
    · exact sd_33 HK h p e rm s m args below meth cc H locs cells slots lsA stK am am0 K0 hcx hsf hma hdf hdl hcb hsb hh hS hl hs he
    · exact sd_34 HK h p e rm s m args below meth cc H locs cells slots lsA stK am am0 K0 hcx hsf hma hdf hdl hcb hsb hh hS hl hs he
    · exact sd_35 HK h p e rm s m args below meth cc H locs cells slots lsA stK am am0 K0 hcx hsf hma hdf hdl hcb hsb hh hS hl hs he
    · exact sd_36 HK h p e rm s m args below meth cc H locs cells slots lsA stK am am0 K0 hcx hsf hma hdf hdl hcb hsb hh hS hl hs he
    · exact sd_48 HK h p e rm s m args below meth cc H locs cells slots lsA stK am am0 K0 hcx hsf hma hdf hdl hcb hsb hh hS hl hs he
    · exact sd_50 HK h p e rm s m args below meth cc H locs cells slots lsA stK am am0 K0 hcx hsf hma hdf hdl hcb hsb hh hS hl hs he
    · exact h.elim
  · unfold stC at h
    split at h
    · exact sd_37 HK h p e rm s m args below meth cc H locs cells slots lsA stK am am0 K0 hcx hsf hma hdf hdl hcb hsb hh hS hl hs he
    · exact sd_38 HK h p e rm s m args below meth cc H locs cells slots lsA stK am am0 K0 hcx hsf hma hdf hdl hcb hsb hh hS hl hs he
    · exact sd_39 HK h p e rm s m args below meth cc H locs cells slots lsA stK am am0 K0 hcx hsf hma hdf hdl hcb hsb hh hS hl hs he
    · exact sd_40 HK h p e rm s m args below meth cc H locs cells slots lsA stK am am0 K0 hcx hsf hma hdf hdl hcb hsb hh hS hl hs he
    · exact sd_41 HK h p e rm s m args below meth cc H locs cells slots lsA stK am am0 K0 hcx hsf hma hdf hdl hcb hsb hh hS hl hs he
    · exact sd_42 HK h p e rm s m args below meth cc H locs cells slots lsA stK am am0 K0 hcx hsf hma hdf hdl hcb hsb hh hS hl hs he
    · exact sd_43 HK h p e rm s m args below meth cc H locs cells slots lsA stK am am0 K0 hcx hsf hma hdf hdl hcb hsb hh hS hl hs he
    · exact sd_44 hlt HK h p e rm s m args below meth cc H locs cells slots lsA stK am am0 K0 hcx hsf hma hdf hdl hcb hsb hh hS hl hs he
    · exact sd_45 HK h p e rm s m args below meth cc H locs cells slots lsA stK am am0 K0 hcx hsf hma hdf hdl hcb hsb hh hS hl hs he
    · exact sd_46 HK h p e rm s m args below meth cc H locs cells slots lsA stK am am0 K0 hcx hsf hma hdf hdl hcb hsb hh hS hl hs he
    · exact sd_47 HK h p e rm s m args below meth cc H locs cells slots lsA stK am am0 K0 hcx hsf hma hdf hdl hcb hsb hh hS hl hs he
    · exact sd_51 HK h p e rm s m args below meth cc H locs cells slots lsA stK am am0 K0 hcx hsf hma hdf hdl hcb hsb hh hS hl hs he
    · exact sd_52 HK h p e rm s m args below meth cc H locs cells slots lsA stK am am0 K0 hcx hsf hma hdf hdl hcb hsb hh hS hl hs he
    · exact sd_53 HK h p e rm s m args below meth cc H locs cells slots lsA stK am am0 K0 hcx hsf hma hdf hdl hcb hsb hh hS hl hs he
    · exact h.elim
theorem snd_all {l : Launch} (hlt : l.stackTraces = false) {base : Nat} {D : va_G} (HC : ∀ y i r, pg_at y i = some r → pg_own y ≠ "java/lang/Math" → chk y i = true) {d b y i : Nat} {ls : List (Option PV)} {st : List PV} {K : KM} {I : IM} {R : RM} {Q : QT} (h : Mw d b y i ls st K I R Q) : Snd l base D d b y i ls st K I R Q :=
  h (Snd l base D) (fun _ _ _ _ _ _ _ _ _ _ q => snd_step hlt HC q)
end
section
/-- a stretch of a method is checked -/
def chkR (y lo n : Nat) : Bool := (List.range n).all (fun i => chk y (lo + i))
theorem chkR_at {y lo n i : Nat} (h : chkR y lo n = true) (h1 : lo ≤ i) (h2 : i < lo + n) : chk y i = true := by
  unfold chkR at h
  rw [List.all_eq_true] at h
  have := h (i - lo) (List.mem_range.mpr (by omega))
  rwa [show lo + (i - lo) = i by omega] at this
set_option maxRecDepth 100000 in
theorem ck_0_0 : chkR 0 0 21 = true := by decide +kernel
theorem ck_0 : ∀ i, i < 21 → chk 0 i = true := by
  intro i hi
  exact chkR_at ck_0_0 (by omega) (by omega)
set_option maxRecDepth 100000 in
theorem ck_1_0 : chkR 1 0 10 = true := by decide +kernel
theorem ck_1 : ∀ i, i < 10 → chk 1 i = true := by
  intro i hi
  exact chkR_at ck_1_0 (by omega) (by omega)
set_option maxRecDepth 100000 in
theorem ck_2_0 : chkR 2 0 24 = true := by decide +kernel
set_option maxRecDepth 100000 in
theorem ck_2_24 : chkR 2 24 2 = true := by decide +kernel
theorem ck_2 : ∀ i, i < 26 → chk 2 i = true := by
  intro i hi
  by_cases h0 : i < 24
  · exact chkR_at ck_2_0 (by omega) (by omega)
  exact chkR_at ck_2_24 (by omega) (by omega)
set_option maxRecDepth 100000 in
theorem ck_3_0 : chkR 3 0 24 = true := by decide +kernel
set_option maxRecDepth 100000 in
theorem ck_3_24 : chkR 3 24 2 = true := by decide +kernel
theorem ck_3 : ∀ i, i < 26 → chk 3 i = true := by
  intro i hi
  by_cases h0 : i < 24
  · exact chkR_at ck_3_0 (by omega) (by omega)
  exact chkR_at ck_3_24 (by omega) (by omega)
set_option maxRecDepth 100000 in
theorem ck_4_0 : chkR 4 0 22 = true := by decide +kernel
theorem ck_4 : ∀ i, i < 22 → chk 4 i = true := by
  intro i hi
  exact chkR_at ck_4_0 (by omega) (by omega)
set_option maxRecDepth 100000 in
theorem ck_5_0 : chkR 5 0 20 = true := by decide +kernel
theorem ck_5 : ∀ i, i < 20 → chk 5 i = true := by
  intro i hi
  exact chkR_at ck_5_0 (by omega) (by omega)
set_option maxRecDepth 100000 in
theorem ck_6_0 : chkR 6 0 24 = true := by decide +kernel
set_option maxRecDepth 100000 in
theorem ck_6_24 : chkR 6 24 5 = true := by decide +kernel
theorem ck_6 : ∀ i, i < 29 → chk 6 i = true := by
  intro i hi
  by_cases h0 : i < 24
  · exact chkR_at ck_6_0 (by omega) (by omega)
  exact chkR_at ck_6_24 (by omega) (by omega)
set_option maxRecDepth 100000 in
theorem ck_7_0 : chkR 7 0 24 = true := by decide +kernel
set_option maxRecDepth 100000 in
theorem ck_7_24 : chkR 7 24 16 = true := by decide +kernel
theorem ck_7 : ∀ i, i < 40 → chk 7 i = true := by
  intro i hi
  by_cases h0 : i < 24
  · exact chkR_at ck_7_0 (by omega) (by omega)
  exact chkR_at ck_7_24 (by omega) (by omega)
set_option maxRecDepth 100000 in
theorem ck_8_0 : chkR 8 0 3 = true := by decide +kernel
theorem ck_8 : ∀ i, i < 3 → chk 8 i = true := by
  intro i hi
  exact chkR_at ck_8_0 (by omega) (by omega)
set_option maxRecDepth 100000 in
theorem ck_9_0 : chkR 9 0 19 = true := by decide +kernel
theorem ck_9 : ∀ i, i < 19 → chk 9 i = true := by
  intro i hi
  exact chkR_at ck_9_0 (by omega) (by omega)
set_option maxRecDepth 100000 in
theorem ck_10_0 : chkR 10 0 9 = true := by decide +kernel
theorem ck_10 : ∀ i, i < 9 → chk 10 i = true := by
  intro i hi
  exact chkR_at ck_10_0 (by omega) (by omega)
set_option maxRecDepth 100000 in
theorem ck_11_0 : chkR 11 0 9 = true := by decide +kernel
theorem ck_11 : ∀ i, i < 9 → chk 11 i = true := by
  intro i hi
  exact chkR_at ck_11_0 (by omega) (by omega)
set_option maxRecDepth 100000 in
theorem ck_12_0 : chkR 12 0 24 = true := by decide +kernel
set_option maxRecDepth 100000 in
theorem ck_12_24 : chkR 12 24 20 = true := by decide +kernel
theorem ck_12 : ∀ i, i < 44 → chk 12 i = true := by
  intro i hi
  by_cases h0 : i < 24
  · exact chkR_at ck_12_0 (by omega) (by omega)
  exact chkR_at ck_12_24 (by omega) (by omega)
set_option maxRecDepth 100000 in
theorem ck_13_0 : chkR 13 0 24 = true := by decide +kernel
set_option maxRecDepth 100000 in
theorem ck_13_24 : chkR 13 24 24 = true := by decide +kernel
set_option maxRecDepth 100000 in
theorem ck_13_48 : chkR 13 48 24 = true := by decide +kernel
set_option maxRecDepth 100000 in
theorem ck_13_72 : chkR 13 72 24 = true := by decide +kernel
set_option maxRecDepth 100000 in
theorem ck_13_96 : chkR 13 96 4 = true := by decide +kernel
theorem ck_13 : ∀ i, i < 100 → chk 13 i = true := by
  intro i hi
  by_cases h0 : i < 24
  · exact chkR_at ck_13_0 (by omega) (by omega)
  by_cases h24 : i < 48
  · exact chkR_at ck_13_24 (by omega) (by omega)
  by_cases h48 : i < 72
  · exact chkR_at ck_13_48 (by omega) (by omega)
  by_cases h72 : i < 96
  · exact chkR_at ck_13_72 (by omega) (by omega)
  exact chkR_at ck_13_96 (by omega) (by omega)
set_option maxRecDepth 100000 in
theorem ck_14_0 : chkR 14 0 24 = true := by decide +kernel
set_option maxRecDepth 100000 in
theorem ck_14_24 : chkR 14 24 21 = true := by decide +kernel
theorem ck_14 : ∀ i, i < 45 → chk 14 i = true := by
  intro i hi
  by_cases h0 : i < 24
  · exact chkR_at ck_14_0 (by omega) (by omega)
  exact chkR_at ck_14_24 (by omega) (by omega)
set_option maxRecDepth 100000 in
theorem ck_15_0 : chkR 15 0 10 = true := by decide +kernel
theorem ck_15 : ∀ i, i < 10 → chk 15 i = true := by
  intro i hi
  exact chkR_at ck_15_0 (by omega) (by omega)
set_option maxRecDepth 100000 in
theorem ck_16_0 : chkR 16 0 24 = true := by decide +kernel
set_option maxRecDepth 100000 in
theorem ck_16_24 : chkR 16 24 24 = true := by decide +kernel
set_option maxRecDepth 100000 in
theorem ck_16_48 : chkR 16 48 24 = true := by decide +kernel
set_option maxRecDepth 100000 in
theorem ck_16_72 : chkR 16 72 24 = true := by decide +kernel
set_option maxRecDepth 100000 in
theorem ck_16_96 : chkR 16 96 17 = true := by decide +kernel
theorem ck_16 : ∀ i, i < 113 → chk 16 i = true := by
  intro i hi
  by_cases h0 : i < 24
  · exact chkR_at ck_16_0 (by omega) (by omega)
  by_cases h24 : i < 48
  · exact chkR_at ck_16_24 (by omega) (by omega)
  by_cases h48 : i < 72
  · exact chkR_at ck_16_48 (by omega) (by omega)
  by_cases h72 : i < 96
  · exact chkR_at ck_16_72 (by omega) (by omega)
  exact chkR_at ck_16_96 (by omega) (by omega)
set_option maxRecDepth 100000 in
theorem ck_17_0 : chkR 17 0 24 = true := by decide +kernel
set_option maxRecDepth 100000 in
theorem ck_17_24 : chkR 17 24 7 = true := by decide +kernel
theorem ck_17 : ∀ i, i < 31 → chk 17 i = true := by
  intro i hi
  by_cases h0 : i < 24
  · exact chkR_at ck_17_0 (by omega) (by omega)
  exact chkR_at ck_17_24 (by omega) (by omega)
set_option maxRecDepth 100000 in
theorem ck_18_0 : chkR 18 0 24 = true := by decide +kernel
set_option maxRecDepth 100000 in
theorem ck_18_24 : chkR 18 24 24 = true := by decide +kernel
set_option maxRecDepth 100000 in
theorem ck_18_48 : chkR 18 48 2 = true := by decide +kernel
theorem ck_18 : ∀ i, i < 50 → chk 18 i = true := by
  intro i hi
  by_cases h0 : i < 24
  · exact chkR_at ck_18_0 (by omega) (by omega)
  by_cases h24 : i < 48
  · exact chkR_at ck_18_24 (by omega) (by omega)
  exact chkR_at ck_18_48 (by omega) (by omega)
set_option maxRecDepth 100000 in
theorem ck_19_0 : chkR 19 0 24 = true := by decide +kernel
set_option maxRecDepth 100000 in
theorem ck_19_24 : chkR 19 24 24 = true := by decide +kernel
set_option maxRecDepth 100000 in
theorem ck_19_48 : chkR 19 48 24 = true := by decide +kernel
set_option maxRecDepth 100000 in
theorem ck_19_72 : chkR 19 72 7 = true := by decide +kernel
theorem ck_19 : ∀ i, i < 79 → chk 19 i = true := by
  intro i hi
  by_cases h0 : i < 24
  · exact chkR_at ck_19_0 (by omega) (by omega)
  by_cases h24 : i < 48
  · exact chkR_at ck_19_24 (by omega) (by omega)
  by_cases h48 : i < 72
  · exact chkR_at ck_19_48 (by omega) (by omega)
  exact chkR_at ck_19_72 (by omega) (by omega)
set_option maxRecDepth 100000 in
theorem ck_20_0 : chkR 20 0 24 = true := by decide +kernel
set_option maxRecDepth 100000 in
theorem ck_20_24 : chkR 20 24 3 = true := by decide +kernel
theorem ck_20 : ∀ i, i < 27 → chk 20 i = true := by
  intro i hi
  by_cases h0 : i < 24
  · exact chkR_at ck_20_0 (by omega) (by omega)
  exact chkR_at ck_20_24 (by omega) (by omega)
set_option maxRecDepth 100000 in
theorem ck_21_0 : chkR 21 0 24 = true := by decide +kernel
set_option maxRecDepth 100000 in
theorem ck_21_24 : chkR 21 24 11 = true := by decide +kernel
theorem ck_21 : ∀ i, i < 35 → chk 21 i = true := by
  intro i hi
  by_cases h0 : i < 24
  · exact chkR_at ck_21_0 (by omega) (by omega)
  exact chkR_at ck_21_24 (by omega) (by omega)
set_option maxRecDepth 100000 in
theorem ck_22_0 : chkR 22 0 24 = true := by decide +kernel
set_option maxRecDepth 100000 in
theorem ck_22_24 : chkR 22 24 24 = true := by decide +kernel
set_option maxRecDepth 100000 in
theorem ck_22_48 : chkR 22 48 23 = true := by decide +kernel
theorem ck_22 : ∀ i, i < 71 → chk 22 i = true := by
  intro i hi
  by_cases h0 : i < 24
  · exact chkR_at ck_22_0 (by omega) (by omega)
  by_cases h24 : i < 48
  · exact chkR_at ck_22_24 (by omega) (by omega)
  exact chkR_at ck_22_48 (by omega) (by omega)
set_option maxRecDepth 100000 in
theorem ck_23_0 : chkR 23 0 24 = true := by decide +kernel
set_option maxRecDepth 100000 in
theorem ck_23_24 : chkR 23 24 24 = true := by decide +kernel
set_option maxRecDepth 100000 in
theorem ck_23_48 : chkR 23 48 24 = true := by decide +kernel
set_option maxRecDepth 100000 in
theorem ck_23_72 : chkR 23 72 5 = true := by decide +kernel
theorem ck_23 : ∀ i, i < 77 → chk 23 i = true := by
  intro i hi
  by_cases h0 : i < 24
  · exact chkR_at ck_23_0 (by omega) (by omega)
  by_cases h24 : i < 48
  · exact chkR_at ck_23_24 (by omega) (by omega)
  by_cases h48 : i < 72
  · exact chkR_at ck_23_48 (by omega) (by omega)
  exact chkR_at ck_23_72 (by omega) (by omega)
set_option maxRecDepth 100000 in
theorem ck_24_0 : chkR 24 0 14 = true := by decide +kernel
theorem ck_24 : ∀ i, i < 14 → chk 24 i = true := by
  intro i hi
  exact chkR_at ck_24_0 (by omega) (by omega)
set_option maxRecDepth 100000 in
theorem ck_25_0 : chkR 25 0 24 = true := by decide +kernel
set_option maxRecDepth 100000 in
theorem ck_25_24 : chkR 25 24 2 = true := by decide +kernel
theorem ck_25 : ∀ i, i < 26 → chk 25 i = true := by
  intro i hi
  by_cases h0 : i < 24
  · exact chkR_at ck_25_0 (by omega) (by omega)
  exact chkR_at ck_25_24 (by omega) (by omega)
set_option maxRecDepth 100000 in
theorem ck_26_0 : chkR 26 0 22 = true := by decide +kernel
theorem ck_26 : ∀ i, i < 22 → chk 26 i = true := by
  intro i hi
  exact chkR_at ck_26_0 (by omega) (by omega)
set_option maxRecDepth 100000 in
theorem ck_27_0 : chkR 27 0 8 = true := by decide +kernel
theorem ck_27 : ∀ i, i < 8 → chk 27 i = true := by
  intro i hi
  exact chkR_at ck_27_0 (by omega) (by omega)
set_option maxRecDepth 100000 in
theorem ck_28_0 : chkR 28 0 14 = true := by decide +kernel
theorem ck_28 : ∀ i, i < 14 → chk 28 i = true := by
  intro i hi
  exact chkR_at ck_28_0 (by omega) (by omega)
set_option maxRecDepth 100000 in
theorem ck_29_0 : chkR 29 0 16 = true := by decide +kernel
theorem ck_29 : ∀ i, i < 16 → chk 29 i = true := by
  intro i hi
  exact chkR_at ck_29_0 (by omega) (by omega)
set_option maxRecDepth 100000 in
theorem ck_30_0 : chkR 30 0 15 = true := by decide +kernel
theorem ck_30 : ∀ i, i < 15 → chk 30 i = true := by
  intro i hi
  exact chkR_at ck_30_0 (by omega) (by omega)
set_option maxRecDepth 100000 in
theorem ck_31_0 : chkR 31 0 24 = true := by decide +kernel
set_option maxRecDepth 100000 in
theorem ck_31_24 : chkR 31 24 22 = true := by decide +kernel
theorem ck_31 : ∀ i, i < 46 → chk 31 i = true := by
  intro i hi
  by_cases h0 : i < 24
  · exact chkR_at ck_31_0 (by omega) (by omega)
  exact chkR_at ck_31_24 (by omega) (by omega)
set_option maxRecDepth 100000 in
theorem ck_32_0 : chkR 32 0 24 = true := by decide +kernel
set_option maxRecDepth 100000 in
theorem ck_32_24 : chkR 32 24 24 = true := by decide +kernel
set_option maxRecDepth 100000 in
theorem ck_32_48 : chkR 32 48 9 = true := by decide +kernel
theorem ck_32 : ∀ i, i < 57 → chk 32 i = true := by
  intro i hi
  by_cases h0 : i < 24
  · exact chkR_at ck_32_0 (by omega) (by omega)
  by_cases h24 : i < 48
  · exact chkR_at ck_32_24 (by omega) (by omega)
  exact chkR_at ck_32_48 (by omega) (by omega)
set_option maxRecDepth 100000 in
theorem ck_33_0 : chkR 33 0 24 = true := by decide +kernel
set_option maxRecDepth 100000 in
theorem ck_33_24 : chkR 33 24 24 = true := by decide +kernel
set_option maxRecDepth 100000 in
theorem ck_33_48 : chkR 33 48 7 = true := by decide +kernel
theorem ck_33 : ∀ i, i < 55 → chk 33 i = true := by
  intro i hi
  by_cases h0 : i < 24
  · exact chkR_at ck_33_0 (by omega) (by omega)
  by_cases h24 : i < 48
  · exact chkR_at ck_33_24 (by omega) (by omega)
  exact chkR_at ck_33_48 (by omega) (by omega)
set_option maxRecDepth 100000 in
theorem ck_34_0 : chkR 34 0 20 = true := by decide +kernel
theorem ck_34 : ∀ i, i < 20 → chk 34 i = true := by
  intro i hi
  exact chkR_at ck_34_0 (by omega) (by omega)
set_option maxRecDepth 100000 in
theorem ck_35_0 : chkR 35 0 24 = true := by decide +kernel
set_option maxRecDepth 100000 in
theorem ck_35_24 : chkR 35 24 18 = true := by decide +kernel
theorem ck_35 : ∀ i, i < 42 → chk 35 i = true := by
  intro i hi
  by_cases h0 : i < 24
  · exact chkR_at ck_35_0 (by omega) (by omega)
  exact chkR_at ck_35_24 (by omega) (by omega)
set_option maxRecDepth 100000 in
theorem ck_36_0 : chkR 36 0 24 = true := by decide +kernel
set_option maxRecDepth 100000 in
theorem ck_36_24 : chkR 36 24 9 = true := by decide +kernel
theorem ck_36 : ∀ i, i < 33 → chk 36 i = true := by
  intro i hi
  by_cases h0 : i < 24
  · exact chkR_at ck_36_0 (by omega) (by omega)
  exact chkR_at ck_36_24 (by omega) (by omega)
set_option maxRecDepth 100000 in
theorem ck_37_0 : chkR 37 0 24 = true := by decide +kernel
set_option maxRecDepth 100000 in
theorem ck_37_24 : chkR 37 24 24 = true := by decide +kernel
set_option maxRecDepth 100000 in
theorem ck_37_48 : chkR 37 48 24 = true := by decide +kernel
set_option maxRecDepth 100000 in
theorem ck_37_72 : chkR 37 72 24 = true := by decide +kernel
set_option maxRecDepth 100000 in
theorem ck_37_96 : chkR 37 96 24 = true := by decide +kernel
set_option maxRecDepth 100000 in
theorem ck_37_120 : chkR 37 120 24 = true := by decide +kernel
theorem ck_37 : ∀ i, i < 144 → chk 37 i = true := by
  intro i hi
  by_cases h0 : i < 24
  · exact chkR_at ck_37_0 (by omega) (by omega)
  by_cases h24 : i < 48
  · exact chkR_at ck_37_24 (by omega) (by omega)
  by_cases h48 : i < 72
  · exact chkR_at ck_37_48 (by omega) (by omega)
  by_cases h72 : i < 96
  · exact chkR_at ck_37_72 (by omega) (by omega)
  by_cases h96 : i < 120
  · exact chkR_at ck_37_96 (by omega) (by omega)
  exact chkR_at ck_37_120 (by omega) (by omega)
set_option maxRecDepth 100000 in
theorem ck_38_0 : chkR 38 0 24 = true := by decide +kernel
set_option maxRecDepth 100000 in
theorem ck_38_24 : chkR 38 24 3 = true := by decide +kernel
theorem ck_38 : ∀ i, i < 27 → chk 38 i = true := by
  intro i hi
  by_cases h0 : i < 24
  · exact chkR_at ck_38_0 (by omega) (by omega)
  exact chkR_at ck_38_24 (by omega) (by omega)
set_option maxRecDepth 100000 in
theorem ck_39_0 : chkR 39 0 24 = true := by decide +kernel
set_option maxRecDepth 100000 in
theorem ck_39_24 : chkR 39 24 12 = true := by decide +kernel
theorem ck_39 : ∀ i, i < 36 → chk 39 i = true := by
  intro i hi
  by_cases h0 : i < 24
  · exact chkR_at ck_39_0 (by omega) (by omega)
  exact chkR_at ck_39_24 (by omega) (by omega)
set_option maxRecDepth 100000 in
theorem ck_40_0 : chkR 40 0 24 = true := by decide +kernel
set_option maxRecDepth 100000 in
theorem ck_40_24 : chkR 40 24 3 = true := by decide +kernel
theorem ck_40 : ∀ i, i < 27 → chk 40 i = true := by
  intro i hi
  by_cases h0 : i < 24
  · exact chkR_at ck_40_0 (by omega) (by omega)
  exact chkR_at ck_40_24 (by omega) (by omega)
set_option maxRecDepth 100000 in
theorem ck_41_0 : chkR 41 0 24 = true := by decide +kernel
set_option maxRecDepth 100000 in
theorem ck_41_24 : chkR 41 24 22 = true := by decide +kernel
theorem ck_41 : ∀ i, i < 46 → chk 41 i = true := by
  intro i hi
  by_cases h0 : i < 24
  · exact chkR_at ck_41_0 (by omega) (by omega)
  exact chkR_at ck_41_24 (by omega) (by omega)
set_option maxRecDepth 100000 in
theorem ck_42_0 : chkR 42 0 9 = true := by decide +kernel
theorem ck_42 : ∀ i, i < 9 → chk 42 i = true := by
  intro i hi
  exact chkR_at ck_42_0 (by omega) (by omega)
set_option maxRecDepth 100000 in
theorem ck_43_0 : chkR 43 0 24 = true := by decide +kernel
set_option maxRecDepth 100000 in
theorem ck_43_24 : chkR 43 24 22 = true := by decide +kernel
theorem ck_43 : ∀ i, i < 46 → chk 43 i = true := by
  intro i hi
  by_cases h0 : i < 24
  · exact chkR_at ck_43_0 (by omega) (by omega)
  exact chkR_at ck_43_24 (by omega) (by omega)
set_option maxRecDepth 100000 in
theorem ck_44_0 : chkR 44 0 24 = true := by decide +kernel
set_option maxRecDepth 100000 in
theorem ck_44_24 : chkR 44 24 24 = true := by decide +kernel
set_option maxRecDepth 100000 in
theorem ck_44_48 : chkR 44 48 24 = true := by decide +kernel
theorem ck_44 : ∀ i, i < 72 → chk 44 i = true := by
  intro i hi
  by_cases h0 : i < 24
  · exact chkR_at ck_44_0 (by omega) (by omega)
  by_cases h24 : i < 48
  · exact chkR_at ck_44_24 (by omega) (by omega)
  exact chkR_at ck_44_48 (by omega) (by omega)
set_option maxRecDepth 100000 in
theorem ck_45_0 : chkR 45 0 24 = true := by decide +kernel
set_option maxRecDepth 100000 in
theorem ck_45_24 : chkR 45 24 24 = true := by decide +kernel
set_option maxRecDepth 100000 in
theorem ck_45_48 : chkR 45 48 3 = true := by decide +kernel
theorem ck_45 : ∀ i, i < 51 → chk 45 i = true := by
  intro i hi
  by_cases h0 : i < 24
  · exact chkR_at ck_45_0 (by omega) (by omega)
  by_cases h24 : i < 48
  · exact chkR_at ck_45_24 (by omega) (by omega)
  exact chkR_at ck_45_48 (by omega) (by omega)
set_option maxRecDepth 100000 in
theorem ck_46_0 : chkR 46 0 3 = true := by decide +kernel
theorem ck_46 : ∀ i, i < 3 → chk 46 i = true := by
  intro i hi
  exact chkR_at ck_46_0 (by omega) (by omega)
set_option maxRecDepth 100000 in
theorem ck_47_0 : chkR 47 0 24 = true := by decide +kernel
set_option maxRecDepth 100000 in
theorem ck_47_24 : chkR 47 24 24 = true := by decide +kernel
set_option maxRecDepth 100000 in
theorem ck_47_48 : chkR 47 48 1 = true := by decide +kernel
theorem ck_47 : ∀ i, i < 49 → chk 47 i = true := by
  intro i hi
  by_cases h0 : i < 24
  · exact chkR_at ck_47_0 (by omega) (by omega)
  by_cases h24 : i < 48
  · exact chkR_at ck_47_24 (by omega) (by omega)
  exact chkR_at ck_47_48 (by omega) (by omega)
set_option maxRecDepth 100000 in
theorem ck_48_0 : chkR 48 0 20 = true := by decide +kernel
theorem ck_48 : ∀ i, i < 20 → chk 48 i = true := by
  intro i hi
  exact chkR_at ck_48_0 (by omega) (by omega)
set_option maxRecDepth 100000 in
theorem ck_49_0 : chkR 49 0 19 = true := by decide +kernel
theorem ck_49 : ∀ i, i < 19 → chk 49 i = true := by
  intro i hi
  exact chkR_at ck_49_0 (by omega) (by omega)
set_option maxRecDepth 100000 in
theorem ck_50_0 : chkR 50 0 24 = true := by decide +kernel
set_option maxRecDepth 100000 in
theorem ck_50_24 : chkR 50 24 18 = true := by decide +kernel
theorem ck_50 : ∀ i, i < 42 → chk 50 i = true := by
  intro i hi
  by_cases h0 : i < 24
  · exact chkR_at ck_50_0 (by omega) (by omega)
  exact chkR_at ck_50_24 (by omega) (by omega)
set_option maxRecDepth 100000 in
theorem ck_51_0 : chkR 51 0 24 = true := by decide +kernel
set_option maxRecDepth 100000 in
theorem ck_51_24 : chkR 51 24 24 = true := by decide +kernel
set_option maxRecDepth 100000 in
theorem ck_51_48 : chkR 51 48 7 = true := by decide +kernel
theorem ck_51 : ∀ i, i < 55 → chk 51 i = true := by
  intro i hi
  by_cases h0 : i < 24
  · exact chkR_at ck_51_0 (by omega) (by omega)
  by_cases h24 : i < 48
  · exact chkR_at ck_51_24 (by omega) (by omega)
  exact chkR_at ck_51_48 (by omega) (by omega)
set_option maxRecDepth 100000 in
theorem ck_52_0 : chkR 52 0 24 = true := by decide +kernel
set_option maxRecDepth 100000 in
theorem ck_52_24 : chkR 52 24 14 = true := by decide +kernel
theorem ck_52 : ∀ i, i < 38 → chk 52 i = true := by
  intro i hi
  by_cases h0 : i < 24
  · exact chkR_at ck_52_0 (by omega) (by omega)
  exact chkR_at ck_52_24 (by omega) (by omega)
set_option maxRecDepth 100000 in
theorem ck_53_0 : chkR 53 0 15 = true := by decide +kernel
theorem ck_53 : ∀ i, i < 15 → chk 53 i = true := by
  intro i hi
  exact chkR_at ck_53_0 (by omega) (by omega)
set_option maxRecDepth 100000 in
theorem ck_54_0 : chkR 54 0 21 = true := by decide +kernel
theorem ck_54 : ∀ i, i < 21 → chk 54 i = true := by
  intro i hi
  exact chkR_at ck_54_0 (by omega) (by omega)
set_option maxRecDepth 100000 in
theorem ck_55_0 : chkR 55 0 24 = true := by decide +kernel
set_option maxRecDepth 100000 in
theorem ck_55_24 : chkR 55 24 15 = true := by decide +kernel
theorem ck_55 : ∀ i, i < 39 → chk 55 i = true := by
  intro i hi
  by_cases h0 : i < 24
  · exact chkR_at ck_55_0 (by omega) (by omega)
  exact chkR_at ck_55_24 (by omega) (by omega)
set_option maxRecDepth 100000 in
theorem ck_56_0 : chkR 56 0 13 = true := by decide +kernel
theorem ck_56 : ∀ i, i < 13 → chk 56 i = true := by
  intro i hi
  exact chkR_at ck_56_0 (by omega) (by omega)
set_option maxRecDepth 100000 in
theorem ck_57_0 : chkR 57 0 4 = true := by decide +kernel
theorem ck_57 : ∀ i, i < 4 → chk 57 i = true := by
  intro i hi
  exact chkR_at ck_57_0 (by omega) (by omega)
set_option maxRecDepth 100000 in
theorem ck_58_0 : chkR 58 0 4 = true := by decide +kernel
theorem ck_58 : ∀ i, i < 4 → chk 58 i = true := by
  intro i hi
  exact chkR_at ck_58_0 (by omega) (by omega)
set_option maxRecDepth 100000 in
theorem ck_59_0 : chkR 59 0 10 = true := by decide +kernel
theorem ck_59 : ∀ i, i < 10 → chk 59 i = true := by
  intro i hi
  exact chkR_at ck_59_0 (by omega) (by omega)
set_option maxRecDepth 100000 in
theorem ck_60_0 : chkR 60 0 10 = true := by decide +kernel
theorem ck_60 : ∀ i, i < 10 → chk 60 i = true := by
  intro i hi
  exact chkR_at ck_60_0 (by omega) (by omega)
set_option maxRecDepth 100000 in
theorem ck_61_0 : chkR 61 0 10 = true := by decide +kernel
theorem ck_61 : ∀ i, i < 10 → chk 61 i = true := by
  intro i hi
  exact chkR_at ck_61_0 (by omega) (by omega)
set_option maxRecDepth 100000 in
theorem ck_62_0 : chkR 62 0 9 = true := by decide +kernel
theorem ck_62 : ∀ i, i < 9 → chk 62 i = true := by
  intro i hi
  exact chkR_at ck_62_0 (by omega) (by omega)
set_option maxRecDepth 100000 in
theorem ck_63_0 : chkR 63 0 18 = true := by decide +kernel
theorem ck_63 : ∀ i, i < 18 → chk 63 i = true := by
  intro i hi
  exact chkR_at ck_63_0 (by omega) (by omega)
set_option maxRecDepth 100000 in
theorem ck_64_0 : chkR 64 0 17 = true := by decide +kernel
theorem ck_64 : ∀ i, i < 17 → chk 64 i = true := by
  intro i hi
  exact chkR_at ck_64_0 (by omega) (by omega)
set_option maxRecDepth 100000 in
theorem ck_65_0 : chkR 65 0 24 = true := by decide +kernel
theorem ck_65 : ∀ i, i < 24 → chk 65 i = true := by
  intro i hi
  exact chkR_at ck_65_0 (by omega) (by omega)
set_option maxRecDepth 100000 in
theorem ck_66_0 : chkR 66 0 24 = true := by decide +kernel
theorem ck_66 : ∀ i, i < 24 → chk 66 i = true := by
  intro i hi
  exact chkR_at ck_66_0 (by omega) (by omega)
set_option maxRecDepth 100000 in
theorem ck_67_0 : chkR 67 0 24 = true := by decide +kernel
theorem ck_67 : ∀ i, i < 24 → chk 67 i = true := by
  intro i hi
  exact chkR_at ck_67_0 (by omega) (by omega)
set_option maxRecDepth 100000 in
theorem ck_68_0 : chkR 68 0 24 = true := by decide +kernel
set_option maxRecDepth 100000 in
theorem ck_68_24 : chkR 68 24 11 = true := by decide +kernel
theorem ck_68 : ∀ i, i < 35 → chk 68 i = true := by
  intro i hi
  by_cases h0 : i < 24
  · exact chkR_at ck_68_0 (by omega) (by omega)
  exact chkR_at ck_68_24 (by omega) (by omega)
set_option maxRecDepth 100000 in
theorem ck_69_0 : chkR 69 0 24 = true := by decide +kernel
set_option maxRecDepth 100000 in
theorem ck_69_24 : chkR 69 24 24 = true := by decide +kernel
set_option maxRecDepth 100000 in
theorem ck_69_48 : chkR 69 48 24 = true := by decide +kernel
set_option maxRecDepth 100000 in
theorem ck_69_72 : chkR 69 72 5 = true := by decide +kernel
theorem ck_69 : ∀ i, i < 77 → chk 69 i = true := by
  intro i hi
  by_cases h0 : i < 24
  · exact chkR_at ck_69_0 (by omega) (by omega)
  by_cases h24 : i < 48
  · exact chkR_at ck_69_24 (by omega) (by omega)
  by_cases h48 : i < 72
  · exact chkR_at ck_69_48 (by omega) (by omega)
  exact chkR_at ck_69_72 (by omega) (by omega)
set_option maxRecDepth 100000 in
theorem ck_70_0 : chkR 70 0 24 = true := by decide +kernel
set_option maxRecDepth 100000 in
theorem ck_70_24 : chkR 70 24 24 = true := by decide +kernel
set_option maxRecDepth 100000 in
theorem ck_70_48 : chkR 70 48 15 = true := by decide +kernel
theorem ck_70 : ∀ i, i < 63 → chk 70 i = true := by
  intro i hi
  by_cases h0 : i < 24
  · exact chkR_at ck_70_0 (by omega) (by omega)
  by_cases h24 : i < 48
  · exact chkR_at ck_70_24 (by omega) (by omega)
  exact chkR_at ck_70_48 (by omega) (by omega)
set_option maxRecDepth 100000 in
theorem ck_71_0 : chkR 71 0 24 = true := by decide +kernel
set_option maxRecDepth 100000 in
theorem ck_71_24 : chkR 71 24 8 = true := by decide +kernel
theorem ck_71 : ∀ i, i < 32 → chk 71 i = true := by
  intro i hi
  by_cases h0 : i < 24
  · exact chkR_at ck_71_0 (by omega) (by omega)
  exact chkR_at ck_71_24 (by omega) (by omega)
set_option maxRecDepth 100000 in
theorem ck_72_0 : chkR 72 0 24 = true := by decide +kernel
set_option maxRecDepth 100000 in
theorem ck_72_24 : chkR 72 24 15 = true := by decide +kernel
theorem ck_72 : ∀ i, i < 39 → chk 72 i = true := by
  intro i hi
  by_cases h0 : i < 24
  · exact chkR_at ck_72_0 (by omega) (by omega)
  exact chkR_at ck_72_24 (by omega) (by omega)
set_option maxRecDepth 100000 in
theorem ck_76_0 : chkR 76 0 15 = true := by decide +kernel
theorem ck_76 : ∀ i, i < 15 → chk 76 i = true := by
  intro i hi
  exact chkR_at ck_76_0 (by omega) (by omega)
end
section
set_option maxRecDepth 100000 in
theorem ck_77_0 : chkR 77 0 24 = true := by decide +kernel
set_option maxRecDepth 100000 in
theorem ck_77_24 : chkR 77 24 2 = true := by decide +kernel
theorem ck_77 : ∀ i, i < 26 → chk 77 i = true := by
  intro i hi
  by_cases h0 : i < 24
  · exact chkR_at ck_77_0 (by omega) (by omega)
  exact chkR_at ck_77_24 (by omega) (by omega)
set_option maxRecDepth 100000 in
theorem ck_78_0 : chkR 78 0 6 = true := by decide +kernel
theorem ck_78 : ∀ i, i < 6 → chk 78 i = true := by
  intro i hi
  exact chkR_at ck_78_0 (by omega) (by omega)
set_option maxRecDepth 100000 in
theorem ck_79_0 : chkR 79 0 8 = true := by decide +kernel
theorem ck_79 : ∀ i, i < 8 → chk 79 i = true := by
  intro i hi
  exact chkR_at ck_79_0 (by omega) (by omega)
set_option maxRecDepth 100000 in
theorem ck_80_0 : chkR 80 0 13 = true := by decide +kernel
theorem ck_80 : ∀ i, i < 13 → chk 80 i = true := by
  intro i hi
  exact chkR_at ck_80_0 (by omega) (by omega)
set_option maxRecDepth 100000 in
theorem ck_81_0 : chkR 81 0 24 = true := by decide +kernel
set_option maxRecDepth 100000 in
theorem ck_81_24 : chkR 81 24 14 = true := by decide +kernel
theorem ck_81 : ∀ i, i < 38 → chk 81 i = true := by
  intro i hi
  by_cases h0 : i < 24
  · exact chkR_at ck_81_0 (by omega) (by omega)
  exact chkR_at ck_81_24 (by omega) (by omega)
set_option maxRecDepth 100000 in
theorem ck_82_0 : chkR 82 0 24 = true := by decide +kernel
set_option maxRecDepth 100000 in
theorem ck_82_24 : chkR 82 24 2 = true := by decide +kernel
theorem ck_82 : ∀ i, i < 26 → chk 82 i = true := by
  intro i hi
  by_cases h0 : i < 24
  · exact chkR_at ck_82_0 (by omega) (by omega)
  exact chkR_at ck_82_24 (by omega) (by omega)
set_option maxRecDepth 100000 in
theorem ck_83_0 : chkR 83 0 24 = true := by decide +kernel
set_option maxRecDepth 100000 in
theorem ck_83_24 : chkR 83 24 15 = true := by decide +kernel
theorem ck_83 : ∀ i, i < 39 → chk 83 i = true := by
  intro i hi
  by_cases h0 : i < 24
  · exact chkR_at ck_83_0 (by omega) (by omega)
  exact chkR_at ck_83_24 (by omega) (by omega)
set_option maxRecDepth 100000 in
theorem ck_84_0 : chkR 84 0 18 = true := by decide +kernel
theorem ck_84 : ∀ i, i < 18 → chk 84 i = true := by
  intro i hi
  exact chkR_at ck_84_0 (by omega) (by omega)
set_option maxRecDepth 100000 in
theorem ck_85_0 : chkR 85 0 24 = true := by decide +kernel
set_option maxRecDepth 100000 in
theorem ck_85_24 : chkR 85 24 24 = true := by decide +kernel
set_option maxRecDepth 100000 in
theorem ck_85_48 : chkR 85 48 24 = true := by decide +kernel
set_option maxRecDepth 100000 in
theorem ck_85_72 : chkR 85 72 24 = true := by decide +kernel
set_option maxRecDepth 100000 in
theorem ck_85_96 : chkR 85 96 24 = true := by decide +kernel
set_option maxRecDepth 100000 in
theorem ck_85_120 : chkR 85 120 24 = true := by decide +kernel
set_option maxRecDepth 100000 in
theorem ck_85_144 : chkR 85 144 24 = true := by decide +kernel
set_option maxRecDepth 100000 in
theorem ck_85_168 : chkR 85 168 24 = true := by decide +kernel
set_option maxRecDepth 100000 in
theorem ck_85_192 : chkR 85 192 24 = true := by decide +kernel
set_option maxRecDepth 100000 in
theorem ck_85_216 : chkR 85 216 24 = true := by decide +kernel
set_option maxRecDepth 100000 in
theorem ck_85_240 : chkR 85 240 24 = true := by decide +kernel
set_option maxRecDepth 100000 in
theorem ck_85_264 : chkR 85 264 24 = true := by decide +kernel
set_option maxRecDepth 100000 in
theorem ck_85_288 : chkR 85 288 1 = true := by decide +kernel
theorem ck_85 : ∀ i, i < 289 → chk 85 i = true := by
  intro i hi
  by_cases h0 : i < 24
  · exact chkR_at ck_85_0 (by omega) (by omega)
  by_cases h24 : i < 48
  · exact chkR_at ck_85_24 (by omega) (by omega)
  by_cases h48 : i < 72
  · exact chkR_at ck_85_48 (by omega) (by omega)
  by_cases h72 : i < 96
  · exact chkR_at ck_85_72 (by omega) (by omega)
  by_cases h96 : i < 120
  · exact chkR_at ck_85_96 (by omega) (by omega)
  by_cases h120 : i < 144
  · exact chkR_at ck_85_120 (by omega) (by omega)
  by_cases h144 : i < 168
  · exact chkR_at ck_85_144 (by omega) (by omega)
  by_cases h168 : i < 192
  · exact chkR_at ck_85_168 (by omega) (by omega)
  by_cases h192 : i < 216
  · exact chkR_at ck_85_192 (by omega) (by omega)
  by_cases h216 : i < 240
  · exact chkR_at ck_85_216 (by omega) (by omega)
  by_cases h240 : i < 264
  · exact chkR_at ck_85_240 (by omega) (by omega)
  by_cases h264 : i < 288
  · exact chkR_at ck_85_264 (by omega) (by omega)
  exact chkR_at ck_85_288 (by omega) (by omega)
set_option maxRecDepth 100000 in
theorem ck_86_0 : chkR 86 0 24 = true := by decide +kernel
set_option maxRecDepth 100000 in
theorem ck_86_24 : chkR 86 24 21 = true := by decide +kernel
theorem ck_86 : ∀ i, i < 45 → chk 86 i = true := by
  intro i hi
  by_cases h0 : i < 24
  · exact chkR_at ck_86_0 (by omega) (by omega)
  exact chkR_at ck_86_24 (by omega) (by omega)
set_option maxRecDepth 100000 in
theorem ck_87_0 : chkR 87 0 24 = true := by decide +kernel
set_option maxRecDepth 100000 in
theorem ck_87_24 : chkR 87 24 24 = true := by decide +kernel
set_option maxRecDepth 100000 in
theorem ck_87_48 : chkR 87 48 17 = true := by decide +kernel
theorem ck_87 : ∀ i, i < 65 → chk 87 i = true := by
  intro i hi
  by_cases h0 : i < 24
  · exact chkR_at ck_87_0 (by omega) (by omega)
  by_cases h24 : i < 48
  · exact chkR_at ck_87_24 (by omega) (by omega)
  exact chkR_at ck_87_48 (by omega) (by omega)
set_option maxRecDepth 100000 in
theorem ck_88_0 : chkR 88 0 19 = true := by decide +kernel
theorem ck_88 : ∀ i, i < 19 → chk 88 i = true := by
  intro i hi
  exact chkR_at ck_88_0 (by omega) (by omega)
set_option maxRecDepth 100000 in
theorem ck_89_0 : chkR 89 0 24 = true := by decide +kernel
set_option maxRecDepth 100000 in
theorem ck_89_24 : chkR 89 24 24 = true := by decide +kernel
set_option maxRecDepth 100000 in
theorem ck_89_48 : chkR 89 48 24 = true := by decide +kernel
set_option maxRecDepth 100000 in
theorem ck_89_72 : chkR 89 72 24 = true := by decide +kernel
set_option maxRecDepth 100000 in
theorem ck_89_96 : chkR 89 96 24 = true := by decide +kernel
set_option maxRecDepth 100000 in
theorem ck_89_120 : chkR 89 120 24 = true := by decide +kernel
set_option maxRecDepth 100000 in
theorem ck_89_144 : chkR 89 144 24 = true := by decide +kernel
set_option maxRecDepth 100000 in
theorem ck_89_168 : chkR 89 168 24 = true := by decide +kernel
set_option maxRecDepth 100000 in
theorem ck_89_192 : chkR 89 192 24 = true := by decide +kernel
set_option maxRecDepth 100000 in
theorem ck_89_216 : chkR 89 216 12 = true := by decide +kernel
theorem ck_89 : ∀ i, i < 228 → chk 89 i = true := by
  intro i hi
  by_cases h0 : i < 24
  · exact chkR_at ck_89_0 (by omega) (by omega)
  by_cases h24 : i < 48
  · exact chkR_at ck_89_24 (by omega) (by omega)
  by_cases h48 : i < 72
  · exact chkR_at ck_89_48 (by omega) (by omega)
  by_cases h72 : i < 96
  · exact chkR_at ck_89_72 (by omega) (by omega)
  by_cases h96 : i < 120
  · exact chkR_at ck_89_96 (by omega) (by omega)
  by_cases h120 : i < 144
  · exact chkR_at ck_89_120 (by omega) (by omega)
  by_cases h144 : i < 168
  · exact chkR_at ck_89_144 (by omega) (by omega)
  by_cases h168 : i < 192
  · exact chkR_at ck_89_168 (by omega) (by omega)
  by_cases h192 : i < 216
  · exact chkR_at ck_89_192 (by omega) (by omega)
  exact chkR_at ck_89_216 (by omega) (by omega)
set_option maxRecDepth 100000 in
theorem ck_90_0 : chkR 90 0 24 = true := by decide +kernel
set_option maxRecDepth 100000 in
theorem ck_90_24 : chkR 90 24 9 = true := by decide +kernel
theorem ck_90 : ∀ i, i < 33 → chk 90 i = true := by
  intro i hi
  by_cases h0 : i < 24
  · exact chkR_at ck_90_0 (by omega) (by omega)
  exact chkR_at ck_90_24 (by omega) (by omega)
set_option maxRecDepth 100000 in
theorem ck_91_0 : chkR 91 0 24 = true := by decide +kernel
set_option maxRecDepth 100000 in
theorem ck_91_24 : chkR 91 24 24 = true := by decide +kernel
set_option maxRecDepth 100000 in
theorem ck_91_48 : chkR 91 48 24 = true := by decide +kernel
set_option maxRecDepth 100000 in
theorem ck_91_72 : chkR 91 72 23 = true := by decide +kernel
theorem ck_91 : ∀ i, i < 95 → chk 91 i = true := by
  intro i hi
  by_cases h0 : i < 24
  · exact chkR_at ck_91_0 (by omega) (by omega)
  by_cases h24 : i < 48
  · exact chkR_at ck_91_24 (by omega) (by omega)
  by_cases h48 : i < 72
  · exact chkR_at ck_91_48 (by omega) (by omega)
  exact chkR_at ck_91_72 (by omega) (by omega)
set_option maxRecDepth 100000 in
theorem ck_92_0 : chkR 92 0 24 = true := by decide +kernel
set_option maxRecDepth 100000 in
theorem ck_92_24 : chkR 92 24 24 = true := by decide +kernel
set_option maxRecDepth 100000 in
theorem ck_92_48 : chkR 92 48 24 = true := by decide +kernel
set_option maxRecDepth 100000 in
theorem ck_92_72 : chkR 92 72 24 = true := by decide +kernel
set_option maxRecDepth 100000 in
theorem ck_92_96 : chkR 92 96 24 = true := by decide +kernel
set_option maxRecDepth 100000 in
theorem ck_92_120 : chkR 92 120 24 = true := by decide +kernel
set_option maxRecDepth 100000 in
theorem ck_92_144 : chkR 92 144 23 = true := by decide +kernel
theorem ck_92 : ∀ i, i < 167 → chk 92 i = true := by
  intro i hi
  by_cases h0 : i < 24
  · exact chkR_at ck_92_0 (by omega) (by omega)
  by_cases h24 : i < 48
  · exact chkR_at ck_92_24 (by omega) (by omega)
  by_cases h48 : i < 72
  · exact chkR_at ck_92_48 (by omega) (by omega)
  by_cases h72 : i < 96
  · exact chkR_at ck_92_72 (by omega) (by omega)
  by_cases h96 : i < 120
  · exact chkR_at ck_92_96 (by omega) (by omega)
  by_cases h120 : i < 144
  · exact chkR_at ck_92_120 (by omega) (by omega)
  exact chkR_at ck_92_144 (by omega) (by omega)
set_option maxRecDepth 100000 in
theorem ck_93_0 : chkR 93 0 24 = true := by decide +kernel
set_option maxRecDepth 100000 in
theorem ck_93_24 : chkR 93 24 5 = true := by decide +kernel
theorem ck_93 : ∀ i, i < 29 → chk 93 i = true := by
  intro i hi
  by_cases h0 : i < 24
  · exact chkR_at ck_93_0 (by omega) (by omega)
  exact chkR_at ck_93_24 (by omega) (by omega)
set_option maxRecDepth 100000 in
theorem ck_94_0 : chkR 94 0 24 = true := by decide +kernel
set_option maxRecDepth 100000 in
theorem ck_94_24 : chkR 94 24 24 = true := by decide +kernel
set_option maxRecDepth 100000 in
theorem ck_94_48 : chkR 94 48 19 = true := by decide +kernel
theorem ck_94 : ∀ i, i < 67 → chk 94 i = true := by
  intro i hi
  by_cases h0 : i < 24
  · exact chkR_at ck_94_0 (by omega) (by omega)
  by_cases h24 : i < 48
  · exact chkR_at ck_94_24 (by omega) (by omega)
  exact chkR_at ck_94_48 (by omega) (by omega)
set_option maxRecDepth 100000 in
theorem ck_95_0 : chkR 95 0 24 = true := by decide +kernel
set_option maxRecDepth 100000 in
theorem ck_95_24 : chkR 95 24 24 = true := by decide +kernel
set_option maxRecDepth 100000 in
theorem ck_95_48 : chkR 95 48 24 = true := by decide +kernel
set_option maxRecDepth 100000 in
theorem ck_95_72 : chkR 95 72 24 = true := by decide +kernel
set_option maxRecDepth 100000 in
theorem ck_95_96 : chkR 95 96 24 = true := by decide +kernel
set_option maxRecDepth 100000 in
theorem ck_95_120 : chkR 95 120 24 = true := by decide +kernel
set_option maxRecDepth 100000 in
theorem ck_95_144 : chkR 95 144 24 = true := by decide +kernel
set_option maxRecDepth 100000 in
theorem ck_95_168 : chkR 95 168 24 = true := by decide +kernel
set_option maxRecDepth 100000 in
theorem ck_95_192 : chkR 95 192 24 = true := by decide +kernel
set_option maxRecDepth 100000 in
theorem ck_95_216 : chkR 95 216 24 = true := by decide +kernel
set_option maxRecDepth 100000 in
theorem ck_95_240 : chkR 95 240 6 = true := by decide +kernel
theorem ck_95 : ∀ i, i < 246 → chk 95 i = true := by
  intro i hi
  by_cases h0 : i < 24
  · exact chkR_at ck_95_0 (by omega) (by omega)
  by_cases h24 : i < 48
  · exact chkR_at ck_95_24 (by omega) (by omega)
  by_cases h48 : i < 72
  · exact chkR_at ck_95_48 (by omega) (by omega)
  by_cases h72 : i < 96
  · exact chkR_at ck_95_72 (by omega) (by omega)
  by_cases h96 : i < 120
  · exact chkR_at ck_95_96 (by omega) (by omega)
  by_cases h120 : i < 144
  · exact chkR_at ck_95_120 (by omega) (by omega)
  by_cases h144 : i < 168
  · exact chkR_at ck_95_144 (by omega) (by omega)
  by_cases h168 : i < 192
  · exact chkR_at ck_95_168 (by omega) (by omega)
  by_cases h192 : i < 216
  · exact chkR_at ck_95_192 (by omega) (by omega)
  by_cases h216 : i < 240
  · exact chkR_at ck_95_216 (by omega) (by omega)
  exact chkR_at ck_95_240 (by omega) (by omega)
set_option maxRecDepth 100000 in
theorem ck_96_0 : chkR 96 0 24 = true := by decide +kernel
set_option maxRecDepth 100000 in
theorem ck_96_24 : chkR 96 24 24 = true := by decide +kernel
set_option maxRecDepth 100000 in
theorem ck_96_48 : chkR 96 48 24 = true := by decide +kernel
set_option maxRecDepth 100000 in
theorem ck_96_72 : chkR 96 72 24 = true := by decide +kernel
set_option maxRecDepth 100000 in
theorem ck_96_96 : chkR 96 96 24 = true := by decide +kernel
set_option maxRecDepth 100000 in
theorem ck_96_120 : chkR 96 120 24 = true := by decide +kernel
set_option maxRecDepth 100000 in
theorem ck_96_144 : chkR 96 144 24 = true := by decide +kernel
set_option maxRecDepth 100000 in
theorem ck_96_168 : chkR 96 168 24 = true := by decide +kernel
set_option maxRecDepth 100000 in
theorem ck_96_192 : chkR 96 192 24 = true := by decide +kernel
set_option maxRecDepth 100000 in
theorem ck_96_216 : chkR 96 216 24 = true := by decide +kernel
set_option maxRecDepth 100000 in
theorem ck_96_240 : chkR 96 240 24 = true := by decide +kernel
set_option maxRecDepth 100000 in
theorem ck_96_264 : chkR 96 264 24 = true := by decide +kernel
set_option maxRecDepth 100000 in
theorem ck_96_288 : chkR 96 288 24 = true := by decide +kernel
set_option maxRecDepth 100000 in
theorem ck_96_312 : chkR 96 312 24 = true := by decide +kernel
set_option maxRecDepth 100000 in
theorem ck_96_336 : chkR 96 336 24 = true := by decide +kernel
set_option maxRecDepth 100000 in
theorem ck_96_360 : chkR 96 360 24 = true := by decide +kernel
set_option maxRecDepth 100000 in
theorem ck_96_384 : chkR 96 384 24 = true := by decide +kernel
set_option maxRecDepth 100000 in
theorem ck_96_408 : chkR 96 408 24 = true := by decide +kernel
set_option maxRecDepth 100000 in
theorem ck_96_432 : chkR 96 432 24 = true := by decide +kernel
set_option maxRecDepth 100000 in
theorem ck_96_456 : chkR 96 456 24 = true := by decide +kernel
set_option maxRecDepth 100000 in
theorem ck_96_480 : chkR 96 480 2 = true := by decide +kernel
theorem ck_96 : ∀ i, i < 482 → chk 96 i = true := by
  intro i hi
  by_cases h0 : i < 24
  · exact chkR_at ck_96_0 (by omega) (by omega)
  by_cases h24 : i < 48
  · exact chkR_at ck_96_24 (by omega) (by omega)
  by_cases h48 : i < 72
  · exact chkR_at ck_96_48 (by omega) (by omega)
  by_cases h72 : i < 96
  · exact chkR_at ck_96_72 (by omega) (by omega)
  by_cases h96 : i < 120
  · exact chkR_at ck_96_96 (by omega) (by omega)
  by_cases h120 : i < 144
  · exact chkR_at ck_96_120 (by omega) (by omega)
  by_cases h144 : i < 168
  · exact chkR_at ck_96_144 (by omega) (by omega)
  by_cases h168 : i < 192
  · exact chkR_at ck_96_168 (by omega) (by omega)
  by_cases h192 : i < 216
  · exact chkR_at ck_96_192 (by omega) (by omega)
  by_cases h216 : i < 240
  · exact chkR_at ck_96_216 (by omega) (by omega)
  by_cases h240 : i < 264
  · exact chkR_at ck_96_240 (by omega) (by omega)
  by_cases h264 : i < 288
  · exact chkR_at ck_96_264 (by omega) (by omega)
  by_cases h288 : i < 312
  · exact chkR_at ck_96_288 (by omega) (by omega)
  by_cases h312 : i < 336
  · exact chkR_at ck_96_312 (by omega) (by omega)
  by_cases h336 : i < 360
  · exact chkR_at ck_96_336 (by omega) (by omega)
  by_cases h360 : i < 384
  · exact chkR_at ck_96_360 (by omega) (by omega)
  by_cases h384 : i < 408
  · exact chkR_at ck_96_384 (by omega) (by omega)
  by_cases h408 : i < 432
  · exact chkR_at ck_96_408 (by omega) (by omega)
  by_cases h432 : i < 456
  · exact chkR_at ck_96_432 (by omega) (by omega)
  by_cases h456 : i < 480
  · exact chkR_at ck_96_456 (by omega) (by omega)
  exact chkR_at ck_96_480 (by omega) (by omega)
set_option maxRecDepth 100000 in
theorem ck_97_0 : chkR 97 0 24 = true := by decide +kernel
set_option maxRecDepth 100000 in
theorem ck_97_24 : chkR 97 24 24 = true := by decide +kernel
set_option maxRecDepth 100000 in
theorem ck_97_48 : chkR 97 48 24 = true := by decide +kernel
set_option maxRecDepth 100000 in
theorem ck_97_72 : chkR 97 72 24 = true := by decide +kernel
set_option maxRecDepth 100000 in
theorem ck_97_96 : chkR 97 96 24 = true := by decide +kernel
set_option maxRecDepth 100000 in
theorem ck_97_120 : chkR 97 120 24 = true := by decide +kernel
set_option maxRecDepth 100000 in
theorem ck_97_144 : chkR 97 144 14 = true := by decide +kernel
theorem ck_97 : ∀ i, i < 158 → chk 97 i = true := by
  intro i hi
  by_cases h0 : i < 24
  · exact chkR_at ck_97_0 (by omega) (by omega)
  by_cases h24 : i < 48
  · exact chkR_at ck_97_24 (by omega) (by omega)
  by_cases h48 : i < 72
  · exact chkR_at ck_97_48 (by omega) (by omega)
  by_cases h72 : i < 96
  · exact chkR_at ck_97_72 (by omega) (by omega)
  by_cases h96 : i < 120
  · exact chkR_at ck_97_96 (by omega) (by omega)
  by_cases h120 : i < 144
  · exact chkR_at ck_97_120 (by omega) (by omega)
  exact chkR_at ck_97_144 (by omega) (by omega)
set_option maxRecDepth 100000 in
theorem ck_98_0 : chkR 98 0 24 = true := by decide +kernel
set_option maxRecDepth 100000 in
theorem ck_98_24 : chkR 98 24 24 = true := by decide +kernel
set_option maxRecDepth 100000 in
theorem ck_98_48 : chkR 98 48 24 = true := by decide +kernel
set_option maxRecDepth 100000 in
theorem ck_98_72 : chkR 98 72 24 = true := by decide +kernel
set_option maxRecDepth 100000 in
theorem ck_98_96 : chkR 98 96 24 = true := by decide +kernel
set_option maxRecDepth 100000 in
theorem ck_98_120 : chkR 98 120 24 = true := by decide +kernel
set_option maxRecDepth 100000 in
theorem ck_98_144 : chkR 98 144 24 = true := by decide +kernel
set_option maxRecDepth 100000 in
theorem ck_98_168 : chkR 98 168 24 = true := by decide +kernel
set_option maxRecDepth 100000 in
theorem ck_98_192 : chkR 98 192 24 = true := by decide +kernel
set_option maxRecDepth 100000 in
theorem ck_98_216 : chkR 98 216 24 = true := by decide +kernel
set_option maxRecDepth 100000 in
theorem ck_98_240 : chkR 98 240 24 = true := by decide +kernel
set_option maxRecDepth 100000 in
theorem ck_98_264 : chkR 98 264 24 = true := by decide +kernel
set_option maxRecDepth 100000 in
theorem ck_98_288 : chkR 98 288 24 = true := by decide +kernel
set_option maxRecDepth 100000 in
theorem ck_98_312 : chkR 98 312 24 = true := by decide +kernel
set_option maxRecDepth 100000 in
theorem ck_98_336 : chkR 98 336 2 = true := by decide +kernel
theorem ck_98 : ∀ i, i < 338 → chk 98 i = true := by
  intro i hi
  by_cases h0 : i < 24
  · exact chkR_at ck_98_0 (by omega) (by omega)
  by_cases h24 : i < 48
  · exact chkR_at ck_98_24 (by omega) (by omega)
  by_cases h48 : i < 72
  · exact chkR_at ck_98_48 (by omega) (by omega)
  by_cases h72 : i < 96
  · exact chkR_at ck_98_72 (by omega) (by omega)
  by_cases h96 : i < 120
  · exact chkR_at ck_98_96 (by omega) (by omega)
  by_cases h120 : i < 144
  · exact chkR_at ck_98_120 (by omega) (by omega)
  by_cases h144 : i < 168
  · exact chkR_at ck_98_144 (by omega) (by omega)
  by_cases h168 : i < 192
  · exact chkR_at ck_98_168 (by omega) (by omega)
  by_cases h192 : i < 216
  · exact chkR_at ck_98_192 (by omega) (by omega)
  by_cases h216 : i < 240
  · exact chkR_at ck_98_216 (by omega) (by omega)
  by_cases h240 : i < 264
  · exact chkR_at ck_98_240 (by omega) (by omega)
  by_cases h264 : i < 288
  · exact chkR_at ck_98_264 (by omega) (by omega)
  by_cases h288 : i < 312
  · exact chkR_at ck_98_288 (by omega) (by omega)
  by_cases h312 : i < 336
  · exact chkR_at ck_98_312 (by omega) (by omega)
  exact chkR_at ck_98_336 (by omega) (by omega)
set_option maxRecDepth 100000 in
theorem ck_99_0 : chkR 99 0 24 = true := by decide +kernel
set_option maxRecDepth 100000 in
theorem ck_99_24 : chkR 99 24 24 = true := by decide +kernel
set_option maxRecDepth 100000 in
theorem ck_99_48 : chkR 99 48 24 = true := by decide +kernel
set_option maxRecDepth 100000 in
theorem ck_99_72 : chkR 99 72 24 = true := by decide +kernel
set_option maxRecDepth 100000 in
theorem ck_99_96 : chkR 99 96 24 = true := by decide +kernel
set_option maxRecDepth 100000 in
theorem ck_99_120 : chkR 99 120 24 = true := by decide +kernel
set_option maxRecDepth 100000 in
theorem ck_99_144 : chkR 99 144 3 = true := by decide +kernel
theorem ck_99 : ∀ i, i < 147 → chk 99 i = true := by
  intro i hi
  by_cases h0 : i < 24
  · exact chkR_at ck_99_0 (by omega) (by omega)
  by_cases h24 : i < 48
  · exact chkR_at ck_99_24 (by omega) (by omega)
  by_cases h48 : i < 72
  · exact chkR_at ck_99_48 (by omega) (by omega)
  by_cases h72 : i < 96
  · exact chkR_at ck_99_72 (by omega) (by omega)
  by_cases h96 : i < 120
  · exact chkR_at ck_99_96 (by omega) (by omega)
  by_cases h120 : i < 144
  · exact chkR_at ck_99_120 (by omega) (by omega)
  exact chkR_at ck_99_144 (by omega) (by omega)
set_option maxRecDepth 100000 in
theorem ck_100_0 : chkR 100 0 24 = true := by decide +kernel
set_option maxRecDepth 100000 in
theorem ck_100_24 : chkR 100 24 24 = true := by decide +kernel
set_option maxRecDepth 100000 in
theorem ck_100_48 : chkR 100 48 24 = true := by decide +kernel
set_option maxRecDepth 100000 in
theorem ck_100_72 : chkR 100 72 24 = true := by decide +kernel
set_option maxRecDepth 100000 in
theorem ck_100_96 : chkR 100 96 24 = true := by decide +kernel
set_option maxRecDepth 100000 in
theorem ck_100_120 : chkR 100 120 24 = true := by decide +kernel
set_option maxRecDepth 100000 in
theorem ck_100_144 : chkR 100 144 24 = true := by decide +kernel
set_option maxRecDepth 100000 in
theorem ck_100_168 : chkR 100 168 24 = true := by decide +kernel
set_option maxRecDepth 100000 in
theorem ck_100_192 : chkR 100 192 24 = true := by decide +kernel
set_option maxRecDepth 100000 in
theorem ck_100_216 : chkR 100 216 4 = true := by decide +kernel
theorem ck_100 : ∀ i, i < 220 → chk 100 i = true := by
  intro i hi
  by_cases h0 : i < 24
  · exact chkR_at ck_100_0 (by omega) (by omega)
  by_cases h24 : i < 48
  · exact chkR_at ck_100_24 (by omega) (by omega)
  by_cases h48 : i < 72
  · exact chkR_at ck_100_48 (by omega) (by omega)
  by_cases h72 : i < 96
  · exact chkR_at ck_100_72 (by omega) (by omega)
  by_cases h96 : i < 120
  · exact chkR_at ck_100_96 (by omega) (by omega)
  by_cases h120 : i < 144
  · exact chkR_at ck_100_120 (by omega) (by omega)
  by_cases h144 : i < 168
  · exact chkR_at ck_100_144 (by omega) (by omega)
  by_cases h168 : i < 192
  · exact chkR_at ck_100_168 (by omega) (by omega)
  by_cases h192 : i < 216
  · exact chkR_at ck_100_192 (by omega) (by omega)
  exact chkR_at ck_100_216 (by omega) (by omega)
set_option maxRecDepth 100000 in
theorem ck_101_0 : chkR 101 0 12 = true := by decide +kernel
theorem ck_101 : ∀ i, i < 12 → chk 101 i = true := by
  intro i hi
  exact chkR_at ck_101_0 (by omega) (by omega)
set_option maxRecDepth 100000 in
theorem ck_102_0 : chkR 102 0 3 = true := by decide +kernel
theorem ck_102 : ∀ i, i < 3 → chk 102 i = true := by
  intro i hi
  exact chkR_at ck_102_0 (by omega) (by omega)
end
section
theorem ck_all : ∀ y i, i < (pg_cs.getD y []).length → (pg_own y ≠ "java/lang/Math") → chk y i = true := by
  intro y i hi hn
  match y, hi, hn with
  | 0, hi, _ => exact ck_0 i hi
  | 1, hi, _ => exact ck_1 i hi
  | 2, hi, _ => exact ck_2 i hi
  | 3, hi, _ => exact ck_3 i hi
  | 4, hi, _ => exact ck_4 i hi
  | 5, hi, _ => exact ck_5 i hi
  | 6, hi, _ => exact ck_6 i hi
  | 7, hi, _ => exact ck_7 i hi
  | 8, hi, _ => exact ck_8 i hi
  | 9, hi, _ => exact ck_9 i hi
  | 10, hi, _ => exact ck_10 i hi
  | 11, hi, _ => exact ck_11 i hi
  | 12, hi, _ => exact ck_12 i hi
  | 13, hi, _ => exact ck_13 i hi
  | 14, hi, _ => exact ck_14 i hi
  | 15, hi, _ => exact ck_15 i hi
  | 16, hi, _ => exact ck_16 i hi
  | 17, hi, _ => exact ck_17 i hi
  | 18, hi, _ => exact ck_18 i hi
  | 19, hi, _ => exact ck_19 i hi
  | 20, hi, _ => exact ck_20 i hi
  | 21, hi, _ => exact ck_21 i hi
  | 22, hi, _ => exact ck_22 i hi
  | 23, hi, _ => exact ck_23 i hi
  | 24, hi, _ => exact ck_24 i hi
  | 25, hi, _ => exact ck_25 i hi
  | 26, hi, _ => exact ck_26 i hi
  | 27, hi, _ => exact ck_27 i hi
  | 28, hi, _ => exact ck_28 i hi
  | 29, hi, _ => exact ck_29 i hi
  | 30, hi, _ => exact ck_30 i hi
  | 31, hi, _ => exact ck_31 i hi
  | 32, hi, _ => exact ck_32 i hi
  | 33, hi, _ => exact ck_33 i hi
  | 34, hi, _ => exact ck_34 i hi
  | 35, hi, _ => exact ck_35 i hi
  | 36, hi, _ => exact ck_36 i hi
  | 37, hi, _ => exact ck_37 i hi
  | 38, hi, _ => exact ck_38 i hi
  | 39, hi, _ => exact ck_39 i hi
  | 40, hi, _ => exact ck_40 i hi
  | 41, hi, _ => exact ck_41 i hi
  | 42, hi, _ => exact ck_42 i hi
  | 43, hi, _ => exact ck_43 i hi
  | 44, hi, _ => exact ck_44 i hi
  | 45, hi, _ => exact ck_45 i hi
  | 46, hi, _ => exact ck_46 i hi
  | 47, hi, _ => exact ck_47 i hi
  | 48, hi, _ => exact ck_48 i hi
  | 49, hi, _ => exact ck_49 i hi
  | 50, hi, _ => exact ck_50 i hi
  | 51, hi, _ => exact ck_51 i hi
  | 52, hi, _ => exact ck_52 i hi
  | 53, hi, _ => exact ck_53 i hi
  | 54, hi, _ => exact ck_54 i hi
  | 55, hi, _ => exact ck_55 i hi
  | 56, hi, _ => exact ck_56 i hi
  | 57, hi, _ => exact ck_57 i hi
  | 58, hi, _ => exact ck_58 i hi
  | 59, hi, _ => exact ck_59 i hi
  | 60, hi, _ => exact ck_60 i hi
  | 61, hi, _ => exact ck_61 i hi
  | 62, hi, _ => exact ck_62 i hi
  | 63, hi, _ => exact ck_63 i hi
  | 64, hi, _ => exact ck_64 i hi
  | 65, hi, _ => exact ck_65 i hi
  | 66, hi, _ => exact ck_66 i hi
  | 67, hi, _ => exact ck_67 i hi
  | 68, hi, _ => exact ck_68 i hi
  | 69, hi, _ => exact ck_69 i hi
  | 70, hi, _ => exact ck_70 i hi
  | 71, hi, _ => exact ck_71 i hi
  | 72, hi, _ => exact ck_72 i hi
  | 73, _, hn => exact absurd rfl hn
  | 74, _, hn => exact absurd rfl hn
  | 75, _, hn => exact absurd rfl hn
  | 76, hi, _ => exact ck_76 i hi
  | 77, hi, _ => exact ck_77 i hi
  | 78, hi, _ => exact ck_78 i hi
  | 79, hi, _ => exact ck_79 i hi
  | 80, hi, _ => exact ck_80 i hi
  | 81, hi, _ => exact ck_81 i hi
  | 82, hi, _ => exact ck_82 i hi
  | 83, hi, _ => exact ck_83 i hi
  | 84, hi, _ => exact ck_84 i hi
  | 85, hi, _ => exact ck_85 i hi
  | 86, hi, _ => exact ck_86 i hi
  | 87, hi, _ => exact ck_87 i hi
  | 88, hi, _ => exact ck_88 i hi
  | 89, hi, _ => exact ck_89 i hi
  | 90, hi, _ => exact ck_90 i hi
  | 91, hi, _ => exact ck_91 i hi
  | 92, hi, _ => exact ck_92 i hi
  | 93, hi, _ => exact ck_93 i hi
  | 94, hi, _ => exact ck_94 i hi
  | 95, hi, _ => exact ck_95 i hi
  | 96, hi, _ => exact ck_96 i hi
  | 97, hi, _ => exact ck_97 i hi
  | 98, hi, _ => exact ck_98 i hi
  | 99, hi, _ => exact ck_99 i hi
  | 100, hi, _ => exact ck_100 i hi
  | 101, hi, _ => exact ck_101 i hi
  | 102, hi, _ => exact ck_102 i hi
  | n + 103, hi, _ =>
    have : pg_cs.getD (n + 103) [] = [] := by
      rw [List.getD_eq_getElem?_getD, List.getElem?_eq_none (by show 103 ≤ n + 103; omega)]; rfl
    rw [this] at hi
    exact absurd hi (Nat.not_lt_zero _)
theorem HCK : ∀ y i r, pg_at y i = some r → pg_own y ≠ "java/lang/Math" → chk y i = true := by
  intro y i r h hn
  refine ck_all y i ?_ hn
  unfold pg_at at h
  exact (List.getElem?_eq_some_iff.mp h).1
end
section
/-! rows of the pure machine, one an instruction -/
noncomputable def bI (p : Prop) : Int32 := @ite _ p (Classical.propDecidable p) 1 0
theorem bI_t {p : Prop} (h : p) : bI p = 1 := by unfold bI; rw [if_pos h]
theorem bI_f {p : Prop} (h : ¬ p) : bI p = 0 := by unfold bI; rw [if_neg h]
theorem bI_01 (p : Prop) : bI p = 0 ∨ bI p = 1 := by
  by_cases h : p
  · exact Or.inr (bI_t h)
  · exact Or.inl (bI_f h)
theorem bI_0 {p : Prop} : bI p = 0 ↔ ¬ p := by
  by_cases h : p
  · rw [bI_t h]; exact ⟨fun q => absurd q (by decide), fun q => absurd h q⟩
  · rw [bI_f h]; exact ⟨fun _ => h, fun _ => rfl⟩
theorem bI_n0 {p : Prop} : (¬ bI p = 0) ↔ p := by rw [bI_0]; exact ⟨fun h => Classical.byContradiction h, fun h q => q h⟩
theorem bI_1 {p : Prop} : bI p = 1 ↔ p := by
  by_cases h : p
  · rw [bI_t h]; exact ⟨fun _ => h, fun _ => rfl⟩
  · rw [bI_f h]; exact ⟨fun q => absurd q (by decide), fun q => absurd q h⟩
theorem bI_congr {p q : Prop} (h : p ↔ q) : bI p = bI q := by rw [propext h]
def c1b (v : PV) : Bool := match v with
  | .inr (.inl _) => false
  | _ => true
theorem c1_of {v : PV} (h : c1b v = true) : isC1 v := by
  match v, h with
  | .inl _, _ => trivial
  | .inr (.inl _), h => cases h
  | .inr (.inr _), _ => trivial
theorem c1_all {as : List PV} (h : as.all c1b = true) : ∀ v ∈ as, isC1 v := fun v hv => c1_of (List.all_eq_true.mp h v hv)
section MW
variable {d b y i : Nat} {ls ls' : List (Option PV)} {st r : List PV} {K : KM} {I I' : IM} {R R' : RM} {Q : QT} {a c : Nat} {z : Int}

theorem mw_const (hi : pg_at y i = some (0, a, c, z)) {v : Int32} (hv : Int32.ofInt z = v) (h : Mw d b y (i + 1) ls (pI v :: st) K I R Q) : Mw d b y i ls (st) K I R Q := wp_in ⟨_, _, _, _, hi, Or.inl (show stA Mw 0 a c z d b y i ls (st) K I R Q from by subst hv; exact h)⟩
theorem mw_iload (hi : pg_at y i = some (1, a, c, z)) {x : Int32} (hx : ls[a]? = some (some (pI x))) (h : Mw d b y (i + 1) ls (pI x :: st) K I R Q) : Mw d b y i ls (st) K I R Q := wp_in ⟨_, _, _, _, hi, Or.inl (show stA Mw 1 a c z d b y i ls (st) K I R Q from ⟨x, hx, h⟩)⟩
theorem mw_istore (hi : pg_at y i = some (2, a, c, z)) {x : Int32} (hl : ls.set a (some (pI x)) = ls') (ha : a < ls.length) (h : Mw d b y (i + 1) ls' (r) K I R Q) : Mw d b y i ls (pI x :: r) K I R Q := wp_in ⟨_, _, _, _, hi, Or.inl (show stA Mw 2 a c z d b y i ls (pI x :: r) K I R Q from ⟨x, r, rfl, ha, by subst hl; exact h⟩)⟩
theorem mw_aload (hi : pg_at y i = some (3, a, c, z)) {L : Lb} (hx : ls[a]? = some (some (pR (some L)))) (h : Mw d b y (i + 1) ls (pR (some L) :: st) K I R Q) : Mw d b y i ls (st) K I R Q := wp_in ⟨_, _, _, _, hi, Or.inl (show stA Mw 3 a c z d b y i ls (st) K I R Q from ⟨L, hx, h⟩)⟩
theorem mw_astore (hi : pg_at y i = some (4, a, c, z)) {L : Lb} (hl : ls.set a (some (pR (some L))) = ls') (ha : a < ls.length) (h : Mw d b y (i + 1) ls' (r) K I R Q) : Mw d b y i ls (pR (some L) :: r) K I R Q := wp_in ⟨_, _, _, _, hi, Or.inl (show stA Mw 4 a c z d b y i ls (pR (some L) :: r) K I R Q from ⟨_, r, rfl, Or.inr ⟨L, rfl⟩, ha, by subst hl; exact h⟩)⟩
theorem mw_astoreO (hi : pg_at y i = some (4, a, c, z)) (hl : ls.set a (some pO) = ls') (ha : a < ls.length) (h : Mw d b y (i + 1) ls' (r) K I R Q) : Mw d b y i ls (pO :: r) K I R Q := wp_in ⟨_, _, _, _, hi, Or.inl (show stA Mw 4 a c z d b y i ls (pO :: r) K I R Q from ⟨_, r, rfl, Or.inl rfl, ha, by subst hl; exact h⟩)⟩
theorem mw_iinc (hi : pg_at y i = some (5, a, c, z)) {x v : Int32} (hx : ls[a]? = some (some (pI x))) (hv : x + Int32.ofInt z = v) (hl : ls.set a (some (pI v)) = ls') (h : Mw d b y (i + 1) ls' (st) K I R Q) : Mw d b y i ls (st) K I R Q := wp_in ⟨_, _, _, _, hi, Or.inl (show stA Mw 5 a c z d b y i ls (st) K I R Q from ⟨x, hx, by subst hl; subst hv; exact h⟩)⟩
theorem mw_iadd (hi : pg_at y i = some (6, a, c, z)) {u v w : Int32} (hw : u + v = w) (h : Mw d b y (i + 1) ls (pI w :: r) K I R Q) : Mw d b y i ls (pI v :: pI u :: r) K I R Q := wp_in ⟨_, _, _, _, hi, Or.inl (show stA Mw 6 a c z d b y i ls (pI v :: pI u :: r) K I R Q from ⟨u, v, r, rfl, by subst hw; exact h⟩)⟩
theorem mw_isub (hi : pg_at y i = some (7, a, c, z)) {u v w : Int32} (hw : u - v = w) (h : Mw d b y (i + 1) ls (pI w :: r) K I R Q) : Mw d b y i ls (pI v :: pI u :: r) K I R Q := wp_in ⟨_, _, _, _, hi, Or.inl (show stA Mw 7 a c z d b y i ls (pI v :: pI u :: r) K I R Q from ⟨u, v, r, rfl, by subst hw; exact h⟩)⟩
theorem mw_imul (hi : pg_at y i = some (8, a, c, z)) {u v w : Int32} (hw : u * v = w) (h : Mw d b y (i + 1) ls (pI w :: r) K I R Q) : Mw d b y i ls (pI v :: pI u :: r) K I R Q := wp_in ⟨_, _, _, _, hi, Or.inl (show stA Mw 8 a c z d b y i ls (pI v :: pI u :: r) K I R Q from ⟨u, v, r, rfl, by subst hw; exact h⟩)⟩
theorem mw_iand (hi : pg_at y i = some (12, a, c, z)) {u v w : Int32} (hw : u &&& v = w) (h : Mw d b y (i + 1) ls (pI w :: r) K I R Q) : Mw d b y i ls (pI v :: pI u :: r) K I R Q := wp_in ⟨_, _, _, _, hi, Or.inl (show stA Mw 12 a c z d b y i ls (pI v :: pI u :: r) K I R Q from ⟨u, v, r, rfl, by subst hw; exact h⟩)⟩
theorem mw_ior (hi : pg_at y i = some (54, a, c, z)) {u v w : Int32} (hw : u ||| v = w) (h : Mw d b y (i + 1) ls (pI w :: r) K I R Q) : Mw d b y i ls (pI v :: pI u :: r) K I R Q := wp_in ⟨_, _, _, _, hi, Or.inl (show stA Mw 54 a c z d b y i ls (pI v :: pI u :: r) K I R Q from ⟨u, v, r, rfl, by subst hw; exact h⟩)⟩
theorem mw_ixor (hi : pg_at y i = some (55, a, c, z)) {u v w : Int32} (hw : u ^^^ v = w) (h : Mw d b y (i + 1) ls (pI w :: r) K I R Q) : Mw d b y i ls (pI v :: pI u :: r) K I R Q := wp_in ⟨_, _, _, _, hi, Or.inl (show stA Mw 55 a c z d b y i ls (pI v :: pI u :: r) K I R Q from ⟨u, v, r, rfl, by subst hw; exact h⟩)⟩
theorem mw_ishl (hi : pg_at y i = some (56, a, c, z)) {u v w : Int32} (hw : u <<< (v &&& 31) = w) (h : Mw d b y (i + 1) ls (pI w :: r) K I R Q) : Mw d b y i ls (pI v :: pI u :: r) K I R Q := wp_in ⟨_, _, _, _, hi, Or.inl (show stA Mw 56 a c z d b y i ls (pI v :: pI u :: r) K I R Q from ⟨u, v, r, rfl, by subst hw; exact h⟩)⟩
theorem mw_ishr (hi : pg_at y i = some (57, a, c, z)) {u v w : Int32} (hw : u >>> (v &&& 31) = w) (h : Mw d b y (i + 1) ls (pI w :: r) K I R Q) : Mw d b y i ls (pI v :: pI u :: r) K I R Q := wp_in ⟨_, _, _, _, hi, Or.inl (show stA Mw 57 a c z d b y i ls (pI v :: pI u :: r) K I R Q from ⟨u, v, r, rfl, by subst hw; exact h⟩)⟩
theorem mw_idiv (hi : pg_at y i = some (9, a, c, z)) {u v w : Int32} (hne : ¬ v = 0) (hw : u / v = w) (h : Mw d b y (i + 1) ls (pI w :: r) K I R Q) : Mw d b y i ls (pI v :: pI u :: r) K I R Q := wp_in ⟨_, _, _, _, hi, Or.inl (show stA Mw 9 a c z d b y i ls (pI v :: pI u :: r) K I R Q from ⟨u, v, r, rfl, hne, by subst hw; exact h⟩)⟩
theorem mw_irem (hi : pg_at y i = some (10, a, c, z)) {u v w : Int32} (hne : ¬ v = 0) (hw : u - u / v * v = w) (h : Mw d b y (i + 1) ls (pI w :: r) K I R Q) : Mw d b y i ls (pI v :: pI u :: r) K I R Q := wp_in ⟨_, _, _, _, hi, Or.inl (show stA Mw 10 a c z d b y i ls (pI v :: pI u :: r) K I R Q from ⟨u, v, r, rfl, hne, by subst hw; exact h⟩)⟩
theorem mw_ineg (hi : pg_at y i = some (11, a, c, z)) {u w : Int32} (hw : -u = w) (h : Mw d b y (i + 1) ls (pI w :: r) K I R Q) : Mw d b y i ls (pI u :: r) K I R Q := wp_in ⟨_, _, _, _, hi, Or.inl (show stA Mw 11 a c z d b y i ls (pI u :: r) K I R Q from ⟨u, r, rfl, by subst hw; exact h⟩)⟩
theorem mw_dup (hi : pg_at y i = some (13, a, c, z)) {v : PV} (hc : isC1 v) (h : Mw d b y (i + 1) ls (v :: v :: r) K I R Q) : Mw d b y i ls (v :: r) K I R Q := wp_in ⟨_, _, _, _, hi, Or.inl (show stA Mw 13 a c z d b y i ls (v :: r) K I R Q from ⟨v, r, rfl, hc, h⟩)⟩
theorem mw_dup2 (hi : pg_at y i = some (14, a, c, z)) {v w : PV} (hc : isC1 v) (hc2 : isC1 w) (h : Mw d b y (i + 1) ls (v :: w :: v :: w :: r) K I R Q) : Mw d b y i ls (v :: w :: r) K I R Q := wp_in ⟨_, _, _, _, hi, Or.inl (show stA Mw 14 a c z d b y i ls (v :: w :: r) K I R Q from ⟨v, w, r, rfl, hc, hc2, h⟩)⟩
theorem mw_pop (hi : pg_at y i = some (15, a, c, z)) {v : PV} (hc : isC1 v) (h : Mw d b y (i + 1) ls (r) K I R Q) : Mw d b y i ls (v :: r) K I R Q := wp_in ⟨_, _, _, _, hi, Or.inl (show stA Mw 15 a c z d b y i ls (v :: r) K I R Q from ⟨v, r, rfl, hc, h⟩)⟩
theorem mw_goto (hi : pg_at y i = some (16, a, c, z)) (h : Mw d b y a ls st K I R Q) : Mw d b y i ls (st) K I R Q := wp_in ⟨_, _, _, _, hi, Or.inl (show stA Mw 16 a c z d b y i ls (st) K I R Q from h)⟩
theorem mw_if (hi : pg_at y i = some (17, a, c, z)) {x : Int32} {p : Prop} (hp : cmpc c x 0 ↔ p) (ht : p → Mw d b y a ls r K I R Q) (hf : ¬ p → Mw d b y (i + 1) ls (r) K I R Q) : Mw d b y i ls (pI x :: r) K I R Q := wp_in ⟨_, _, _, _, hi, Or.inl (show stA Mw 17 a c z d b y i ls (pI x :: r) K I R Q from ⟨x, r, rfl, fun q => ht (hp.mp q), fun q => hf (fun q2 => q (hp.mpr q2))⟩)⟩
theorem mw_ic (hi : pg_at y i = some (18, a, c, z)) {u v : Int32} {p : Prop} (hp : cmpc c u v ↔ p) (ht : p → Mw d b y a ls r K I R Q) (hf : ¬ p → Mw d b y (i + 1) ls (r) K I R Q) : Mw d b y i ls (pI v :: pI u :: r) K I R Q := wp_in ⟨_, _, _, _, hi, Or.inl (show stA Mw 18 a c z d b y i ls (pI v :: pI u :: r) K I R Q from ⟨u, v, r, rfl, fun q => ht (hp.mp q), fun q => hf (fun q2 => q (hp.mpr q2))⟩)⟩
theorem mw_ifT (hi : pg_at y i = some (17, a, c, z)) {x : Int32} (hp : cmpc c x 0) (h : Mw d b y a ls r K I R Q) : Mw d b y i ls (pI x :: r) K I R Q := wp_in ⟨_, _, _, _, hi, Or.inl (show stA Mw 17 a c z d b y i ls (pI x :: r) K I R Q from ⟨x, r, rfl, fun _ => h, fun q => absurd hp q⟩)⟩
theorem mw_ifF (hi : pg_at y i = some (17, a, c, z)) {x : Int32} (hp : ¬ cmpc c x 0) (h : Mw d b y (i + 1) ls (r) K I R Q) : Mw d b y i ls (pI x :: r) K I R Q := wp_in ⟨_, _, _, _, hi, Or.inl (show stA Mw 17 a c z d b y i ls (pI x :: r) K I R Q from ⟨x, r, rfl, fun q => absurd q hp, fun _ => h⟩)⟩
theorem mw_icT (hi : pg_at y i = some (18, a, c, z)) {u v : Int32} (hp : cmpc c u v) (h : Mw d b y a ls r K I R Q) : Mw d b y i ls (pI v :: pI u :: r) K I R Q := wp_in ⟨_, _, _, _, hi, Or.inl (show stA Mw 18 a c z d b y i ls (pI v :: pI u :: r) K I R Q from ⟨u, v, r, rfl, fun _ => h, fun q => absurd hp q⟩)⟩
theorem mw_icF (hi : pg_at y i = some (18, a, c, z)) {u v : Int32} (hp : ¬ cmpc c u v) (h : Mw d b y (i + 1) ls (r) K I R Q) : Mw d b y i ls (pI v :: pI u :: r) K I R Q := wp_in ⟨_, _, _, _, hi, Or.inl (show stA Mw 18 a c z d b y i ls (pI v :: pI u :: r) K I R Q from ⟨u, v, r, rfl, fun q => absurd q hp, fun _ => h⟩)⟩
theorem mw_eqB (hi : pg_at y i = some (17, a, c, z)) {p : Prop} (hz : c = 0) (ht : ¬ p → Mw d b y a ls r K I R Q) (hf : p → Mw d b y (i + 1) ls (r) K I R Q) : Mw d b y i ls (pI (bI p) :: r) K I R Q := wp_in ⟨_, _, _, _, hi, Or.inl (show stA Mw 17 a c z d b y i ls (pI (bI p) :: r) K I R Q from ⟨bI p, r, rfl, fun q => ht (bI_0.mp (by subst hz; exact q)), fun q => hf (bI_n0.mp (by subst hz; exact q))⟩)⟩
theorem mw_neB (hi : pg_at y i = some (17, a, c, z)) {p : Prop} (hz : c = 1) (ht : p → Mw d b y a ls r K I R Q) (hf : ¬ p → Mw d b y (i + 1) ls (r) K I R Q) : Mw d b y i ls (pI (bI p) :: r) K I R Q := wp_in ⟨_, _, _, _, hi, Or.inl (show stA Mw 17 a c z d b y i ls (pI (bI p) :: r) K I R Q from ⟨bI p, r, rfl, fun q => ht (bI_n0.mp (by subst hz; exact q)), fun q => hf (by subst hz; exact fun w => q (bI_n0.mpr w))⟩)⟩
theorem mw_nn (hi : pg_at y i = some (19, a, c, z)) {L : Lb} (h : Mw d b y a ls r K I R Q) : Mw d b y i ls (pR (some L) :: r) K I R Q := wp_in ⟨_, _, _, _, hi, Or.inl (show stA Mw 19 a c z d b y i ls (pR (some L) :: r) K I R Q from ⟨_, r, rfl, fun _ => h, fun q => nomatch q⟩)⟩
theorem mw_nl (hi : pg_at y i = some (19, a, c, z)) (h : Mw d b y (i + 1) ls (r) K I R Q) : Mw d b y i ls (pR none :: r) K I R Q := wp_in ⟨_, _, _, _, hi, Or.inl (show stA Mw 19 a c z d b y i ls (pR none :: r) K I R Q from ⟨_, r, rfl, fun q => absurd rfl q, fun _ => h⟩)⟩
theorem mw_sw (hi : pg_at y i = some (20, a, c, z)) {x : Int32} (hin : ∀ (k : Nat) (t : Nat), (pg_sw.getD a (0, 0, 0, [])).2.2.2[k]? = some t → x.toInt = (pg_sw.getD a (0, 0, 0, [])).1 + k → Mw d b y t ls r K I R Q) (hout : (x.toInt < (pg_sw.getD a (0, 0, 0, [])).1 ∨ (pg_sw.getD a (0, 0, 0, [])).2.1 < x.toInt) → Mw d b y (pg_sw.getD a (0, 0, 0, [])).2.2.1 ls r K I R Q) : Mw d b y i ls (pI x :: r) K I R Q := wp_in ⟨_, _, _, _, hi, Or.inl (show stA Mw 20 a c z d b y i ls (pI x :: r) K I R Q from ⟨x, r, rfl, hin, hout⟩)⟩
theorem mw_i2l (hi : pg_at y i = some (21, a, c, z)) {x : Int32} (h : Mw d b y (i + 1) ls (pL x :: r) K I R Q) : Mw d b y i ls (pI x :: r) K I R Q := wp_in ⟨_, _, _, _, hi, Or.inl (show stA Mw 21 a c z d b y i ls (pI x :: r) K I R Q from ⟨x, r, rfl, h⟩)⟩
theorem mw_lcmp (hi : pg_at y i = some (22, a, c, z)) {u v : Int32} (h : ∀ x : Int32, (x = 0 ↔ u = v) → Mw d b y (i + 1) ls (pI x :: r) K I R Q) : Mw d b y i ls (pL v :: pL u :: r) K I R Q := wp_in ⟨_, _, _, _, hi, Or.inl (show stA Mw 22 a c z d b y i ls (pL v :: pL u :: r) K I R Q from ⟨u, v, r, rfl, h⟩)⟩
theorem mw_lconst (hi : pg_at y i = some (23, a, c, z)) {v : Int32} (hz : z = 0 ∨ z = 1) (hv : Int32.ofInt z = v) (h : Mw d b y (i + 1) ls (pL v :: st) K I R Q) : Mw d b y i ls (st) K I R Q := wp_in ⟨_, _, _, _, hi, Or.inl (show stA Mw 23 a c z d b y i ls (st) K I R Q from ⟨hz, by subst hv; exact h⟩)⟩
theorem mw_lald (hi : pg_at y i = some (24, a, c, z)) {L : Lb} {jn n : Nat} (hlt : jn < n) (hn : n < 2147483648) (hK : K L = some (13, n)) {v : Int32} (hv : I L jn = v) (h : Mw d b y (i + 1) ls (pL v :: r) K I R Q) : Mw d b y i ls (pI (nI jn) :: pR (some L) :: r) K I R Q := wp_in ⟨_, _, _, _, hi, Or.inr (Or.inl (show stB Mw 24 a c z d b y i ls (pI (nI jn) :: pR (some L) :: r) K I R Q from ⟨_, L, r, n, rfl, hK, vp_in_nI hlt hn, by rw [nI_clamp (Nat.lt_trans hlt hn), hv]; exact h⟩))⟩
theorem mw_last (hi : pg_at y i = some (25, a, c, z)) {L : Lb} {jn n : Nat} (hlt : jn < n) (hn : n < 2147483648) {x : Int32} (hK : K L = some (13, n)) (hI : up2 I L jn x = I') (h : Mw d b y (i + 1) ls r K I' R Q) : Mw d b y i ls (pL x :: pI (nI jn) :: pR (some L) :: r) K I R Q := wp_in ⟨_, _, _, _, hi, Or.inr (Or.inl (show stB Mw 25 a c z d b y i ls (pL x :: pI (nI jn) :: pR (some L) :: r) K I R Q from ⟨x, _, L, r, n, rfl, hK, vp_in_nI hlt hn, by rw [nI_clamp (Nat.lt_trans hlt hn), hI]; exact h⟩))⟩
theorem mw_alen (hi : pg_at y i = some (26, a, c, z)) {L : Lb} {k n : Nat} (hK : K L = some (k, n)) (hk : k = 7 ∨ k = 14) (h : Mw d b y (i + 1) ls (pI (nI n) :: r) K I R Q) : Mw d b y i ls (pR (some L) :: r) K I R Q := wp_in ⟨_, _, _, _, hi, Or.inr (Or.inl (show stB Mw 26 a c z d b y i ls (pR (some L) :: r) K I R Q from ⟨L, r, k, n, rfl, hK, hk, h⟩))⟩
theorem mw_iald (hi : pg_at y i = some (27, a, c, z)) {L : Lb} {jn n : Nat} (hlt : jn < n) (hn : n < 2147483648) {k : Nat} (hK : K L = some (k, n)) (hk : k = 7 ∨ k = 14) {v : Int32} (hv : I L jn = v) (h : Mw d b y (i + 1) ls (pI v :: r) K I R Q) : Mw d b y i ls (pI (nI jn) :: pR (some L) :: r) K I R Q := wp_in ⟨_, _, _, _, hi, Or.inr (Or.inl (show stB Mw 27 a c z d b y i ls (pI (nI jn) :: pR (some L) :: r) K I R Q from ⟨_, L, r, k, n, rfl, hK, hk, vp_in_nI hlt hn, by rw [nI_clamp (Nat.lt_trans hlt hn), hv]; exact h⟩))⟩
theorem mw_iast (hi : pg_at y i = some (28, a, c, z)) {L : Lb} {jn n : Nat} (hlt : jn < n) (hn : n < 2147483648) {x : Int32} (hK : K L = some (7, n)) (hI : up2 I L jn x = I') (h : Mw d b y (i + 1) ls r K I' R Q) : Mw d b y i ls (pI x :: pI (nI jn) :: pR (some L) :: r) K I R Q := wp_in ⟨_, _, _, _, hi, Or.inr (Or.inl (show stB Mw 28 a c z d b y i ls (pI x :: pI (nI jn) :: pR (some L) :: r) K I R Q from ⟨x, _, L, r, n, rfl, hK, vp_in_nI hlt hn, by rw [nI_clamp (Nat.lt_trans hlt hn), hI]; exact h⟩))⟩
theorem mw_bald (hi : pg_at y i = some (29, a, c, z)) {L : Lb} {jn n : Nat} (hlt : jn < n) (hn : n < 2147483648) (hK : K L = some (8, n)) {v : Int32} (hv : I L jn = v) (h : Mw d b y (i + 1) ls (pI v :: r) K I R Q) : Mw d b y i ls (pI (nI jn) :: pR (some L) :: r) K I R Q := wp_in ⟨_, _, _, _, hi, Or.inr (Or.inl (show stB Mw 29 a c z d b y i ls (pI (nI jn) :: pR (some L) :: r) K I R Q from ⟨_, L, r, n, rfl, hK, vp_in_nI hlt hn, by rw [nI_clamp (Nat.lt_trans hlt hn), hv]; exact h⟩))⟩
theorem mw_bast (hi : pg_at y i = some (30, a, c, z)) {L : Lb} {jn n : Nat} (hlt : jn < n) (hn : n < 2147483648) {x : Int32} (hK : K L = some (8, n)) (h01 : x = 0 ∨ x = 1) (hI : up2 I L jn x = I') (h : Mw d b y (i + 1) ls r K I' R Q) : Mw d b y i ls (pI x :: pI (nI jn) :: pR (some L) :: r) K I R Q := wp_in ⟨_, _, _, _, hi, Or.inr (Or.inl (show stB Mw 30 a c z d b y i ls (pI x :: pI (nI jn) :: pR (some L) :: r) K I R Q from ⟨x, _, L, r, n, rfl, hK, vp_in_nI hlt hn, h01, by rw [nI_clamp (Nat.lt_trans hlt hn), hI]; exact h⟩))⟩
theorem mw_aald (hi : pg_at y i = some (31, a, c, z)) {L : Lb} {jn n : Nat} (hlt : jn < n) (hn : n < 2147483648) {k : Nat} (hK : K L = some (k, n)) (hk : 9 ≤ k ∧ k ≤ 12) {q : Option Lb} (hv : R L jn = q) (h : Mw d b y (i + 1) ls (pR q :: r) K I R Q) : Mw d b y i ls (pI (nI jn) :: pR (some L) :: r) K I R Q := wp_in ⟨_, _, _, _, hi, Or.inr (Or.inl (show stB Mw 31 a c z d b y i ls (pI (nI jn) :: pR (some L) :: r) K I R Q from ⟨_, L, r, k, n, rfl, hK, hk, vp_in_nI hlt hn, by rw [nI_clamp (Nat.lt_trans hlt hn), hv]; exact h⟩))⟩
theorem mw_aast (hi : pg_at y i = some (32, a, c, z)) {L : Lb} {jn n : Nat} (hlt : jn < n) (hn : n < 2147483648) {k n' : Nat} {L' : Lb} (hK : K L = some (k, n)) (hk : 9 ≤ k ∧ k ≤ 12) (hK' : K L' = some (elc k, n')) (hR : up2R R L jn (some L') = R') (h : Mw d b y (i + 1) ls r K I R' Q) : Mw d b y i ls (pR (some L') :: pI (nI jn) :: pR (some L) :: r) K I R Q := wp_in ⟨_, _, _, _, hi, Or.inr (Or.inl (show stB Mw 32 a c z d b y i ls (pR (some L') :: pI (nI jn) :: pR (some L) :: r) K I R Q from ⟨L', _, L, r, k, n, n', rfl, hK, hk, hK', vp_in_nI hlt hn, by rw [nI_clamp (Nat.lt_trans hlt hn), hR]; exact h⟩))⟩
theorem mw_get (hi : pg_at y i = some (33, a, c, z)) {L : Lb} {n : Nat} (hK : K L = some (a, n)) {v : Int32} (hv : I L c = v) (h : Mw d b y (i + 1) ls (pI v :: r) K I R Q) : Mw d b y i ls (pR (some L) :: r) K I R Q := wp_in ⟨_, _, _, _, hi, Or.inr (Or.inl (show stB Mw 33 a c z d b y i ls (pR (some L) :: r) K I R Q from ⟨L, r, n, rfl, hK, by rw [hv]; exact h⟩))⟩
theorem mw_getN (hi : pg_at y i = some (48, a, c, z)) {L : Lb} {n : Nat} (hK : K L = some (a, n)) {v : Int32} (hv : I L c = v) (h : Mw d b y (i + 1) ls (pI v :: r) K I R Q) : Mw d b y i ls (pR (some L) :: r) K I R Q := wp_in ⟨_, _, _, _, hi, Or.inr (Or.inl (show stB Mw 48 a c z d b y i ls (pR (some L) :: r) K I R Q from ⟨L, r, n, rfl, hK, by rw [hv]; exact h⟩))⟩
theorem mw_getR (hi : pg_at y i = some (34, a, c, z)) {L : Lb} {n : Nat} (hK : K L = some (a, n)) {q : Option Lb} (hv : R L c = q) (h : Mw d b y (i + 1) ls (pR q :: r) K I R Q) : Mw d b y i ls (pR (some L) :: r) K I R Q := wp_in ⟨_, _, _, _, hi, Or.inr (Or.inl (show stB Mw 34 a c z d b y i ls (pR (some L) :: r) K I R Q from ⟨L, r, n, rfl, hK, by rw [hv]; exact h⟩))⟩
theorem mw_put (hi : pg_at y i = some (35, a, c, z)) {L : Lb} {n : Nat} {x : Int32} (hK : K L = some (a, n)) (hI : up2 I L c x = I') (h : Mw d b y (i + 1) ls r K I' R Q) : Mw d b y i ls (pI x :: pR (some L) :: r) K I R Q := wp_in ⟨_, _, _, _, hi, Or.inr (Or.inl (show stB Mw 35 a c z d b y i ls (pI x :: pR (some L) :: r) K I R Q from ⟨x, L, r, n, rfl, hK, by rw [hI]; exact h⟩))⟩
theorem mw_putB (hi : pg_at y i = some (50, a, c, z)) {L : Lb} {n : Nat} {x : Int32} (hK : K L = some (a, n)) (h01 : x = 0 ∨ x = 1) (hI : up2 I L c x = I') (h : Mw d b y (i + 1) ls r K I' R Q) : Mw d b y i ls (pI x :: pR (some L) :: r) K I R Q := wp_in ⟨_, _, _, _, hi, Or.inr (Or.inl (show stB Mw 50 a c z d b y i ls (pI x :: pR (some L) :: r) K I R Q from ⟨x, L, r, n, rfl, hK, h01, by rw [hI]; exact h⟩))⟩
theorem mw_putR (hi : pg_at y i = some (36, a, c, z)) {L q : Lb} {n : Nat} (hK : K L = some (a, n)) (hR : up2R R L c (some q) = R') (h : Mw d b y (i + 1) ls r K I R' Q) : Mw d b y i ls (pR (some q) :: pR (some L) :: r) K I R Q := wp_in ⟨_, _, _, _, hi, Or.inr (Or.inl (show stB Mw 36 a c z d b y i ls (pR (some q) :: pR (some L) :: r) K I R Q from ⟨q, L, r, n, rfl, hK, by rw [hR]; exact h⟩))⟩
theorem mw_new (hi : pg_at y i = some (37, a, c, z)) (L : Lb) {b' : Nat} (hL : K L = none) (hb : b = b' + (1 + nfl a)) {K' : KM} {I' : IM} {R' : RM} (hK' : setK K L (a, 0) = K') (hI' : setI I L (fun _ => 0) = I') (hR' : setR R L (fun _ => none) = R') (h : Mw d b' y (i + 1) ls (pR (some L) :: st) K' I' R' Q) : Mw d b y i ls (st) K I R Q := wp_in ⟨_, _, _, _, hi, Or.inr (Or.inr (show stC Mw 37 a c z d b y i ls (st) K I R Q from ⟨L, b', hL, hb, by subst hK'; subst hI'; subst hR'; exact h⟩))⟩
theorem mw_newa (hi : pg_at y i = some (38, a, c, z)) (L : Lb) {b' n : Nat} (hL : K L = none) (hn : n < 1000000) (hb : b = b' + (1 + n)) {K' : KM} {I' : IM} {R' : RM} (hK' : setK K L (a, n) = K') (hI' : setI I L (fun _ => 0) = I') (hR' : setR R L (fun _ => none) = R') (h : Mw d b' y (i + 1) ls (pR (some L) :: r) K' I' R' Q) : Mw d b y i ls (pI (nI n) :: r) K I R Q := wp_in ⟨_, _, _, _, hi, Or.inr (Or.inr (show stC Mw 38 a c z d b y i ls (pI (nI n) :: r) K I R Q from ⟨L, n, r, b', rfl, hL, hn, hb, by subst hK'; subst hI'; subst hR'; exact h⟩))⟩
theorem mw_newq (hi : pg_at y i = some (39, a, c, z)) (L : Lb) {b' n : Nat} (hL : K L = none) (hn : n < 1000000) (hb : b = b' + (1 + n)) {K' : KM} {I' : IM} {R' : RM} (hK' : setK K L (a, n) = K') (hI' : setI I L (fun _ => 0) = I') (hR' : setR R L (fun _ => none) = R') (h : Mw d b' y (i + 1) ls (pR (some L) :: r) K' I' R' Q) : Mw d b y i ls (pI (nI n) :: r) K I R Q := wp_in ⟨_, _, _, _, hi, Or.inr (Or.inr (show stC Mw 39 a c z d b y i ls (pI (nI n) :: r) K I R Q from ⟨L, n, r, b', rfl, hL, hn, hb, by subst hK'; subst hI'; subst hR'; exact h⟩))⟩
theorem mw_callS (hi : pg_at y i = some (40, a, c, z)) {n0 m0 q0 k0 : Nat} (hm : pg_na a = n0 ∧ pg_ml a = m0 ∧ pg_cst a = q0 ∧ pg_cl a = k0) {as rest : List PV} {d' b' : Nat} {ls0 : List (Option PV)} (hst : st = as.reverse ++ rest) (hn : as.length = n0) (hc : as.all c1b = true) (hr : rest.length ≤ 4) (hd : d = d' + 1) (hb : b = b' + q0) (he : as.map some ++ List.replicate (m0 - as.length) none = ls0) (h : Mw d' q0 a 0 ls0 [] K I R (aft Mw d b' y i ls rest Q)) : Mw d b y i ls (st) K I R Q := wp_in ⟨_, _, _, _, hi, Or.inr (Or.inr (show stC Mw 40 a c z d b y i ls (st) K I R Q from ⟨as, rest, d', b', _, hst, hn.trans hm.1.symm, c1_all hc, Or.inl hr, hd, by rw [hm.2.2.1]; exact hb, by unfold entls; rw [hm.2.1, hm.2.2.1, he]; exact h, fun _ _ _ _ q => q⟩))⟩
theorem mw_callSW (hi : pg_at y i = some (40, a, c, z)) {n0 m0 q0 k0 : Nat} (hm : pg_na a = n0 ∧ pg_ml a = m0 ∧ pg_cst a = q0 ∧ pg_cl a = k0) {as rest : List PV} {d' b' : Nat} {ls0 : List (Option PV)} (hst : st = as.reverse ++ rest) (hn : as.length = n0) (hc : as.all c1b = true) (hr : rest.length ≤ 8) (hrc : rest.all c1b = true) (hd : d = d' + 1) (hb : b = b' + q0) (he : as.map some ++ List.replicate (m0 - as.length) none = ls0) (h : Mw d' q0 a 0 ls0 [] K I R (aft Mw d b' y i ls rest Q)) : Mw d b y i ls (st) K I R Q := wp_in ⟨_, _, _, _, hi, Or.inr (Or.inr (show stC Mw 40 a c z d b y i ls (st) K I R Q from ⟨as, rest, d', b', _, hst, hn.trans hm.1.symm, c1_all hc, Or.inr ⟨hr, c1_all hrc⟩, hd, by rw [hm.2.2.1]; exact hb, by unfold entls; rw [hm.2.1, hm.2.2.1, he]; exact h, fun _ _ _ _ q => q⟩))⟩
theorem mw_callV (hi : pg_at y i = some (41, a, c, z)) {n0 m0 q0 k0 : Nat} (hm : pg_na a = n0 ∧ pg_ml a = m0 ∧ pg_cst a = q0 ∧ pg_cl a = k0) {L : Lb} {as rest : List PV} {d' b' n : Nat} {ls0 : List (Option PV)} (hst : st = as.reverse ++ pR (some L) :: rest) (hn : as.length + 1 = n0) (hc : as.all c1b = true) (hr : rest.length ≤ 4) (hK : K L = some (k0, n)) (hd : d = d' + 1) (hb : b = b' + q0) (he : some (pR (some L)) :: as.map some ++ List.replicate (m0 - (as.length + 1)) none = ls0) (h : Mw d' q0 a 0 ls0 [] K I R (aft Mw d b' y i ls rest Q)) : Mw d b y i ls (st) K I R Q := wp_in ⟨_, _, _, _, hi, Or.inr (Or.inr (show stC Mw 41 a c z d b y i ls (st) K I R Q from ⟨L, as, rest, d', b', n, _, hst, hn.trans hm.1.symm, c1_all hc, hr, by rw [hm.2.2.2]; exact hK, hd, by rw [hm.2.2.1]; exact hb, by unfold entls; rw [hm.2.1, hm.2.2.1]; rw [← he] at h; exact h, fun _ _ _ _ q => q⟩))⟩
theorem mw_callI (hi : pg_at y i = some (42, a, c, z)) {n0 m0 q0 k0 : Nat} (hm : pg_na a = n0 ∧ pg_ml a = m0 ∧ pg_cst a = q0 ∧ pg_cl a = k0) {L : Lb} {as rest : List PV} {d' b' n : Nat} {ls0 : List (Option PV)} (hst : st = as.reverse ++ pR (some L) :: rest) (hn : as.length + 1 = n0) (hc : as.all c1b = true) (hr : rest.length ≤ 4) (hK : K L = some (k0, n)) (hd : d = d' + 1) (hb : b = b' + q0) (he : some (pR (some L)) :: as.map some ++ List.replicate (m0 - (as.length + 1)) none = ls0) (h : Mw d' q0 a 0 ls0 [] K I R (fun r9 K9 I9 R9 => (∃ v, r9 = .inl v) ∧ aft Mw d b' y i ls rest Q r9 K9 I9 R9)) : Mw d b y i ls (st) K I R Q := wp_in ⟨_, _, _, _, hi, Or.inr (Or.inr (show stC Mw 42 a c z d b y i ls (st) K I R Q from ⟨L, as, rest, d', b', n, _, hst, hn.trans hm.1.symm, c1_all hc, hr, by rw [hm.2.2.2]; exact hK, hd, by rw [hm.2.2.1]; exact hb, by unfold entls; rw [hm.2.1, hm.2.2.1]; rw [← he] at h; exact h, fun _ _ _ _ q => q⟩))⟩
theorem mw_obj (hi : pg_at y i = some (43, a, c, z)) {L : Lb} (hr : r.length ≤ 4) (hd : 1 ≤ d) (h : Mw d b y (i + 1) ls (r) K I R Q) : Mw d b y i ls (pR (some L) :: r) K I R Q := wp_in ⟨_, _, _, _, hi, Or.inr (Or.inr (show stC Mw 43 a c z d b y i ls (pR (some L) :: r) K I R Q from ⟨L, r, rfl, hr, hd, h⟩))⟩
theorem mw_throw (hi : pg_at y i = some (44, a, c, z)) (hx : pg_hx y = []) (hd : 6 ≤ d) (hb : 7 ≤ b) (h : Q (.inr a) K I R) : Mw d b y i ls ([]) K I R Q := wp_in ⟨_, _, _, _, hi, Or.inr (Or.inr (show stC Mw 44 a c z d b y i ls ([]) K I R Q from ⟨rfl, hx, hd, hb, h⟩))⟩
theorem mw_iret (hi : pg_at y i = some (45, a, c, z)) {x : Int32} (h01 : pg_rt y = some .boolean → x = 0 ∨ x = 1) (h : Q (.inl (some (pI x))) K I R) : Mw d b y i ls ([pI x]) K I R Q := wp_in ⟨_, _, _, _, hi, Or.inr (Or.inr (show stC Mw 45 a c z d b y i ls ([pI x]) K I R Q from ⟨x, rfl, h01, h⟩))⟩
theorem mw_iretI (hi : pg_at y i = some (45, a, c, z)) {x : Int32} (hrt : pg_rt y ≠ some .boolean) (h : Q (.inl (some (pI x))) K I R) : Mw d b y i ls ([pI x]) K I R Q := wp_in ⟨_, _, _, _, hi, Or.inr (Or.inr (show stC Mw 45 a c z d b y i ls ([pI x]) K I R Q from ⟨x, rfl, fun q => absurd q hrt, h⟩))⟩
theorem mw_iretB (hi : pg_at y i = some (45, a, c, z)) {p : Prop} (h : Q (.inl (some (pI (bI p)))) K I R) : Mw d b y i ls ([pI (bI p)]) K I R Q := wp_in ⟨_, _, _, _, hi, Or.inr (Or.inr (show stC Mw 45 a c z d b y i ls ([pI (bI p)]) K I R Q from ⟨bI p, rfl, fun _ => bI_01 p, h⟩))⟩
theorem mw_aret (hi : pg_at y i = some (46, a, c, z)) {L : Lb} (h : Q (.inl (some (pR (some L)))) K I R) : Mw d b y i ls ([pR (some L)]) K I R Q := wp_in ⟨_, _, _, _, hi, Or.inr (Or.inr (show stC Mw 46 a c z d b y i ls ([pR (some L)]) K I R Q from ⟨L, rfl, h⟩))⟩
theorem mw_ret (hi : pg_at y i = some (47, a, c, z)) (h : Q (.inl none) K I R) : Mw d b y i ls ([]) K I R Q := wp_in ⟨_, _, _, _, hi, Or.inr (Or.inr (show stC Mw 47 a c z d b y i ls ([]) K I R Q from ⟨rfl, h⟩))⟩
theorem mw_max (hi : pg_at y i = some (51, a, c, z)) {u v w : Int32} (hr : r.length ≤ 4) (hd : 1 ≤ d) (hw : (if u < v then v else u) = w) (h : Mw d b y (i + 1) ls (pI w :: r) K I R Q) : Mw d b y i ls (pI v :: pI u :: r) K I R Q := wp_in ⟨_, _, _, _, hi, Or.inr (Or.inr (show stC Mw 51 a c z d b y i ls (pI v :: pI u :: r) K I R Q from ⟨u, v, r, rfl, hr, hd, by subst hw; exact h⟩))⟩
theorem mw_min (hi : pg_at y i = some (52, a, c, z)) {u v w : Int32} (hr : r.length ≤ 4) (hd : 1 ≤ d) (hw : (if v < u then v else u) = w) (h : Mw d b y (i + 1) ls (pI w :: r) K I R Q) : Mw d b y i ls (pI v :: pI u :: r) K I R Q := wp_in ⟨_, _, _, _, hi, Or.inr (Or.inr (show stC Mw 52 a c z d b y i ls (pI v :: pI u :: r) K I R Q from ⟨u, v, r, rfl, hr, hd, by subst hw; exact h⟩))⟩
theorem mw_abs (hi : pg_at y i = some (53, a, c, z)) {u w : Int32} (hr : r.length ≤ 4) (hd : 1 ≤ d) (hw : (if 0 ≤ u then u else 0 - u) = w) (h : Mw d b y (i + 1) ls (pI w :: r) K I R Q) : Mw d b y i ls (pI u :: r) K I R Q := wp_in ⟨_, _, _, _, hi, Or.inr (Or.inr (show stC Mw 53 a c z d b y i ls (pI u :: r) K I R Q from ⟨u, r, rfl, hr, hd, by subst hw; exact h⟩))⟩
theorem aft_n {rest : List PV} (h : Mw d b y (i + 1) ls rest K I R Q) : aft Mw d b y i ls rest Q (.inl none) K I R := h
theorem aft_v {rest : List PV} {v : PV} (h : Mw d b y (i + 1) ls (v :: rest) K I R Q) : aft Mw d b y i ls rest Q (.inl (some v)) K I R := h
theorem aft_x {rest : List PV} {e : Nat} (hx : pg_hx y = []) (h : Q (.inr e) K I R) : aft Mw d b y i ls rest Q (.inr e) K I R := by
  unfold aft
  dsimp only
  rw [show hfind y i e = none by unfold hfind; rw [hx]; rfl]
  exact ⟨hx, h⟩
theorem aft_h {rest : List PV} {e t : Nat} (hx : hfind y i e = some t) (h : Mw d b y t ls [pO] K I R Q) : aft Mw d b y i ls rest Q (.inr e) K I R := by
  unfold aft
  dsimp only
  rw [hx]
  exact h
theorem mw_bud {b' : Nat} (h : Mw d b y i ls st K I R Q) (e : b' = b) : Mw d b' y i ls st K I R Q := by subst e; exact h
end MW
end
section
/-! the instructions by name -/
theorem i_0_0 : pg_at 0 0 = some (3, 0, 0, 0) := by decide +kernel
theorem i_0_1 : pg_at 0 1 = some (43, 0, 0, 3) := by decide +kernel
theorem i_0_2 : pg_at 0 2 = some (3, 0, 0, 0) := by decide +kernel
theorem i_0_3 : pg_at 0 3 = some (0, 0, 0, 6) := by decide +kernel
theorem i_0_4 : pg_at 0 4 = some (39, 10, 0, 9) := by decide +kernel
theorem i_0_5 : pg_at 0 5 = some (36, 0, 0, 11) := by decide +kernel
theorem i_0_6 : pg_at 0 6 = some (0, 0, 0, 0) := by decide +kernel
theorem i_0_7 : pg_at 0 7 = some (2, 1, 0, 0) := by decide +kernel
theorem i_0_8 : pg_at 0 8 = some (1, 1, 0, 0) := by decide +kernel
theorem i_0_9 : pg_at 0 9 = some (0, 0, 0, 6) := by decide +kernel
theorem i_0_10 : pg_at 0 10 = some (18, 20, 3, 0) := by decide +kernel
theorem i_0_11 : pg_at 0 11 = some (3, 0, 0, 0) := by decide +kernel
theorem i_0_12 : pg_at 0 12 = some (34, 0, 0, 11) := by decide +kernel
theorem i_0_13 : pg_at 0 13 = some (1, 1, 0, 0) := by decide +kernel
theorem i_0_14 : pg_at 0 14 = some (37, 1, 0, 9) := by decide +kernel
theorem i_0_15 : pg_at 0 15 = some (13, 0, 0, 0) := by decide +kernel
theorem i_0_16 : pg_at 0 16 = some (42, 8, 1, 17) := by decide +kernel
theorem i_0_17 : pg_at 0 17 = some (32, 0, 0, 0) := by decide +kernel
theorem i_0_18 : pg_at 0 18 = some (5, 1, 0, 1) := by decide +kernel
theorem i_0_19 : pg_at 0 19 = some (16, 8, 0, 0) := by decide +kernel
theorem i_0_20 : pg_at 0 20 = some (47, 0, 0, 0) := by decide +kernel
theorem mf_0 : pg_na 0 = 1 ∧ pg_ml 0 = 2 ∧ pg_cst 0 = 49 ∧ pg_cl 0 = 0 := by decide +kernel
theorem hx_0 : pg_hx 0 = [] := by decide +kernel
theorem i_1_0 : pg_at 1 0 = some (1, 1, 0, 0) := by decide +kernel
theorem i_1_1 : pg_at 1 1 = some (17, 8, 2, 0) := by decide +kernel
theorem i_1_2 : pg_at 1 2 = some (1, 1, 0, 0) := by decide +kernel
theorem i_1_3 : pg_at 1 3 = some (3, 0, 0, 0) := by decide +kernel
theorem i_1_4 : pg_at 1 4 = some (33, 0, 2, 18) := by decide +kernel
theorem i_1_5 : pg_at 1 5 = some (18, 8, 3, 0) := by decide +kernel
theorem i_1_6 : pg_at 1 6 = some (0, 0, 0, 1) := by decide +kernel
theorem i_1_7 : pg_at 1 7 = some (16, 9, 0, 0) := by decide +kernel
theorem i_1_8 : pg_at 1 8 = some (0, 0, 0, 0) := by decide +kernel
theorem i_1_9 : pg_at 1 9 = some (45, 0, 0, 0) := by decide +kernel
theorem mf_1 : pg_na 1 = 2 ∧ pg_ml 1 = 2 ∧ pg_cst 1 = 0 ∧ pg_cl 1 = 0 := by decide +kernel
theorem rt_1 : pg_rt 1 = some .boolean := by decide +kernel
theorem hx_1 : pg_hx 1 = [] := by decide +kernel
theorem i_2_0 : pg_at 2 0 = some (3, 0, 0, 0) := by decide +kernel
theorem i_2_1 : pg_at 2 1 = some (33, 0, 3, 22) := by decide +kernel
theorem i_2_2 : pg_at 2 2 = some (17, 13, 1, 0) := by decide +kernel
theorem i_2_3 : pg_at 2 3 = some (3, 0, 0, 0) := by decide +kernel
theorem i_2_4 : pg_at 2 4 = some (33, 0, 2, 18) := by decide +kernel
theorem i_2_5 : pg_at 2 5 = some (0, 0, 0, 6) := by decide +kernel
theorem i_2_6 : pg_at 2 6 = some (18, 13, 3, 0) := by decide +kernel
theorem i_2_7 : pg_at 2 7 = some (3, 0, 0, 0) := by decide +kernel
theorem i_2_8 : pg_at 2 8 = some (41, 5, 0, 26) := by decide +kernel
theorem i_2_9 : pg_at 2 9 = some (1, 2, 0, 0) := by decide +kernel
theorem i_2_10 : pg_at 2 10 = some (6, 0, 0, 0) := by decide +kernel
theorem i_2_11 : pg_at 2 11 = some (0, 0, 0, 120) := by decide +kernel
theorem i_2_12 : pg_at 2 12 = some (18, 15, 5, 0) := by decide +kernel
theorem i_2_13 : pg_at 2 13 = some (0, 0, 0, 0) := by decide +kernel
theorem i_2_14 : pg_at 2 14 = some (45, 0, 0, 0) := by decide +kernel
theorem i_2_15 : pg_at 2 15 = some (3, 0, 0, 0) := by decide +kernel
theorem i_2_16 : pg_at 2 16 = some (33, 0, 2, 18) := by decide +kernel
theorem i_2_17 : pg_at 2 17 = some (17, 22, 0, 0) := by decide +kernel
theorem i_2_18 : pg_at 2 18 = some (3, 0, 0, 0) := by decide +kernel
theorem i_2_19 : pg_at 2 19 = some (33, 0, 1, 30) := by decide +kernel
theorem i_2_20 : pg_at 2 20 = some (1, 1, 0, 0) := by decide +kernel
theorem i_2_21 : pg_at 2 21 = some (18, 24, 1, 0) := by decide +kernel
theorem i_2_22 : pg_at 2 22 = some (0, 0, 0, 1) := by decide +kernel
theorem i_2_23 : pg_at 2 23 = some (16, 25, 0, 0) := by decide +kernel
theorem i_2_24 : pg_at 2 24 = some (0, 0, 0, 0) := by decide +kernel
theorem i_2_25 : pg_at 2 25 = some (45, 0, 0, 0) := by decide +kernel
theorem mf_2 : pg_na 2 = 3 ∧ pg_ml 2 = 3 ∧ pg_cst 2 = 0 ∧ pg_cl 2 = 0 := by decide +kernel
theorem rt_2 : pg_rt 2 = some .boolean := by decide +kernel
theorem hx_2 : pg_hx 2 = [] := by decide +kernel
theorem i_3_0 : pg_at 3 0 = some (0, 0, 0, 0) := by decide +kernel
theorem i_3_1 : pg_at 3 1 = some (2, 2, 0, 0) := by decide +kernel
theorem i_3_2 : pg_at 3 2 = some (1, 2, 0, 0) := by decide +kernel
theorem i_3_3 : pg_at 3 3 = some (3, 0, 0, 0) := by decide +kernel
theorem i_3_4 : pg_at 3 4 = some (33, 0, 2, 18) := by decide +kernel
theorem i_3_5 : pg_at 3 5 = some (18, 24, 3, 0) := by decide +kernel
theorem i_3_6 : pg_at 3 6 = some (3, 0, 0, 0) := by decide +kernel
theorem i_3_7 : pg_at 3 7 = some (34, 0, 0, 11) := by decide +kernel
theorem i_3_8 : pg_at 3 8 = some (1, 2, 0, 0) := by decide +kernel
theorem i_3_9 : pg_at 3 9 = some (31, 0, 0, 0) := by decide +kernel
theorem i_3_10 : pg_at 3 10 = some (33, 1, 0, 33) := by decide +kernel
theorem i_3_11 : pg_at 3 11 = some (1, 1, 0, 0) := by decide +kernel
theorem i_3_12 : pg_at 3 12 = some (18, 20, 0, 0) := by decide +kernel
theorem i_3_13 : pg_at 3 13 = some (3, 0, 0, 0) := by decide +kernel
theorem i_3_14 : pg_at 3 14 = some (34, 0, 0, 11) := by decide +kernel
theorem i_3_15 : pg_at 3 15 = some (1, 2, 0, 0) := by decide +kernel
theorem i_3_16 : pg_at 3 16 = some (31, 0, 0, 0) := by decide +kernel
theorem i_3_17 : pg_at 3 17 = some (33, 1, 1, 36) := by decide +kernel
theorem i_3_18 : pg_at 3 18 = some (1, 1, 0, 0) := by decide +kernel
theorem i_3_19 : pg_at 3 19 = some (18, 22, 1, 0) := by decide +kernel
theorem i_3_20 : pg_at 3 20 = some (0, 0, 0, 1) := by decide +kernel
theorem i_3_21 : pg_at 3 21 = some (45, 0, 0, 0) := by decide +kernel
theorem i_3_22 : pg_at 3 22 = some (5, 2, 0, 1) := by decide +kernel
theorem i_3_23 : pg_at 3 23 = some (16, 2, 0, 0) := by decide +kernel
theorem i_3_24 : pg_at 3 24 = some (0, 0, 0, 0) := by decide +kernel
theorem i_3_25 : pg_at 3 25 = some (45, 0, 0, 0) := by decide +kernel
theorem mf_3 : pg_na 3 = 2 ∧ pg_ml 3 = 3 ∧ pg_cst 3 = 0 ∧ pg_cl 3 = 0 := by decide +kernel
theorem rt_3 : pg_rt 3 = some .boolean := by decide +kernel
theorem hx_3 : pg_hx 3 = [] := by decide +kernel
theorem i_4_0 : pg_at 4 0 = some (0, 0, 0, 0) := by decide +kernel
theorem i_4_1 : pg_at 4 1 = some (2, 2, 0, 0) := by decide +kernel
theorem i_4_2 : pg_at 4 2 = some (1, 2, 0, 0) := by decide +kernel
theorem i_4_3 : pg_at 4 3 = some (3, 0, 0, 0) := by decide +kernel
theorem i_4_4 : pg_at 4 4 = some (33, 0, 2, 18) := by decide +kernel
theorem i_4_5 : pg_at 4 5 = some (18, 20, 3, 0) := by decide +kernel
theorem i_4_6 : pg_at 4 6 = some (1, 1, 0, 0) := by decide +kernel
theorem i_4_7 : pg_at 4 7 = some (0, 0, 0, (-1)) := by decide +kernel
theorem i_4_8 : pg_at 4 8 = some (18, 18, 0, 0) := by decide +kernel
theorem i_4_9 : pg_at 4 9 = some (3, 0, 0, 0) := by decide +kernel
theorem i_4_10 : pg_at 4 10 = some (34, 0, 0, 11) := by decide +kernel
theorem i_4_11 : pg_at 4 11 = some (1, 2, 0, 0) := by decide +kernel
theorem i_4_12 : pg_at 4 12 = some (31, 0, 0, 0) := by decide +kernel
theorem i_4_13 : pg_at 4 13 = some (33, 1, 4, 39) := by decide +kernel
theorem i_4_14 : pg_at 4 14 = some (1, 1, 0, 0) := by decide +kernel
theorem i_4_15 : pg_at 4 15 = some (18, 18, 1, 0) := by decide +kernel
theorem i_4_16 : pg_at 4 16 = some (0, 0, 0, 1) := by decide +kernel
theorem i_4_17 : pg_at 4 17 = some (45, 0, 0, 0) := by decide +kernel
theorem i_4_18 : pg_at 4 18 = some (5, 2, 0, 1) := by decide +kernel
theorem i_4_19 : pg_at 4 19 = some (16, 2, 0, 0) := by decide +kernel
theorem i_4_20 : pg_at 4 20 = some (0, 0, 0, 0) := by decide +kernel
theorem i_4_21 : pg_at 4 21 = some (45, 0, 0, 0) := by decide +kernel
theorem mf_4 : pg_na 4 = 2 ∧ pg_ml 4 = 3 ∧ pg_cst 4 = 0 ∧ pg_cl 4 = 0 := by decide +kernel
theorem rt_4 : pg_rt 4 = some .boolean := by decide +kernel
theorem hx_4 : pg_hx 4 = [] := by decide +kernel
theorem i_5_0 : pg_at 5 0 = some (0, 0, 0, 0) := by decide +kernel
theorem i_5_1 : pg_at 5 1 = some (2, 1, 0, 0) := by decide +kernel
theorem i_5_2 : pg_at 5 2 = some (0, 0, 0, 0) := by decide +kernel
theorem i_5_3 : pg_at 5 3 = some (2, 2, 0, 0) := by decide +kernel
theorem i_5_4 : pg_at 5 4 = some (1, 2, 0, 0) := by decide +kernel
theorem i_5_5 : pg_at 5 5 = some (3, 0, 0, 0) := by decide +kernel
theorem i_5_6 : pg_at 5 6 = some (33, 0, 2, 18) := by decide +kernel
theorem i_5_7 : pg_at 5 7 = some (18, 18, 3, 0) := by decide +kernel
theorem i_5_8 : pg_at 5 8 = some (1, 1, 0, 0) := by decide +kernel
theorem i_5_9 : pg_at 5 9 = some (3, 0, 0, 0) := by decide +kernel
theorem i_5_10 : pg_at 5 10 = some (34, 0, 0, 11) := by decide +kernel
theorem i_5_11 : pg_at 5 11 = some (1, 2, 0, 0) := by decide +kernel
theorem i_5_12 : pg_at 5 12 = some (31, 0, 0, 0) := by decide +kernel
theorem i_5_13 : pg_at 5 13 = some (33, 1, 3, 42) := by decide +kernel
theorem i_5_14 : pg_at 5 14 = some (6, 0, 0, 0) := by decide +kernel
theorem i_5_15 : pg_at 5 15 = some (2, 1, 0, 0) := by decide +kernel
theorem i_5_16 : pg_at 5 16 = some (5, 2, 0, 1) := by decide +kernel
theorem i_5_17 : pg_at 5 17 = some (16, 4, 0, 0) := by decide +kernel
theorem i_5_18 : pg_at 5 18 = some (1, 1, 0, 0) := by decide +kernel
theorem i_5_19 : pg_at 5 19 = some (45, 0, 0, 0) := by decide +kernel
theorem mf_5 : pg_na 5 = 1 ∧ pg_ml 5 = 3 ∧ pg_cst 5 = 0 ∧ pg_cl 5 = 0 := by decide +kernel
theorem rt_5 : pg_rt 5 ≠ some .boolean := by decide +kernel
theorem hx_5 : pg_hx 5 = [] := by decide +kernel
theorem i_6_0 : pg_at 6 0 = some (0, 0, 0, 0) := by decide +kernel
theorem i_6_1 : pg_at 6 1 = some (2, 3, 0, 0) := by decide +kernel
theorem i_6_2 : pg_at 6 2 = some (0, 0, 0, 0) := by decide +kernel
theorem i_6_3 : pg_at 6 3 = some (2, 4, 0, 0) := by decide +kernel
theorem i_6_4 : pg_at 6 4 = some (1, 4, 0, 0) := by decide +kernel
theorem i_6_5 : pg_at 6 5 = some (3, 0, 0, 0) := by decide +kernel
theorem i_6_6 : pg_at 6 6 = some (33, 0, 2, 18) := by decide +kernel
theorem i_6_7 : pg_at 6 7 = some (18, 27, 3, 0) := by decide +kernel
theorem i_6_8 : pg_at 6 8 = some (3, 0, 0, 0) := by decide +kernel
theorem i_6_9 : pg_at 6 9 = some (34, 0, 0, 11) := by decide +kernel
theorem i_6_10 : pg_at 6 10 = some (1, 4, 0, 0) := by decide +kernel
theorem i_6_11 : pg_at 6 11 = some (31, 0, 0, 0) := by decide +kernel
theorem i_6_12 : pg_at 6 12 = some (4, 5, 0, 0) := by decide +kernel
theorem i_6_13 : pg_at 6 13 = some (3, 5, 0, 0) := by decide +kernel
theorem i_6_14 : pg_at 6 14 = some (33, 1, 5, 45) := by decide +kernel
theorem i_6_15 : pg_at 6 15 = some (17, 25, 1, 0) := by decide +kernel
theorem i_6_16 : pg_at 6 16 = some (3, 5, 0, 0) := by decide +kernel
theorem i_6_17 : pg_at 6 17 = some (41, 10, 0, 48) := by decide +kernel
theorem i_6_18 : pg_at 6 18 = some (1, 1, 0, 0) := by decide +kernel
theorem i_6_19 : pg_at 6 19 = some (18, 25, 1, 0) := by decide +kernel
theorem i_6_20 : pg_at 6 20 = some (3, 5, 0, 0) := by decide +kernel
theorem i_6_21 : pg_at 6 21 = some (41, 11, 0, 51) := by decide +kernel
theorem i_6_22 : pg_at 6 22 = some (1, 2, 0, 0) := by decide +kernel
theorem i_6_23 : pg_at 6 23 = some (18, 25, 1, 0) := by decide +kernel
theorem i_6_24 : pg_at 6 24 = some (5, 3, 0, 1) := by decide +kernel
theorem i_6_25 : pg_at 6 25 = some (5, 4, 0, 1) := by decide +kernel
theorem i_6_26 : pg_at 6 26 = some (16, 4, 0, 0) := by decide +kernel
theorem i_6_27 : pg_at 6 27 = some (1, 3, 0, 0) := by decide +kernel
theorem i_6_28 : pg_at 6 28 = some (45, 0, 0, 0) := by decide +kernel
theorem mf_6 : pg_na 6 = 3 ∧ pg_ml 6 = 6 ∧ pg_cst 6 = 0 ∧ pg_cl 6 = 0 := by decide +kernel
theorem rt_6 : pg_rt 6 ≠ some .boolean := by decide +kernel
theorem hx_6 : pg_hx 6 = [] := by decide +kernel
theorem i_7_0 : pg_at 7 0 = some (3, 0, 0, 0) := by decide +kernel
theorem i_7_1 : pg_at 7 1 = some (34, 0, 0, 11) := by decide +kernel
theorem i_7_2 : pg_at 7 2 = some (1, 1, 0, 0) := by decide +kernel
theorem i_7_3 : pg_at 7 3 = some (31, 0, 0, 0) := by decide +kernel
theorem i_7_4 : pg_at 7 4 = some (4, 2, 0, 0) := by decide +kernel
theorem i_7_5 : pg_at 7 5 = some (1, 1, 0, 0) := by decide +kernel
theorem i_7_6 : pg_at 7 6 = some (2, 3, 0, 0) := by decide +kernel
theorem i_7_7 : pg_at 7 7 = some (1, 3, 0, 0) := by decide +kernel
theorem i_7_8 : pg_at 7 8 = some (3, 0, 0, 0) := by decide +kernel
theorem i_7_9 : pg_at 7 9 = some (33, 0, 2, 18) := by decide +kernel
theorem i_7_10 : pg_at 7 10 = some (0, 0, 0, 1) := by decide +kernel
theorem i_7_11 : pg_at 7 11 = some (7, 0, 0, 0) := by decide +kernel
theorem i_7_12 : pg_at 7 12 = some (18, 25, 3, 0) := by decide +kernel
theorem i_7_13 : pg_at 7 13 = some (3, 0, 0, 0) := by decide +kernel
theorem i_7_14 : pg_at 7 14 = some (34, 0, 0, 11) := by decide +kernel
theorem i_7_15 : pg_at 7 15 = some (1, 3, 0, 0) := by decide +kernel
theorem i_7_16 : pg_at 7 16 = some (3, 0, 0, 0) := by decide +kernel
theorem i_7_17 : pg_at 7 17 = some (34, 0, 0, 11) := by decide +kernel
theorem i_7_18 : pg_at 7 18 = some (1, 3, 0, 0) := by decide +kernel
theorem i_7_19 : pg_at 7 19 = some (0, 0, 0, 1) := by decide +kernel
theorem i_7_20 : pg_at 7 20 = some (6, 0, 0, 0) := by decide +kernel
theorem i_7_21 : pg_at 7 21 = some (31, 0, 0, 0) := by decide +kernel
theorem i_7_22 : pg_at 7 22 = some (32, 0, 0, 0) := by decide +kernel
theorem i_7_23 : pg_at 7 23 = some (5, 3, 0, 1) := by decide +kernel
theorem i_7_24 : pg_at 7 24 = some (16, 7, 0, 0) := by decide +kernel
theorem i_7_25 : pg_at 7 25 = some (3, 0, 0, 0) := by decide +kernel
theorem i_7_26 : pg_at 7 26 = some (34, 0, 0, 11) := by decide +kernel
theorem i_7_27 : pg_at 7 27 = some (3, 0, 0, 0) := by decide +kernel
theorem i_7_28 : pg_at 7 28 = some (33, 0, 2, 18) := by decide +kernel
theorem i_7_29 : pg_at 7 29 = some (0, 0, 0, 1) := by decide +kernel
theorem i_7_30 : pg_at 7 30 = some (7, 0, 0, 0) := by decide +kernel
theorem i_7_31 : pg_at 7 31 = some (3, 2, 0, 0) := by decide +kernel
theorem i_7_32 : pg_at 7 32 = some (32, 0, 0, 0) := by decide +kernel
theorem i_7_33 : pg_at 7 33 = some (3, 0, 0, 0) := by decide +kernel
theorem i_7_34 : pg_at 7 34 = some (13, 0, 0, 0) := by decide +kernel
theorem i_7_35 : pg_at 7 35 = some (33, 0, 2, 18) := by decide +kernel
theorem i_7_36 : pg_at 7 36 = some (0, 0, 0, 1) := by decide +kernel
theorem i_7_37 : pg_at 7 37 = some (7, 0, 0, 0) := by decide +kernel
theorem i_7_38 : pg_at 7 38 = some (35, 0, 2, 18) := by decide +kernel
theorem i_7_39 : pg_at 7 39 = some (47, 0, 0, 0) := by decide +kernel
theorem mf_7 : pg_na 7 = 2 ∧ pg_ml 7 = 4 ∧ pg_cst 7 = 0 ∧ pg_cl 7 = 0 := by decide +kernel
theorem hx_7 : pg_hx 7 = [] := by decide +kernel
theorem i_8_0 : pg_at 8 0 = some (3, 0, 0, 0) := by decide +kernel
theorem i_8_1 : pg_at 8 1 = some (43, 0, 0, 1) := by decide +kernel
theorem i_8_2 : pg_at 8 2 = some (47, 0, 0, 0) := by decide +kernel
theorem mf_8 : pg_na 8 = 1 ∧ pg_ml 8 = 1 ∧ pg_cst 8 = 0 ∧ pg_cl 8 = 1 := by decide +kernel
theorem hx_8 : pg_hx 8 = [] := by decide +kernel
theorem i_9_0 : pg_at 9 0 = some (3, 0, 0, 0) := by decide +kernel
theorem i_9_1 : pg_at 9 1 = some (1, 1, 0, 0) := by decide +kernel
theorem i_9_2 : pg_at 9 2 = some (35, 1, 0, 7) := by decide +kernel
theorem i_9_3 : pg_at 9 3 = some (3, 0, 0, 0) := by decide +kernel
theorem i_9_4 : pg_at 9 4 = some (1, 2, 0, 0) := by decide +kernel
theorem i_9_5 : pg_at 9 5 = some (35, 1, 1, 13) := by decide +kernel
theorem i_9_6 : pg_at 9 6 = some (3, 0, 0, 0) := by decide +kernel
theorem i_9_7 : pg_at 9 7 = some (1, 3, 0, 0) := by decide +kernel
theorem i_9_8 : pg_at 9 8 = some (50, 1, 2, 16) := by decide +kernel
theorem i_9_9 : pg_at 9 9 = some (3, 0, 0, 0) := by decide +kernel
theorem i_9_10 : pg_at 9 10 = some (1, 4, 0, 0) := by decide +kernel
theorem i_9_11 : pg_at 9 11 = some (35, 1, 3, 20) := by decide +kernel
theorem i_9_12 : pg_at 9 12 = some (3, 0, 0, 0) := by decide +kernel
theorem i_9_13 : pg_at 9 13 = some (1, 5, 0, 0) := by decide +kernel
theorem i_9_14 : pg_at 9 14 = some (35, 1, 4, 23) := by decide +kernel
theorem i_9_15 : pg_at 9 15 = some (3, 0, 0, 0) := by decide +kernel
theorem i_9_16 : pg_at 9 16 = some (0, 0, 0, 0) := by decide +kernel
theorem i_9_17 : pg_at 9 17 = some (50, 1, 5, 26) := by decide +kernel
theorem i_9_18 : pg_at 9 18 = some (47, 0, 0, 0) := by decide +kernel
theorem mf_9 : pg_na 9 = 6 ∧ pg_ml 9 = 6 ∧ pg_cst 9 = 0 ∧ pg_cl 9 = 1 := by decide +kernel
theorem hx_9 : pg_hx 9 = [] := by decide +kernel
theorem i_10_0 : pg_at 10 0 = some (3, 0, 0, 0) := by decide +kernel
theorem i_10_1 : pg_at 10 1 = some (33, 1, 2, 16) := by decide +kernel
theorem i_10_2 : pg_at 10 2 = some (17, 6, 0, 0) := by decide +kernel
theorem i_10_3 : pg_at 10 3 = some (3, 0, 0, 0) := by decide +kernel
theorem i_10_4 : pg_at 10 4 = some (33, 1, 0, 7) := by decide +kernel
theorem i_10_5 : pg_at 10 5 = some (16, 8, 0, 0) := by decide +kernel
theorem i_10_6 : pg_at 10 6 = some (3, 0, 0, 0) := by decide +kernel
theorem i_10_7 : pg_at 10 7 = some (33, 1, 1, 13) := by decide +kernel
theorem i_10_8 : pg_at 10 8 = some (45, 0, 0, 0) := by decide +kernel
theorem mf_10 : pg_na 10 = 1 ∧ pg_ml 10 = 1 ∧ pg_cst 10 = 0 ∧ pg_cl 10 = 1 := by decide +kernel
theorem rt_10 : pg_rt 10 ≠ some .boolean := by decide +kernel
theorem hx_10 : pg_hx 10 = [] := by decide +kernel
theorem i_11_0 : pg_at 11 0 = some (3, 0, 0, 0) := by decide +kernel
theorem i_11_1 : pg_at 11 1 = some (33, 1, 2, 16) := by decide +kernel
theorem i_11_2 : pg_at 11 2 = some (17, 6, 0, 0) := by decide +kernel
theorem i_11_3 : pg_at 11 3 = some (3, 0, 0, 0) := by decide +kernel
theorem i_11_4 : pg_at 11 4 = some (33, 1, 1, 13) := by decide +kernel
theorem i_11_5 : pg_at 11 5 = some (16, 8, 0, 0) := by decide +kernel
theorem i_11_6 : pg_at 11 6 = some (3, 0, 0, 0) := by decide +kernel
theorem i_11_7 : pg_at 11 7 = some (33, 1, 0, 7) := by decide +kernel
theorem i_11_8 : pg_at 11 8 = some (45, 0, 0, 0) := by decide +kernel
theorem mf_11 : pg_na 11 = 1 ∧ pg_ml 11 = 1 ∧ pg_cst 11 = 0 ∧ pg_cl 11 = 1 := by decide +kernel
theorem rt_11 : pg_rt 11 ≠ some .boolean := by decide +kernel
theorem hx_11 : pg_hx 11 = [] := by decide +kernel
theorem i_12_0 : pg_at 12 0 = some (3, 0, 0, 0) := by decide +kernel
theorem i_12_1 : pg_at 12 1 = some (43, 0, 0, 3) := by decide +kernel
theorem i_12_2 : pg_at 12 2 = some (3, 0, 0, 0) := by decide +kernel
theorem i_12_3 : pg_at 12 3 = some (0, 0, 0, 12) := by decide +kernel
theorem i_12_4 : pg_at 12 4 = some (38, 7, 0, 0) := by decide +kernel
theorem i_12_5 : pg_at 12 5 = some (36, 2, 0, 9) := by decide +kernel
theorem i_12_6 : pg_at 12 6 = some (3, 0, 0, 0) := by decide +kernel
theorem i_12_7 : pg_at 12 7 = some (0, 0, 0, 12) := by decide +kernel
theorem i_12_8 : pg_at 12 8 = some (38, 8, 0, 0) := by decide +kernel
theorem i_12_9 : pg_at 12 9 = some (36, 2, 1, 15) := by decide +kernel
theorem i_12_10 : pg_at 12 10 = some (3, 0, 0, 0) := by decide +kernel
theorem i_12_11 : pg_at 12 11 = some (0, 0, 0, 4) := by decide +kernel
theorem i_12_12 : pg_at 12 12 = some (38, 7, 0, 0) := by decide +kernel
theorem i_12_13 : pg_at 12 13 = some (36, 2, 2, 19) := by decide +kernel
theorem i_12_14 : pg_at 12 14 = some (3, 0, 0, 0) := by decide +kernel
theorem i_12_15 : pg_at 12 15 = some (0, 0, 0, 4) := by decide +kernel
theorem i_12_16 : pg_at 12 16 = some (38, 7, 0, 0) := by decide +kernel
theorem i_12_17 : pg_at 12 17 = some (36, 2, 3, 22) := by decide +kernel
theorem i_12_18 : pg_at 12 18 = some (3, 0, 0, 0) := by decide +kernel
theorem i_12_19 : pg_at 12 19 = some (0, 0, 0, 4) := by decide +kernel
theorem i_12_20 : pg_at 12 20 = some (38, 7, 0, 0) := by decide +kernel
theorem i_12_21 : pg_at 12 21 = some (36, 2, 4, 25) := by decide +kernel
theorem i_12_22 : pg_at 12 22 = some (3, 0, 0, 0) := by decide +kernel
theorem i_12_23 : pg_at 12 23 = some (0, 0, 0, 10) := by decide +kernel
theorem i_12_24 : pg_at 12 24 = some (38, 7, 0, 0) := by decide +kernel
theorem i_12_25 : pg_at 12 25 = some (36, 2, 5, 28) := by decide +kernel
theorem i_12_26 : pg_at 12 26 = some (3, 0, 0, 0) := by decide +kernel
theorem i_12_27 : pg_at 12 27 = some (0, 0, 0, 10) := by decide +kernel
theorem i_12_28 : pg_at 12 28 = some (38, 7, 0, 0) := by decide +kernel
theorem i_12_29 : pg_at 12 29 = some (36, 2, 6, 31) := by decide +kernel
theorem i_12_30 : pg_at 12 30 = some (3, 0, 0, 0) := by decide +kernel
theorem i_12_31 : pg_at 12 31 = some (0, 0, 0, 10) := by decide +kernel
theorem i_12_32 : pg_at 12 32 = some (38, 8, 0, 0) := by decide +kernel
theorem i_12_33 : pg_at 12 33 = some (36, 2, 7, 34) := by decide +kernel
theorem i_12_34 : pg_at 12 34 = some (3, 0, 0, 0) := by decide +kernel
theorem i_12_35 : pg_at 12 35 = some (0, 0, 0, 0) := by decide +kernel
theorem i_12_36 : pg_at 12 36 = some (39, 12, 0, 37) := by decide +kernel
theorem i_12_37 : pg_at 12 37 = some (36, 2, 8, 39) := by decide +kernel
theorem i_12_38 : pg_at 12 38 = some (3, 0, 0, 0) := by decide +kernel
theorem i_12_39 : pg_at 12 39 = some (37, 0, 0, 43) := by decide +kernel
theorem i_12_40 : pg_at 12 40 = some (13, 0, 0, 0) := by decide +kernel
theorem i_12_41 : pg_at 12 41 = some (42, 0, 0, 45) := by decide +kernel
theorem i_12_42 : pg_at 12 42 = some (36, 2, 9, 46) := by decide +kernel
theorem i_12_43 : pg_at 12 43 = some (47, 0, 0, 0) := by decide +kernel
theorem mf_12 : pg_na 12 = 1 ∧ pg_ml 12 = 1 ∧ pg_cst 12 = 140 ∧ pg_cl 12 = 2 := by decide +kernel
theorem hx_12 : pg_hx 12 = [] := by decide +kernel
theorem i_13_0 : pg_at 13 0 = some (3, 0, 0, 0) := by decide +kernel
theorem i_13_1 : pg_at 13 1 = some (3, 1, 0, 0) := by decide +kernel
theorem i_13_2 : pg_at 13 2 = some (36, 2, 9, 46) := by decide +kernel
theorem i_13_3 : pg_at 13 3 = some (3, 0, 0, 0) := by decide +kernel
theorem i_13_4 : pg_at 13 4 = some (1, 2, 0, 0) := by decide +kernel
theorem i_13_5 : pg_at 13 5 = some (35, 2, 10, 50) := by decide +kernel
theorem i_13_6 : pg_at 13 6 = some (3, 0, 0, 0) := by decide +kernel
theorem i_13_7 : pg_at 13 7 = some (3, 3, 0, 0) := by decide +kernel
theorem i_13_8 : pg_at 13 8 = some (36, 2, 8, 39) := by decide +kernel
theorem i_13_9 : pg_at 13 9 = some (3, 0, 0, 0) := by decide +kernel
theorem i_13_10 : pg_at 13 10 = some (0, 0, 0, 0) := by decide +kernel
theorem i_13_11 : pg_at 13 11 = some (35, 2, 11, 54) := by decide +kernel
theorem i_13_12 : pg_at 13 12 = some (0, 0, 0, 0) := by decide +kernel
theorem i_13_13 : pg_at 13 13 = some (2, 5, 0, 0) := by decide +kernel
theorem i_13_14 : pg_at 13 14 = some (1, 5, 0, 0) := by decide +kernel
theorem i_13_15 : pg_at 13 15 = some (3, 0, 0, 0) := by decide +kernel
theorem i_13_16 : pg_at 13 16 = some (34, 2, 9, 46) := by decide +kernel
theorem i_13_17 : pg_at 13 17 = some (33, 0, 2, 57) := by decide +kernel
theorem i_13_18 : pg_at 13 18 = some (18, 45, 3, 0) := by decide +kernel
theorem i_13_19 : pg_at 13 19 = some (3, 0, 0, 0) := by decide +kernel
theorem i_13_20 : pg_at 13 20 = some (0, 0, 0, 2) := by decide +kernel
theorem i_13_21 : pg_at 13 21 = some (1, 5, 0, 0) := by decide +kernel
theorem i_13_22 : pg_at 13 22 = some (8, 0, 0, 0) := by decide +kernel
theorem i_13_23 : pg_at 13 23 = some (3, 0, 0, 0) := by decide +kernel
theorem i_13_24 : pg_at 13 24 = some (34, 2, 9, 46) := by decide +kernel
theorem i_13_25 : pg_at 13 25 = some (34, 0, 0, 60) := by decide +kernel
theorem i_13_26 : pg_at 13 26 = some (1, 5, 0, 0) := by decide +kernel
theorem i_13_27 : pg_at 13 27 = some (31, 0, 0, 0) := by decide +kernel
theorem i_13_28 : pg_at 13 28 = some (33, 1, 0, 64) := by decide +kernel
theorem i_13_29 : pg_at 13 29 = some (41, 14, 0, 69) := by decide +kernel
theorem i_13_30 : pg_at 13 30 = some (3, 0, 0, 0) := by decide +kernel
theorem i_13_31 : pg_at 13 31 = some (0, 0, 0, 2) := by decide +kernel
theorem i_13_32 : pg_at 13 32 = some (1, 5, 0, 0) := by decide +kernel
theorem i_13_33 : pg_at 13 33 = some (8, 0, 0, 0) := by decide +kernel
theorem i_13_34 : pg_at 13 34 = some (0, 0, 0, 1) := by decide +kernel
theorem i_13_35 : pg_at 13 35 = some (6, 0, 0, 0) := by decide +kernel
theorem i_13_36 : pg_at 13 36 = some (3, 0, 0, 0) := by decide +kernel
theorem i_13_37 : pg_at 13 37 = some (34, 2, 9, 46) := by decide +kernel
theorem i_13_38 : pg_at 13 38 = some (34, 0, 0, 60) := by decide +kernel
theorem i_13_39 : pg_at 13 39 = some (1, 5, 0, 0) := by decide +kernel
theorem i_13_40 : pg_at 13 40 = some (31, 0, 0, 0) := by decide +kernel
theorem i_13_41 : pg_at 13 41 = some (33, 1, 1, 73) := by decide +kernel
theorem i_13_42 : pg_at 13 42 = some (41, 14, 0, 69) := by decide +kernel
theorem i_13_43 : pg_at 13 43 = some (5, 5, 0, 1) := by decide +kernel
theorem i_13_44 : pg_at 13 44 = some (16, 14, 0, 0) := by decide +kernel
theorem i_13_45 : pg_at 13 45 = some (3, 0, 0, 0) := by decide +kernel
theorem i_13_46 : pg_at 13 46 = some (0, 0, 0, 0) := by decide +kernel
theorem i_13_47 : pg_at 13 47 = some (35, 2, 12, 76) := by decide +kernel
theorem i_13_48 : pg_at 13 48 = some (0, 0, 0, 0) := by decide +kernel
theorem i_13_49 : pg_at 13 49 = some (2, 5, 0, 0) := by decide +kernel
theorem i_13_50 : pg_at 13 50 = some (1, 5, 0, 0) := by decide +kernel
theorem i_13_51 : pg_at 13 51 = some (1, 4, 0, 0) := by decide +kernel
theorem i_13_52 : pg_at 13 52 = some (18, 99, 3, 0) := by decide +kernel
theorem i_13_53 : pg_at 13 53 = some (3, 0, 0, 0) := by decide +kernel
theorem i_13_54 : pg_at 13 54 = some (34, 2, 8, 39) := by decide +kernel
theorem i_13_55 : pg_at 13 55 = some (1, 5, 0, 0) := by decide +kernel
theorem i_13_56 : pg_at 13 56 = some (31, 0, 0, 0) := by decide +kernel
theorem i_13_57 : pg_at 13 57 = some (3, 0, 0, 0) := by decide +kernel
theorem i_13_58 : pg_at 13 58 = some (33, 2, 10, 50) := by decide +kernel
theorem i_13_59 : pg_at 13 59 = some (41, 27, 0, 79) := by decide +kernel
theorem i_13_60 : pg_at 13 60 = some (17, 97, 1, 0) := by decide +kernel
theorem i_13_61 : pg_at 13 61 = some (3, 0, 0, 0) := by decide +kernel
theorem i_13_62 : pg_at 13 62 = some (34, 2, 9, 46) := by decide +kernel
theorem i_13_63 : pg_at 13 63 = some (1, 5, 0, 0) := by decide +kernel
theorem i_13_64 : pg_at 13 64 = some (41, 3, 0, 83) := by decide +kernel
theorem i_13_65 : pg_at 13 65 = some (17, 97, 1, 0) := by decide +kernel
theorem i_13_66 : pg_at 13 66 = some (3, 0, 0, 0) := by decide +kernel
theorem i_13_67 : pg_at 13 67 = some (34, 2, 5, 28) := by decide +kernel
theorem i_13_68 : pg_at 13 68 = some (3, 0, 0, 0) := by decide +kernel
theorem i_13_69 : pg_at 13 69 = some (33, 2, 12, 76) := by decide +kernel
theorem i_13_70 : pg_at 13 70 = some (1, 5, 0, 0) := by decide +kernel
theorem i_13_71 : pg_at 13 71 = some (28, 0, 0, 0) := by decide +kernel
theorem i_13_72 : pg_at 13 72 = some (3, 0, 0, 0) := by decide +kernel
theorem i_13_73 : pg_at 13 73 = some (34, 2, 6, 31) := by decide +kernel
theorem i_13_74 : pg_at 13 74 = some (3, 0, 0, 0) := by decide +kernel
theorem i_13_75 : pg_at 13 75 = some (33, 2, 12, 76) := by decide +kernel
theorem i_13_76 : pg_at 13 76 = some (3, 0, 0, 0) := by decide +kernel
theorem i_13_77 : pg_at 13 77 = some (34, 2, 8, 39) := by decide +kernel
theorem i_13_78 : pg_at 13 78 = some (1, 5, 0, 0) := by decide +kernel
theorem i_13_79 : pg_at 13 79 = some (31, 0, 0, 0) := by decide +kernel
theorem i_13_80 : pg_at 13 80 = some (3, 0, 0, 0) := by decide +kernel
theorem i_13_81 : pg_at 13 81 = some (34, 2, 9, 46) := by decide +kernel
theorem i_13_82 : pg_at 13 82 = some (33, 0, 1, 86) := by decide +kernel
theorem i_13_83 : pg_at 13 83 = some (41, 29, 0, 89) := by decide +kernel
theorem i_13_84 : pg_at 13 84 = some (28, 0, 0, 0) := by decide +kernel
theorem i_13_85 : pg_at 13 85 = some (3, 0, 0, 0) := by decide +kernel
theorem i_13_86 : pg_at 13 86 = some (34, 2, 7, 34) := by decide +kernel
theorem i_13_87 : pg_at 13 87 = some (3, 0, 0, 0) := by decide +kernel
theorem i_13_88 : pg_at 13 88 = some (33, 2, 12, 76) := by decide +kernel
theorem i_13_89 : pg_at 13 89 = some (0, 0, 0, 0) := by decide +kernel
theorem i_13_90 : pg_at 13 90 = some (30, 0, 0, 0) := by decide +kernel
theorem i_13_91 : pg_at 13 91 = some (3, 0, 0, 0) := by decide +kernel
theorem i_13_92 : pg_at 13 92 = some (13, 0, 0, 0) := by decide +kernel
theorem i_13_93 : pg_at 13 93 = some (33, 2, 12, 76) := by decide +kernel
theorem i_13_94 : pg_at 13 94 = some (0, 0, 0, 1) := by decide +kernel
theorem i_13_95 : pg_at 13 95 = some (6, 0, 0, 0) := by decide +kernel
theorem i_13_96 : pg_at 13 96 = some (35, 2, 12, 76) := by decide +kernel
theorem i_13_97 : pg_at 13 97 = some (5, 5, 0, 1) := by decide +kernel
theorem i_13_98 : pg_at 13 98 = some (16, 50, 0, 0) := by decide +kernel
theorem i_13_99 : pg_at 13 99 = some (47, 0, 0, 0) := by decide +kernel
theorem mf_13 : pg_na 13 = 5 ∧ pg_ml 13 = 6 ∧ pg_cst 13 = 0 ∧ pg_cl 13 = 2 := by decide +kernel
theorem hx_13 : pg_hx 13 = [] := by decide +kernel
theorem i_14_0 : pg_at 14 0 = some (3, 0, 0, 0) := by decide +kernel
theorem i_14_1 : pg_at 14 1 = some (34, 2, 1, 15) := by decide +kernel
theorem i_14_2 : pg_at 14 2 = some (1, 1, 0, 0) := by decide +kernel
theorem i_14_3 : pg_at 14 3 = some (3, 0, 0, 0) := by decide +kernel
theorem i_14_4 : pg_at 14 4 = some (34, 2, 8, 39) := by decide +kernel
theorem i_14_5 : pg_at 14 5 = some (1, 2, 0, 0) := by decide +kernel
theorem i_14_6 : pg_at 14 6 = some (31, 0, 0, 0) := by decide +kernel
theorem i_14_7 : pg_at 14 7 = some (3, 0, 0, 0) := by decide +kernel
theorem i_14_8 : pg_at 14 8 = some (33, 2, 10, 50) := by decide +kernel
theorem i_14_9 : pg_at 14 9 = some (41, 27, 0, 79) := by decide +kernel
theorem i_14_10 : pg_at 14 10 = some (30, 0, 0, 0) := by decide +kernel
theorem i_14_11 : pg_at 14 11 = some (3, 0, 0, 0) := by decide +kernel
theorem i_14_12 : pg_at 14 12 = some (34, 2, 0, 9) := by decide +kernel
theorem i_14_13 : pg_at 14 13 = some (1, 1, 0, 0) := by decide +kernel
theorem i_14_14 : pg_at 14 14 = some (3, 0, 0, 0) := by decide +kernel
theorem i_14_15 : pg_at 14 15 = some (34, 2, 1, 15) := by decide +kernel
theorem i_14_16 : pg_at 14 16 = some (1, 1, 0, 0) := by decide +kernel
theorem i_14_17 : pg_at 14 17 = some (29, 0, 0, 0) := by decide +kernel
theorem i_14_18 : pg_at 14 18 = some (17, 21, 0, 0) := by decide +kernel
theorem i_14_19 : pg_at 14 19 = some (0, 0, 0, (-1)) := by decide +kernel
theorem i_14_20 : pg_at 14 20 = some (16, 22, 0, 0) := by decide +kernel
theorem i_14_21 : pg_at 14 21 = some (1, 2, 0, 0) := by decide +kernel
theorem i_14_22 : pg_at 14 22 = some (28, 0, 0, 0) := by decide +kernel
theorem i_14_23 : pg_at 14 23 = some (3, 0, 0, 0) := by decide +kernel
theorem i_14_24 : pg_at 14 24 = some (34, 2, 1, 15) := by decide +kernel
theorem i_14_25 : pg_at 14 25 = some (1, 1, 0, 0) := by decide +kernel
theorem i_14_26 : pg_at 14 26 = some (29, 0, 0, 0) := by decide +kernel
theorem i_14_27 : pg_at 14 27 = some (17, 44, 0, 0) := by decide +kernel
theorem i_14_28 : pg_at 14 28 = some (3, 0, 0, 0) := by decide +kernel
theorem i_14_29 : pg_at 14 29 = some (33, 2, 11, 54) := by decide +kernel
theorem i_14_30 : pg_at 14 30 = some (0, 0, 0, 4) := by decide +kernel
theorem i_14_31 : pg_at 14 31 = some (18, 38, 3, 0) := by decide +kernel
theorem i_14_32 : pg_at 14 32 = some (3, 0, 0, 0) := by decide +kernel
theorem i_14_33 : pg_at 14 33 = some (34, 2, 2, 19) := by decide +kernel
theorem i_14_34 : pg_at 14 34 = some (3, 0, 0, 0) := by decide +kernel
theorem i_14_35 : pg_at 14 35 = some (33, 2, 11, 54) := by decide +kernel
theorem i_14_36 : pg_at 14 36 = some (1, 1, 0, 0) := by decide +kernel
theorem i_14_37 : pg_at 14 37 = some (28, 0, 0, 0) := by decide +kernel
theorem i_14_38 : pg_at 14 38 = some (3, 0, 0, 0) := by decide +kernel
theorem i_14_39 : pg_at 14 39 = some (13, 0, 0, 0) := by decide +kernel
theorem i_14_40 : pg_at 14 40 = some (33, 2, 11, 54) := by decide +kernel
theorem i_14_41 : pg_at 14 41 = some (0, 0, 0, 1) := by decide +kernel
theorem i_14_42 : pg_at 14 42 = some (6, 0, 0, 0) := by decide +kernel
theorem i_14_43 : pg_at 14 43 = some (35, 2, 11, 54) := by decide +kernel
theorem i_14_44 : pg_at 14 44 = some (47, 0, 0, 0) := by decide +kernel
theorem mf_14 : pg_na 14 = 3 ∧ pg_ml 14 = 3 ∧ pg_cst 14 = 0 ∧ pg_cl 14 = 2 := by decide +kernel
theorem hx_14 : pg_hx 14 = [] := by decide +kernel
theorem i_15_0 : pg_at 15 0 = some (3, 0, 0, 0) := by decide +kernel
theorem i_15_1 : pg_at 15 1 = some (0, 0, 0, (-1)) := by decide +kernel
theorem i_15_2 : pg_at 15 2 = some (35, 2, 13, 93) := by decide +kernel
theorem i_15_3 : pg_at 15 3 = some (3, 0, 0, 0) := by decide +kernel
theorem i_15_4 : pg_at 15 4 = some (0, 0, 0, 0) := by decide +kernel
theorem i_15_5 : pg_at 15 5 = some (0, 0, 0, 0) := by decide +kernel
theorem i_15_6 : pg_at 15 6 = some (40, 16, 0, 96) := by decide +kernel
theorem i_15_7 : pg_at 15 7 = some (3, 0, 0, 0) := by decide +kernel
theorem i_15_8 : pg_at 15 8 = some (33, 2, 13, 93) := by decide +kernel
theorem i_15_9 : pg_at 15 9 = some (45, 0, 0, 0) := by decide +kernel
theorem mf_15 : pg_na 15 = 1 ∧ pg_ml 15 = 1 ∧ pg_cst 15 = 0 ∧ pg_cl 15 = 2 := by decide +kernel
theorem rt_15 : pg_rt 15 ≠ some .boolean := by decide +kernel
theorem hx_15 : pg_hx 15 = [] := by decide +kernel
theorem i_16_0 : pg_at 16 0 = some (1, 1, 0, 0) := by decide +kernel
theorem i_16_1 : pg_at 16 1 = some (3, 0, 0, 0) := by decide +kernel
theorem i_16_2 : pg_at 16 2 = some (33, 2, 11, 54) := by decide +kernel
theorem i_16_3 : pg_at 16 3 = some (18, 7, 3, 0) := by decide +kernel
theorem i_16_4 : pg_at 16 4 = some (1, 1, 0, 0) := by decide +kernel
theorem i_16_5 : pg_at 16 5 = some (0, 0, 0, 4) := by decide +kernel
theorem i_16_6 : pg_at 16 6 = some (18, 11, 2, 0) := by decide +kernel
theorem i_16_7 : pg_at 16 7 = some (3, 0, 0, 0) := by decide +kernel
theorem i_16_8 : pg_at 16 8 = some (1, 2, 0, 0) := by decide +kernel
theorem i_16_9 : pg_at 16 9 = some (41, 17, 0, 100) := by decide +kernel
theorem i_16_10 : pg_at 16 10 = some (47, 0, 0, 0) := by decide +kernel
theorem i_16_11 : pg_at 16 11 = some (3, 0, 0, 0) := by decide +kernel
theorem i_16_12 : pg_at 16 12 = some (34, 2, 2, 19) := by decide +kernel
theorem i_16_13 : pg_at 16 13 = some (1, 1, 0, 0) := by decide +kernel
theorem i_16_14 : pg_at 16 14 = some (27, 0, 0, 0) := by decide +kernel
theorem i_16_15 : pg_at 16 15 = some (2, 3, 0, 0) := by decide +kernel
theorem i_16_16 : pg_at 16 16 = some (1, 3, 0, 0) := by decide +kernel
theorem i_16_17 : pg_at 16 17 = some (0, 0, 0, 2) := by decide +kernel
theorem i_16_18 : pg_at 16 18 = some (10, 0, 0, 0) := by decide +kernel
theorem i_16_19 : pg_at 16 19 = some (0, 0, 0, 1) := by decide +kernel
theorem i_16_20 : pg_at 16 20 = some (18, 30, 1, 0) := by decide +kernel
theorem i_16_21 : pg_at 16 21 = some (3, 0, 0, 0) := by decide +kernel
theorem i_16_22 : pg_at 16 22 = some (34, 2, 1, 15) := by decide +kernel
theorem i_16_23 : pg_at 16 23 = some (1, 3, 0, 0) := by decide +kernel
theorem i_16_24 : pg_at 16 24 = some (0, 0, 0, 1) := by decide +kernel
theorem i_16_25 : pg_at 16 25 = some (7, 0, 0, 0) := by decide +kernel
theorem i_16_26 : pg_at 16 26 = some (29, 0, 0, 0) := by decide +kernel
theorem i_16_27 : pg_at 16 27 = some (17, 30, 0, 0) := by decide +kernel
theorem i_16_28 : pg_at 16 28 = some (0, 0, 0, 1) := by decide +kernel
theorem i_16_29 : pg_at 16 29 = some (16, 31, 0, 0) := by decide +kernel
theorem i_16_30 : pg_at 16 30 = some (0, 0, 0, 0) := by decide +kernel
theorem i_16_31 : pg_at 16 31 = some (2, 4, 0, 0) := by decide +kernel
theorem i_16_32 : pg_at 16 32 = some (1, 4, 0, 0) := by decide +kernel
theorem i_16_33 : pg_at 16 33 = some (17, 44, 0, 0) := by decide +kernel
theorem i_16_34 : pg_at 16 34 = some (3, 0, 0, 0) := by decide +kernel
theorem i_16_35 : pg_at 16 35 = some (34, 2, 0, 9) := by decide +kernel
theorem i_16_36 : pg_at 16 36 = some (1, 3, 0, 0) := by decide +kernel
theorem i_16_37 : pg_at 16 37 = some (0, 0, 0, 1) := by decide +kernel
theorem i_16_38 : pg_at 16 38 = some (7, 0, 0, 0) := by decide +kernel
theorem i_16_39 : pg_at 16 39 = some (27, 0, 0, 0) := by decide +kernel
theorem i_16_40 : pg_at 16 40 = some (0, 0, 0, (-1)) := by decide +kernel
theorem i_16_41 : pg_at 16 41 = some (18, 44, 1, 0) := by decide +kernel
theorem i_16_42 : pg_at 16 42 = some (0, 0, 0, 1) := by decide +kernel
theorem i_16_43 : pg_at 16 43 = some (16, 45, 0, 0) := by decide +kernel
theorem i_16_44 : pg_at 16 44 = some (0, 0, 0, 0) := by decide +kernel
theorem i_16_45 : pg_at 16 45 = some (2, 5, 0, 0) := by decide +kernel
theorem i_16_46 : pg_at 16 46 = some (0, 0, 0, 0) := by decide +kernel
theorem i_16_47 : pg_at 16 47 = some (2, 6, 0, 0) := by decide +kernel
theorem i_16_48 : pg_at 16 48 = some (1, 6, 0, 0) := by decide +kernel
theorem i_16_49 : pg_at 16 49 = some (3, 0, 0, 0) := by decide +kernel
theorem i_16_50 : pg_at 16 50 = some (33, 2, 12, 76) := by decide +kernel
theorem i_16_51 : pg_at 16 51 = some (18, 97, 3, 0) := by decide +kernel
theorem i_16_52 : pg_at 16 52 = some (1, 5, 0, 0) := by decide +kernel
theorem i_16_53 : pg_at 16 53 = some (17, 97, 1, 0) := by decide +kernel
theorem i_16_54 : pg_at 16 54 = some (3, 0, 0, 0) := by decide +kernel
theorem i_16_55 : pg_at 16 55 = some (34, 2, 7, 34) := by decide +kernel
theorem i_16_56 : pg_at 16 56 = some (1, 6, 0, 0) := by decide +kernel
theorem i_16_57 : pg_at 16 57 = some (29, 0, 0, 0) := by decide +kernel
theorem i_16_58 : pg_at 16 58 = some (17, 60, 0, 0) := by decide +kernel
theorem i_16_59 : pg_at 16 59 = some (16, 95, 0, 0) := by decide +kernel
theorem i_16_60 : pg_at 16 60 = some (3, 0, 0, 0) := by decide +kernel
theorem i_16_61 : pg_at 16 61 = some (34, 2, 0, 9) := by decide +kernel
theorem i_16_62 : pg_at 16 62 = some (1, 3, 0, 0) := by decide +kernel
theorem i_16_63 : pg_at 16 63 = some (3, 0, 0, 0) := by decide +kernel
theorem i_16_64 : pg_at 16 64 = some (34, 2, 5, 28) := by decide +kernel
theorem i_16_65 : pg_at 16 65 = some (1, 6, 0, 0) := by decide +kernel
theorem i_16_66 : pg_at 16 66 = some (27, 0, 0, 0) := by decide +kernel
theorem i_16_67 : pg_at 16 67 = some (28, 0, 0, 0) := by decide +kernel
theorem i_16_68 : pg_at 16 68 = some (3, 0, 0, 0) := by decide +kernel
theorem i_16_69 : pg_at 16 69 = some (1, 3, 0, 0) := by decide +kernel
theorem i_16_70 : pg_at 16 70 = some (0, 0, 0, 2) := by decide +kernel
theorem i_16_71 : pg_at 16 71 = some (9, 0, 0, 0) := by decide +kernel
theorem i_16_72 : pg_at 16 72 = some (41, 18, 0, 104) := by decide +kernel
theorem i_16_73 : pg_at 16 73 = some (17, 95, 1, 0) := by decide +kernel
theorem i_16_74 : pg_at 16 74 = some (3, 0, 0, 0) := by decide +kernel
theorem i_16_75 : pg_at 16 75 = some (34, 2, 7, 34) := by decide +kernel
theorem i_16_76 : pg_at 16 76 = some (1, 6, 0, 0) := by decide +kernel
theorem i_16_77 : pg_at 16 77 = some (0, 0, 0, 1) := by decide +kernel
theorem i_16_78 : pg_at 16 78 = some (30, 0, 0, 0) := by decide +kernel
theorem i_16_79 : pg_at 16 79 = some (3, 0, 0, 0) := by decide +kernel
theorem i_16_80 : pg_at 16 80 = some (1, 1, 0, 0) := by decide +kernel
theorem i_16_81 : pg_at 16 81 = some (0, 0, 0, 1) := by decide +kernel
theorem i_16_82 : pg_at 16 82 = some (6, 0, 0, 0) := by decide +kernel
theorem i_16_83 : pg_at 16 83 = some (1, 2, 0, 0) := by decide +kernel
theorem i_16_84 : pg_at 16 84 = some (3, 0, 0, 0) := by decide +kernel
theorem i_16_85 : pg_at 16 85 = some (34, 2, 6, 31) := by decide +kernel
theorem i_16_86 : pg_at 16 86 = some (1, 6, 0, 0) := by decide +kernel
theorem i_16_87 : pg_at 16 87 = some (27, 0, 0, 0) := by decide +kernel
theorem i_16_88 : pg_at 16 88 = some (6, 0, 0, 0) := by decide +kernel
theorem i_16_89 : pg_at 16 89 = some (40, 16, 0, 96) := by decide +kernel
theorem i_16_90 : pg_at 16 90 = some (3, 0, 0, 0) := by decide +kernel
theorem i_16_91 : pg_at 16 91 = some (34, 2, 7, 34) := by decide +kernel
theorem i_16_92 : pg_at 16 92 = some (1, 6, 0, 0) := by decide +kernel
theorem i_16_93 : pg_at 16 93 = some (0, 0, 0, 0) := by decide +kernel
theorem i_16_94 : pg_at 16 94 = some (30, 0, 0, 0) := by decide +kernel
theorem i_16_95 : pg_at 16 95 = some (5, 6, 0, 1) := by decide +kernel
theorem i_16_96 : pg_at 16 96 = some (16, 48, 0, 0) := by decide +kernel
theorem i_16_97 : pg_at 16 97 = some (3, 0, 0, 0) := by decide +kernel
theorem i_16_98 : pg_at 16 98 = some (34, 2, 0, 9) := by decide +kernel
theorem i_16_99 : pg_at 16 99 = some (1, 3, 0, 0) := by decide +kernel
theorem i_16_100 : pg_at 16 100 = some (0, 0, 0, (-1)) := by decide +kernel
theorem i_16_101 : pg_at 16 101 = some (28, 0, 0, 0) := by decide +kernel
theorem i_16_102 : pg_at 16 102 = some (1, 4, 0, 0) := by decide +kernel
theorem i_16_103 : pg_at 16 103 = some (17, 106, 0, 0) := by decide +kernel
theorem i_16_104 : pg_at 16 104 = some (1, 5, 0, 0) := by decide +kernel
theorem i_16_105 : pg_at 16 105 = some (17, 112, 0, 0) := by decide +kernel
theorem i_16_106 : pg_at 16 106 = some (3, 0, 0, 0) := by decide +kernel
theorem i_16_107 : pg_at 16 107 = some (1, 1, 0, 0) := by decide +kernel
theorem i_16_108 : pg_at 16 108 = some (0, 0, 0, 1) := by decide +kernel
theorem i_16_109 : pg_at 16 109 = some (6, 0, 0, 0) := by decide +kernel
theorem i_16_110 : pg_at 16 110 = some (1, 2, 0, 0) := by decide +kernel
theorem i_16_111 : pg_at 16 111 = some (40, 16, 0, 96) := by decide +kernel
theorem i_16_112 : pg_at 16 112 = some (47, 0, 0, 0) := by decide +kernel
theorem mf_16 : pg_na 16 = 3 ∧ pg_ml 16 = 7 ∧ pg_cst 16 = 0 ∧ pg_cl 16 = 2 := by decide +kernel
theorem hx_16 : pg_hx 16 = [] := by decide +kernel
theorem i_17_0 : pg_at 17 0 = some (1, 1, 0, 0) := by decide +kernel
theorem i_17_1 : pg_at 17 1 = some (3, 0, 0, 0) := by decide +kernel
theorem i_17_2 : pg_at 17 2 = some (33, 2, 13, 93) := by decide +kernel
theorem i_17_3 : pg_at 17 3 = some (18, 5, 4, 0) := by decide +kernel
theorem i_17_4 : pg_at 17 4 = some (47, 0, 0, 0) := by decide +kernel
theorem i_17_5 : pg_at 17 5 = some (3, 0, 0, 0) := by decide +kernel
theorem i_17_6 : pg_at 17 6 = some (1, 1, 0, 0) := by decide +kernel
theorem i_17_7 : pg_at 17 7 = some (35, 2, 13, 93) := by decide +kernel
theorem i_17_8 : pg_at 17 8 = some (0, 0, 0, 0) := by decide +kernel
theorem i_17_9 : pg_at 17 9 = some (2, 2, 0, 0) := by decide +kernel
theorem i_17_10 : pg_at 17 10 = some (1, 2, 0, 0) := by decide +kernel
theorem i_17_11 : pg_at 17 11 = some (3, 0, 0, 0) := by decide +kernel
theorem i_17_12 : pg_at 17 12 = some (33, 2, 11, 54) := by decide +kernel
theorem i_17_13 : pg_at 17 13 = some (18, 30, 3, 0) := by decide +kernel
theorem i_17_14 : pg_at 17 14 = some (1, 2, 0, 0) := by decide +kernel
theorem i_17_15 : pg_at 17 15 = some (0, 0, 0, 4) := by decide +kernel
theorem i_17_16 : pg_at 17 16 = some (18, 30, 3, 0) := by decide +kernel
theorem i_17_17 : pg_at 17 17 = some (3, 0, 0, 0) := by decide +kernel
theorem i_17_18 : pg_at 17 18 = some (34, 2, 3, 22) := by decide +kernel
theorem i_17_19 : pg_at 17 19 = some (1, 2, 0, 0) := by decide +kernel
theorem i_17_20 : pg_at 17 20 = some (3, 0, 0, 0) := by decide +kernel
theorem i_17_21 : pg_at 17 21 = some (34, 2, 0, 9) := by decide +kernel
theorem i_17_22 : pg_at 17 22 = some (3, 0, 0, 0) := by decide +kernel
theorem i_17_23 : pg_at 17 23 = some (34, 2, 2, 19) := by decide +kernel
theorem i_17_24 : pg_at 17 24 = some (1, 2, 0, 0) := by decide +kernel
theorem i_17_25 : pg_at 17 25 = some (27, 0, 0, 0) := by decide +kernel
theorem i_17_26 : pg_at 17 26 = some (27, 0, 0, 0) := by decide +kernel
theorem i_17_27 : pg_at 17 27 = some (28, 0, 0, 0) := by decide +kernel
theorem i_17_28 : pg_at 17 28 = some (5, 2, 0, 1) := by decide +kernel
theorem i_17_29 : pg_at 17 29 = some (16, 10, 0, 0) := by decide +kernel
theorem i_17_30 : pg_at 17 30 = some (47, 0, 0, 0) := by decide +kernel
theorem mf_17 : pg_na 17 = 2 ∧ pg_ml 17 = 3 ∧ pg_cst 17 = 0 ∧ pg_cl 17 = 2 := by decide +kernel
theorem hx_17 : pg_hx 17 = [] := by decide +kernel
theorem i_18_0 : pg_at 18 0 = some (3, 0, 0, 0) := by decide +kernel
theorem i_18_1 : pg_at 18 1 = some (34, 2, 0, 9) := by decide +kernel
theorem i_18_2 : pg_at 18 2 = some (0, 0, 0, 2) := by decide +kernel
theorem i_18_3 : pg_at 18 3 = some (1, 1, 0, 0) := by decide +kernel
theorem i_18_4 : pg_at 18 4 = some (8, 0, 0, 0) := by decide +kernel
theorem i_18_5 : pg_at 18 5 = some (27, 0, 0, 0) := by decide +kernel
theorem i_18_6 : pg_at 18 6 = some (2, 2, 0, 0) := by decide +kernel
theorem i_18_7 : pg_at 18 7 = some (3, 0, 0, 0) := by decide +kernel
theorem i_18_8 : pg_at 18 8 = some (34, 2, 0, 9) := by decide +kernel
theorem i_18_9 : pg_at 18 9 = some (0, 0, 0, 2) := by decide +kernel
theorem i_18_10 : pg_at 18 10 = some (1, 1, 0, 0) := by decide +kernel
theorem i_18_11 : pg_at 18 11 = some (8, 0, 0, 0) := by decide +kernel
theorem i_18_12 : pg_at 18 12 = some (0, 0, 0, 1) := by decide +kernel
theorem i_18_13 : pg_at 18 13 = some (6, 0, 0, 0) := by decide +kernel
theorem i_18_14 : pg_at 18 14 = some (27, 0, 0, 0) := by decide +kernel
theorem i_18_15 : pg_at 18 15 = some (2, 3, 0, 0) := by decide +kernel
theorem i_18_16 : pg_at 18 16 = some (1, 2, 0, 0) := by decide +kernel
theorem i_18_17 : pg_at 18 17 = some (0, 0, 0, (-1)) := by decide +kernel
theorem i_18_18 : pg_at 18 18 = some (18, 22, 0, 0) := by decide +kernel
theorem i_18_19 : pg_at 18 19 = some (1, 3, 0, 0) := by decide +kernel
theorem i_18_20 : pg_at 18 20 = some (0, 0, 0, (-1)) := by decide +kernel
theorem i_18_21 : pg_at 18 21 = some (18, 24, 1, 0) := by decide +kernel
theorem i_18_22 : pg_at 18 22 = some (0, 0, 0, 0) := by decide +kernel
theorem i_18_23 : pg_at 18 23 = some (45, 0, 0, 0) := by decide +kernel
theorem i_18_24 : pg_at 18 24 = some (3, 0, 0, 0) := by decide +kernel
theorem i_18_25 : pg_at 18 25 = some (34, 2, 9, 46) := by decide +kernel
theorem i_18_26 : pg_at 18 26 = some (34, 0, 0, 60) := by decide +kernel
theorem i_18_27 : pg_at 18 27 = some (1, 1, 0, 0) := by decide +kernel
theorem i_18_28 : pg_at 18 28 = some (31, 0, 0, 0) := by decide +kernel
theorem i_18_29 : pg_at 18 29 = some (33, 1, 2, 107) := by decide +kernel
theorem i_18_30 : pg_at 18 30 = some (2, 4, 0, 0) := by decide +kernel
theorem i_18_31 : pg_at 18 31 = some (3, 0, 0, 0) := by decide +kernel
theorem i_18_32 : pg_at 18 32 = some (34, 2, 8, 39) := by decide +kernel
theorem i_18_33 : pg_at 18 33 = some (1, 4, 0, 0) := by decide +kernel
theorem i_18_34 : pg_at 18 34 = some (17, 37, 0, 0) := by decide +kernel
theorem i_18_35 : pg_at 18 35 = some (1, 3, 0, 0) := by decide +kernel
theorem i_18_36 : pg_at 18 36 = some (16, 38, 0, 0) := by decide +kernel
theorem i_18_37 : pg_at 18 37 = some (1, 2, 0, 0) := by decide +kernel
theorem i_18_38 : pg_at 18 38 = some (31, 0, 0, 0) := by decide +kernel
theorem i_18_39 : pg_at 18 39 = some (4, 5, 0, 0) := by decide +kernel
theorem i_18_40 : pg_at 18 40 = some (3, 5, 0, 0) := by decide +kernel
theorem i_18_41 : pg_at 18 41 = some (1, 4, 0, 0) := by decide +kernel
theorem i_18_42 : pg_at 18 42 = some (17, 45, 0, 0) := by decide +kernel
theorem i_18_43 : pg_at 18 43 = some (1, 2, 0, 0) := by decide +kernel
theorem i_18_44 : pg_at 18 44 = some (16, 46, 0, 0) := by decide +kernel
theorem i_18_45 : pg_at 18 45 = some (1, 3, 0, 0) := by decide +kernel
theorem i_18_46 : pg_at 18 46 = some (3, 0, 0, 0) := by decide +kernel
theorem i_18_47 : pg_at 18 47 = some (33, 2, 10, 50) := by decide +kernel
theorem i_18_48 : pg_at 18 48 = some (41, 28, 0, 111) := by decide +kernel
theorem i_18_49 : pg_at 18 49 = some (45, 0, 0, 0) := by decide +kernel
theorem mf_18 : pg_na 18 = 2 ∧ pg_ml 18 = 6 ∧ pg_cst 18 = 0 ∧ pg_cl 18 = 2 := by decide +kernel
theorem rt_18 : pg_rt 18 = some .boolean := by decide +kernel
theorem hx_18 : pg_hx 18 = [] := by decide +kernel
theorem i_19_0 : pg_at 19 0 = some (0, 0, 0, 0) := by decide +kernel
theorem i_19_1 : pg_at 19 1 = some (2, 1, 0, 0) := by decide +kernel
theorem i_19_2 : pg_at 19 2 = some (3, 0, 0, 0) := by decide +kernel
theorem i_19_3 : pg_at 19 3 = some (33, 2, 11, 54) := by decide +kernel
theorem i_19_4 : pg_at 19 4 = some (0, 0, 0, 4) := by decide +kernel
theorem i_19_5 : pg_at 19 5 = some (52, 0, 0, 115) := by decide +kernel
theorem i_19_6 : pg_at 19 6 = some (0, 0, 0, 1) := by decide +kernel
theorem i_19_7 : pg_at 19 7 = some (7, 0, 0, 0) := by decide +kernel
theorem i_19_8 : pg_at 19 8 = some (2, 2, 0, 0) := by decide +kernel
theorem i_19_9 : pg_at 19 9 = some (1, 2, 0, 0) := by decide +kernel
theorem i_19_10 : pg_at 19 10 = some (17, 77, 2, 0) := by decide +kernel
theorem i_19_11 : pg_at 19 11 = some (3, 0, 0, 0) := by decide +kernel
theorem i_19_12 : pg_at 19 12 = some (34, 2, 2, 19) := by decide +kernel
theorem i_19_13 : pg_at 19 13 = some (1, 2, 0, 0) := by decide +kernel
theorem i_19_14 : pg_at 19 14 = some (27, 0, 0, 0) := by decide +kernel
theorem i_19_15 : pg_at 19 15 = some (2, 3, 0, 0) := by decide +kernel
theorem i_19_16 : pg_at 19 16 = some (1, 3, 0, 0) := by decide +kernel
theorem i_19_17 : pg_at 19 17 = some (0, 0, 0, 2) := by decide +kernel
theorem i_19_18 : pg_at 19 18 = some (10, 0, 0, 0) := by decide +kernel
theorem i_19_19 : pg_at 19 19 = some (17, 22, 1, 0) := by decide +kernel
theorem i_19_20 : pg_at 19 20 = some (0, 0, 0, 1) := by decide +kernel
theorem i_19_21 : pg_at 19 21 = some (16, 23, 0, 0) := by decide +kernel
theorem i_19_22 : pg_at 19 22 = some (0, 0, 0, 0) := by decide +kernel
theorem i_19_23 : pg_at 19 23 = some (2, 4, 0, 0) := by decide +kernel
theorem i_19_24 : pg_at 19 24 = some (3, 0, 0, 0) := by decide +kernel
theorem i_19_25 : pg_at 19 25 = some (34, 2, 3, 22) := by decide +kernel
theorem i_19_26 : pg_at 19 26 = some (1, 2, 0, 0) := by decide +kernel
theorem i_19_27 : pg_at 19 27 = some (27, 0, 0, 0) := by decide +kernel
theorem i_19_28 : pg_at 19 28 = some (0, 0, 0, (-1)) := by decide +kernel
theorem i_19_29 : pg_at 19 29 = some (18, 48, 1, 0) := by decide +kernel
theorem i_19_30 : pg_at 19 30 = some (1, 4, 0, 0) := by decide +kernel
theorem i_19_31 : pg_at 19 31 = some (17, 40, 0, 0) := by decide +kernel
theorem i_19_32 : pg_at 19 32 = some (3, 0, 0, 0) := by decide +kernel
theorem i_19_33 : pg_at 19 33 = some (34, 2, 1, 15) := by decide +kernel
theorem i_19_34 : pg_at 19 34 = some (1, 3, 0, 0) := by decide +kernel
theorem i_19_35 : pg_at 19 35 = some (0, 0, 0, 1) := by decide +kernel
theorem i_19_36 : pg_at 19 36 = some (6, 0, 0, 0) := by decide +kernel
theorem i_19_37 : pg_at 19 37 = some (29, 0, 0, 0) := by decide +kernel
theorem i_19_38 : pg_at 19 38 = some (17, 40, 0, 0) := by decide +kernel
theorem i_19_39 : pg_at 19 39 = some (16, 75, 0, 0) := by decide +kernel
theorem i_19_40 : pg_at 19 40 = some (3, 0, 0, 0) := by decide +kernel
theorem i_19_41 : pg_at 19 41 = some (34, 2, 9, 46) := by decide +kernel
theorem i_19_42 : pg_at 19 42 = some (1, 3, 0, 0) := by decide +kernel
theorem i_19_43 : pg_at 19 43 = some (0, 0, 0, 2) := by decide +kernel
theorem i_19_44 : pg_at 19 44 = some (9, 0, 0, 0) := by decide +kernel
theorem i_19_45 : pg_at 19 45 = some (41, 7, 0, 121) := by decide +kernel
theorem i_19_46 : pg_at 19 46 = some (5, 1, 0, 1) := by decide +kernel
theorem i_19_47 : pg_at 19 47 = some (16, 75, 0, 0) := by decide +kernel
theorem i_19_48 : pg_at 19 48 = some (1, 4, 0, 0) := by decide +kernel
theorem i_19_49 : pg_at 19 49 = some (17, 63, 0, 0) := by decide +kernel
theorem i_19_50 : pg_at 19 50 = some (3, 0, 0, 0) := by decide +kernel
theorem i_19_51 : pg_at 19 51 = some (34, 2, 9, 46) := by decide +kernel
theorem i_19_52 : pg_at 19 52 = some (34, 0, 0, 60) := by decide +kernel
theorem i_19_53 : pg_at 19 53 = some (1, 3, 0, 0) := by decide +kernel
theorem i_19_54 : pg_at 19 54 = some (0, 0, 0, 2) := by decide +kernel
theorem i_19_55 : pg_at 19 55 = some (9, 0, 0, 0) := by decide +kernel
theorem i_19_56 : pg_at 19 56 = some (31, 0, 0, 0) := by decide +kernel
theorem i_19_57 : pg_at 19 57 = some (3, 0, 0, 0) := by decide +kernel
theorem i_19_58 : pg_at 19 58 = some (34, 2, 3, 22) := by decide +kernel
theorem i_19_59 : pg_at 19 59 = some (1, 2, 0, 0) := by decide +kernel
theorem i_19_60 : pg_at 19 60 = some (27, 0, 0, 0) := by decide +kernel
theorem i_19_61 : pg_at 19 61 = some (35, 1, 0, 64) := by decide +kernel
theorem i_19_62 : pg_at 19 62 = some (16, 75, 0, 0) := by decide +kernel
theorem i_19_63 : pg_at 19 63 = some (3, 0, 0, 0) := by decide +kernel
theorem i_19_64 : pg_at 19 64 = some (34, 2, 9, 46) := by decide +kernel
theorem i_19_65 : pg_at 19 65 = some (34, 0, 0, 60) := by decide +kernel
theorem i_19_66 : pg_at 19 66 = some (1, 3, 0, 0) := by decide +kernel
theorem i_19_67 : pg_at 19 67 = some (0, 0, 0, 2) := by decide +kernel
theorem i_19_68 : pg_at 19 68 = some (9, 0, 0, 0) := by decide +kernel
theorem i_19_69 : pg_at 19 69 = some (31, 0, 0, 0) := by decide +kernel
theorem i_19_70 : pg_at 19 70 = some (3, 0, 0, 0) := by decide +kernel
theorem i_19_71 : pg_at 19 71 = some (34, 2, 3, 22) := by decide +kernel
theorem i_19_72 : pg_at 19 72 = some (1, 2, 0, 0) := by decide +kernel
theorem i_19_73 : pg_at 19 73 = some (27, 0, 0, 0) := by decide +kernel
theorem i_19_74 : pg_at 19 74 = some (35, 1, 1, 73) := by decide +kernel
theorem i_19_75 : pg_at 19 75 = some (5, 2, 0, (-1)) := by decide +kernel
theorem i_19_76 : pg_at 19 76 = some (16, 9, 0, 0) := by decide +kernel
theorem i_19_77 : pg_at 19 77 = some (1, 1, 0, 0) := by decide +kernel
theorem i_19_78 : pg_at 19 78 = some (45, 0, 0, 0) := by decide +kernel
theorem mf_19 : pg_na 19 = 1 ∧ pg_ml 19 = 5 ∧ pg_cst 19 = 0 ∧ pg_cl 19 = 2 := by decide +kernel
theorem rt_19 : pg_rt 19 ≠ some .boolean := by decide +kernel
theorem hx_19 : pg_hx 19 = [] := by decide +kernel
theorem i_20_0 : pg_at 20 0 = some (3, 0, 0, 0) := by decide +kernel
theorem i_20_1 : pg_at 20 1 = some (34, 2, 4, 25) := by decide +kernel
theorem i_20_2 : pg_at 20 2 = some (0, 0, 0, 0) := by decide +kernel
theorem i_20_3 : pg_at 20 3 = some (40, 76, 0, 124) := by decide +kernel
theorem i_20_4 : pg_at 20 4 = some (0, 0, 0, 0) := by decide +kernel
theorem i_20_5 : pg_at 20 5 = some (2, 1, 0, 0) := by decide +kernel
theorem i_20_6 : pg_at 20 6 = some (0, 0, 0, 1) := by decide +kernel
theorem i_20_7 : pg_at 20 7 = some (2, 2, 0, 0) := by decide +kernel
theorem i_20_8 : pg_at 20 8 = some (0, 0, 0, 0) := by decide +kernel
theorem i_20_9 : pg_at 20 9 = some (2, 3, 0, 0) := by decide +kernel
theorem i_20_10 : pg_at 20 10 = some (1, 2, 0, 0) := by decide +kernel
theorem i_20_11 : pg_at 20 11 = some (17, 25, 0, 0) := by decide +kernel
theorem i_20_12 : pg_at 20 12 = some (1, 3, 0, 0) := by decide +kernel
theorem i_20_13 : pg_at 20 13 = some (0, 0, 130, 1000000) := by decide +kernel
theorem i_20_14 : pg_at 20 14 = some (18, 25, 3, 0) := by decide +kernel
theorem i_20_15 : pg_at 20 15 = some (1, 1, 0, 0) := by decide +kernel
theorem i_20_16 : pg_at 20 16 = some (3, 0, 0, 0) := by decide +kernel
theorem i_20_17 : pg_at 20 17 = some (41, 22, 0, 131) := by decide +kernel
theorem i_20_18 : pg_at 20 18 = some (51, 0, 0, 135) := by decide +kernel
theorem i_20_19 : pg_at 20 19 = some (2, 1, 0, 0) := by decide +kernel
theorem i_20_20 : pg_at 20 20 = some (3, 0, 0, 0) := by decide +kernel
theorem i_20_21 : pg_at 20 21 = some (41, 21, 0, 138) := by decide +kernel
theorem i_20_22 : pg_at 20 22 = some (2, 2, 0, 0) := by decide +kernel
theorem i_20_23 : pg_at 20 23 = some (5, 3, 0, 1) := by decide +kernel
theorem i_20_24 : pg_at 20 24 = some (16, 10, 0, 0) := by decide +kernel
theorem i_20_25 : pg_at 20 25 = some (1, 1, 0, 0) := by decide +kernel
theorem i_20_26 : pg_at 20 26 = some (45, 0, 0, 0) := by decide +kernel
theorem mf_20 : pg_na 20 = 1 ∧ pg_ml 20 = 4 ∧ pg_cst 20 = 0 ∧ pg_cl 20 = 2 := by decide +kernel
theorem rt_20 : pg_rt 20 ≠ some .boolean := by decide +kernel
theorem hx_20 : pg_hx 20 = [] := by decide +kernel
theorem i_21_0 : pg_at 21 0 = some (0, 0, 0, 0) := by decide +kernel
theorem i_21_1 : pg_at 21 1 = some (2, 1, 0, 0) := by decide +kernel
theorem i_21_2 : pg_at 21 2 = some (1, 1, 0, 0) := by decide +kernel
theorem i_21_3 : pg_at 21 3 = some (3, 0, 0, 0) := by decide +kernel
theorem i_21_4 : pg_at 21 4 = some (33, 2, 11, 54) := by decide +kernel
theorem i_21_5 : pg_at 21 5 = some (18, 33, 3, 0) := by decide +kernel
theorem i_21_6 : pg_at 21 6 = some (1, 1, 0, 0) := by decide +kernel
theorem i_21_7 : pg_at 21 7 = some (0, 0, 0, 4) := by decide +kernel
theorem i_21_8 : pg_at 21 8 = some (18, 33, 3, 0) := by decide +kernel
theorem i_21_9 : pg_at 21 9 = some (3, 0, 0, 0) := by decide +kernel
theorem i_21_10 : pg_at 21 10 = some (34, 2, 4, 25) := by decide +kernel
theorem i_21_11 : pg_at 21 11 = some (1, 1, 0, 0) := by decide +kernel
theorem i_21_12 : pg_at 21 12 = some (27, 0, 0, 0) := by decide +kernel
theorem i_21_13 : pg_at 21 13 = some (3, 0, 0, 0) := by decide +kernel
theorem i_21_14 : pg_at 21 14 = some (33, 2, 12, 76) := by decide +kernel
theorem i_21_15 : pg_at 21 15 = some (18, 26, 3, 0) := by decide +kernel
theorem i_21_16 : pg_at 21 16 = some (3, 0, 0, 0) := by decide +kernel
theorem i_21_17 : pg_at 21 17 = some (34, 2, 4, 25) := by decide +kernel
theorem i_21_18 : pg_at 21 18 = some (1, 1, 0, 0) := by decide +kernel
theorem i_21_19 : pg_at 21 19 = some (14, 0, 0, 0) := by decide +kernel
theorem i_21_20 : pg_at 21 20 = some (27, 0, 0, 0) := by decide +kernel
theorem i_21_21 : pg_at 21 21 = some (0, 0, 0, 1) := by decide +kernel
theorem i_21_22 : pg_at 21 22 = some (6, 0, 0, 0) := by decide +kernel
theorem i_21_23 : pg_at 21 23 = some (28, 0, 0, 0) := by decide +kernel
theorem i_21_24 : pg_at 21 24 = some (0, 0, 0, 1) := by decide +kernel
theorem i_21_25 : pg_at 21 25 = some (45, 0, 0, 0) := by decide +kernel
theorem i_21_26 : pg_at 21 26 = some (3, 0, 0, 0) := by decide +kernel
theorem i_21_27 : pg_at 21 27 = some (34, 2, 4, 25) := by decide +kernel
theorem i_21_28 : pg_at 21 28 = some (1, 1, 0, 0) := by decide +kernel
theorem i_21_29 : pg_at 21 29 = some (0, 0, 0, 0) := by decide +kernel
theorem i_21_30 : pg_at 21 30 = some (28, 0, 0, 0) := by decide +kernel
theorem i_21_31 : pg_at 21 31 = some (5, 1, 0, 1) := by decide +kernel
theorem i_21_32 : pg_at 21 32 = some (16, 2, 0, 0) := by decide +kernel
theorem i_21_33 : pg_at 21 33 = some (0, 0, 0, 0) := by decide +kernel
theorem i_21_34 : pg_at 21 34 = some (45, 0, 0, 0) := by decide +kernel
theorem mf_21 : pg_na 21 = 1 ∧ pg_ml 21 = 2 ∧ pg_cst 21 = 0 ∧ pg_cl 21 = 2 := by decide +kernel
theorem rt_21 : pg_rt 21 = some .boolean := by decide +kernel
theorem hx_21 : pg_hx 21 = [] := by decide +kernel
theorem i_22_0 : pg_at 22 0 = some (3, 0, 0, 0) := by decide +kernel
theorem i_22_1 : pg_at 22 1 = some (33, 2, 11, 54) := by decide +kernel
theorem i_22_2 : pg_at 22 2 = some (0, 0, 0, 4) := by decide +kernel
theorem i_22_3 : pg_at 22 3 = some (52, 0, 0, 115) := by decide +kernel
theorem i_22_4 : pg_at 22 4 = some (2, 1, 0, 0) := by decide +kernel
theorem i_22_5 : pg_at 22 5 = some (0, 0, 0, 0) := by decide +kernel
theorem i_22_6 : pg_at 22 6 = some (2, 2, 0, 0) := by decide +kernel
theorem i_22_7 : pg_at 22 7 = some (1, 2, 0, 0) := by decide +kernel
theorem i_22_8 : pg_at 22 8 = some (1, 1, 0, 0) := by decide +kernel
theorem i_22_9 : pg_at 22 9 = some (18, 35, 3, 0) := by decide +kernel
theorem i_22_10 : pg_at 22 10 = some (3, 0, 0, 0) := by decide +kernel
theorem i_22_11 : pg_at 22 11 = some (34, 2, 0, 9) := by decide +kernel
theorem i_22_12 : pg_at 22 12 = some (3, 0, 0, 0) := by decide +kernel
theorem i_22_13 : pg_at 22 13 = some (34, 2, 2, 19) := by decide +kernel
theorem i_22_14 : pg_at 22 14 = some (1, 2, 0, 0) := by decide +kernel
theorem i_22_15 : pg_at 22 15 = some (27, 0, 0, 0) := by decide +kernel
theorem i_22_16 : pg_at 22 16 = some (3, 0, 0, 0) := by decide +kernel
theorem i_22_17 : pg_at 22 17 = some (34, 2, 4, 25) := by decide +kernel
theorem i_22_18 : pg_at 22 18 = some (1, 2, 0, 0) := by decide +kernel
theorem i_22_19 : pg_at 22 19 = some (27, 0, 0, 0) := by decide +kernel
theorem i_22_20 : pg_at 22 20 = some (3, 0, 0, 0) := by decide +kernel
theorem i_22_21 : pg_at 22 21 = some (33, 2, 12, 76) := by decide +kernel
theorem i_22_22 : pg_at 22 22 = some (18, 31, 3, 0) := by decide +kernel
theorem i_22_23 : pg_at 22 23 = some (3, 0, 0, 0) := by decide +kernel
theorem i_22_24 : pg_at 22 24 = some (34, 2, 5, 28) := by decide +kernel
theorem i_22_25 : pg_at 22 25 = some (3, 0, 0, 0) := by decide +kernel
theorem i_22_26 : pg_at 22 26 = some (34, 2, 4, 25) := by decide +kernel
theorem i_22_27 : pg_at 22 27 = some (1, 2, 0, 0) := by decide +kernel
theorem i_22_28 : pg_at 22 28 = some (27, 0, 0, 0) := by decide +kernel
theorem i_22_29 : pg_at 22 29 = some (27, 0, 0, 0) := by decide +kernel
theorem i_22_30 : pg_at 22 30 = some (16, 32, 0, 0) := by decide +kernel
theorem i_22_31 : pg_at 22 31 = some (0, 0, 0, (-1)) := by decide +kernel
theorem i_22_32 : pg_at 22 32 = some (28, 0, 0, 0) := by decide +kernel
theorem i_22_33 : pg_at 22 33 = some (5, 2, 0, 1) := by decide +kernel
theorem i_22_34 : pg_at 22 34 = some (16, 7, 0, 0) := by decide +kernel
theorem i_22_35 : pg_at 22 35 = some (0, 0, 0, 0) := by decide +kernel
theorem i_22_36 : pg_at 22 36 = some (2, 2, 0, 0) := by decide +kernel
theorem i_22_37 : pg_at 22 37 = some (0, 0, 0, 0) := by decide +kernel
theorem i_22_38 : pg_at 22 38 = some (2, 3, 0, 0) := by decide +kernel
theorem i_22_39 : pg_at 22 39 = some (1, 3, 0, 0) := by decide +kernel
theorem i_22_40 : pg_at 22 40 = some (1, 1, 0, 0) := by decide +kernel
theorem i_22_41 : pg_at 22 41 = some (18, 69, 3, 0) := by decide +kernel
theorem i_22_42 : pg_at 22 42 = some (3, 0, 0, 0) := by decide +kernel
theorem i_22_43 : pg_at 22 43 = some (1, 3, 0, 0) := by decide +kernel
theorem i_22_44 : pg_at 22 44 = some (41, 23, 0, 142) := by decide +kernel
theorem i_22_45 : pg_at 22 45 = some (17, 48, 1, 0) := by decide +kernel
theorem i_22_46 : pg_at 22 46 = some (0, 0, 0, (-1)) := by decide +kernel
theorem i_22_47 : pg_at 22 47 = some (45, 0, 0, 0) := by decide +kernel
theorem i_22_48 : pg_at 22 48 = some (1, 2, 0, 0) := by decide +kernel
theorem i_22_49 : pg_at 22 49 = some (3, 0, 0, 0) := by decide +kernel
theorem i_22_50 : pg_at 22 50 = some (34, 2, 4, 25) := by decide +kernel
theorem i_22_51 : pg_at 22 51 = some (1, 3, 0, 0) := by decide +kernel
theorem i_22_52 : pg_at 22 52 = some (27, 0, 0, 0) := by decide +kernel
theorem i_22_53 : pg_at 22 53 = some (3, 0, 0, 0) := by decide +kernel
theorem i_22_54 : pg_at 22 54 = some (33, 2, 12, 76) := by decide +kernel
theorem i_22_55 : pg_at 22 55 = some (18, 64, 3, 0) := by decide +kernel
theorem i_22_56 : pg_at 22 56 = some (3, 0, 0, 0) := by decide +kernel
theorem i_22_57 : pg_at 22 57 = some (34, 2, 6, 31) := by decide +kernel
theorem i_22_58 : pg_at 22 58 = some (3, 0, 0, 0) := by decide +kernel
theorem i_22_59 : pg_at 22 59 = some (34, 2, 4, 25) := by decide +kernel
theorem i_22_60 : pg_at 22 60 = some (1, 3, 0, 0) := by decide +kernel
theorem i_22_61 : pg_at 22 61 = some (27, 0, 0, 0) := by decide +kernel
theorem i_22_62 : pg_at 22 62 = some (27, 0, 0, 0) := by decide +kernel
theorem i_22_63 : pg_at 22 63 = some (16, 65, 0, 0) := by decide +kernel
theorem i_22_64 : pg_at 22 64 = some (0, 0, 0, 0) := by decide +kernel
theorem i_22_65 : pg_at 22 65 = some (6, 0, 0, 0) := by decide +kernel
theorem i_22_66 : pg_at 22 66 = some (2, 2, 0, 0) := by decide +kernel
theorem i_22_67 : pg_at 22 67 = some (5, 3, 0, 1) := by decide +kernel
theorem i_22_68 : pg_at 22 68 = some (16, 39, 0, 0) := by decide +kernel
theorem i_22_69 : pg_at 22 69 = some (1, 2, 0, 0) := by decide +kernel
theorem i_22_70 : pg_at 22 70 = some (45, 0, 0, 0) := by decide +kernel
theorem mf_22 : pg_na 22 = 1 ∧ pg_ml 22 = 4 ∧ pg_cst 22 = 0 ∧ pg_cl 22 = 2 := by decide +kernel
theorem rt_22 : pg_rt 22 ≠ some .boolean := by decide +kernel
theorem hx_22 : pg_hx 22 = [] := by decide +kernel
theorem i_23_0 : pg_at 23 0 = some (3, 0, 0, 0) := by decide +kernel
theorem i_23_1 : pg_at 23 1 = some (34, 2, 2, 19) := by decide +kernel
theorem i_23_2 : pg_at 23 2 = some (1, 1, 0, 0) := by decide +kernel
theorem i_23_3 : pg_at 23 3 = some (27, 0, 0, 0) := by decide +kernel
theorem i_23_4 : pg_at 23 4 = some (2, 2, 0, 0) := by decide +kernel
theorem i_23_5 : pg_at 23 5 = some (1, 2, 0, 0) := by decide +kernel
theorem i_23_6 : pg_at 23 6 = some (0, 0, 0, 2) := by decide +kernel
theorem i_23_7 : pg_at 23 7 = some (10, 0, 0, 0) := by decide +kernel
theorem i_23_8 : pg_at 23 8 = some (17, 13, 1, 0) := by decide +kernel
theorem i_23_9 : pg_at 23 9 = some (1, 2, 0, 0) := by decide +kernel
theorem i_23_10 : pg_at 23 10 = some (0, 0, 0, 1) := by decide +kernel
theorem i_23_11 : pg_at 23 11 = some (6, 0, 0, 0) := by decide +kernel
theorem i_23_12 : pg_at 23 12 = some (16, 16, 0, 0) := by decide +kernel
theorem i_23_13 : pg_at 23 13 = some (1, 2, 0, 0) := by decide +kernel
theorem i_23_14 : pg_at 23 14 = some (0, 0, 0, 1) := by decide +kernel
theorem i_23_15 : pg_at 23 15 = some (7, 0, 0, 0) := by decide +kernel
theorem i_23_16 : pg_at 23 16 = some (2, 3, 0, 0) := by decide +kernel
theorem i_23_17 : pg_at 23 17 = some (3, 0, 0, 0) := by decide +kernel
theorem i_23_18 : pg_at 23 18 = some (34, 2, 1, 15) := by decide +kernel
theorem i_23_19 : pg_at 23 19 = some (1, 3, 0, 0) := by decide +kernel
theorem i_23_20 : pg_at 23 20 = some (29, 0, 0, 0) := by decide +kernel
theorem i_23_21 : pg_at 23 21 = some (17, 43, 0, 0) := by decide +kernel
theorem i_23_22 : pg_at 23 22 = some (3, 0, 0, 0) := by decide +kernel
theorem i_23_23 : pg_at 23 23 = some (34, 2, 0, 9) := by decide +kernel
theorem i_23_24 : pg_at 23 24 = some (1, 2, 0, 0) := by decide +kernel
theorem i_23_25 : pg_at 23 25 = some (27, 0, 0, 0) := by decide +kernel
theorem i_23_26 : pg_at 23 26 = some (0, 0, 0, (-1)) := by decide +kernel
theorem i_23_27 : pg_at 23 27 = some (18, 30, 1, 0) := by decide +kernel
theorem i_23_28 : pg_at 23 28 = some (0, 0, 0, 1) := by decide +kernel
theorem i_23_29 : pg_at 23 29 = some (16, 31, 0, 0) := by decide +kernel
theorem i_23_30 : pg_at 23 30 = some (0, 0, 0, 0) := by decide +kernel
theorem i_23_31 : pg_at 23 31 = some (3, 0, 0, 0) := by decide +kernel
theorem i_23_32 : pg_at 23 32 = some (34, 2, 0, 9) := by decide +kernel
theorem i_23_33 : pg_at 23 33 = some (1, 3, 0, 0) := by decide +kernel
theorem i_23_34 : pg_at 23 34 = some (27, 0, 0, 0) := by decide +kernel
theorem i_23_35 : pg_at 23 35 = some (0, 0, 0, (-1)) := by decide +kernel
theorem i_23_36 : pg_at 23 36 = some (18, 39, 1, 0) := by decide +kernel
theorem i_23_37 : pg_at 23 37 = some (0, 0, 0, 1) := by decide +kernel
theorem i_23_38 : pg_at 23 38 = some (16, 40, 0, 0) := by decide +kernel
theorem i_23_39 : pg_at 23 39 = some (0, 0, 0, 0) := by decide +kernel
theorem i_23_40 : pg_at 23 40 = some (18, 43, 0, 0) := by decide +kernel
theorem i_23_41 : pg_at 23 41 = some (0, 0, 0, 0) := by decide +kernel
theorem i_23_42 : pg_at 23 42 = some (45, 0, 0, 0) := by decide +kernel
theorem i_23_43 : pg_at 23 43 = some (0, 0, 0, 0) := by decide +kernel
theorem i_23_44 : pg_at 23 44 = some (2, 4, 0, 0) := by decide +kernel
theorem i_23_45 : pg_at 23 45 = some (1, 4, 0, 0) := by decide +kernel
theorem i_23_46 : pg_at 23 46 = some (1, 1, 0, 0) := by decide +kernel
theorem i_23_47 : pg_at 23 47 = some (18, 67, 3, 0) := by decide +kernel
theorem i_23_48 : pg_at 23 48 = some (3, 0, 0, 0) := by decide +kernel
theorem i_23_49 : pg_at 23 49 = some (34, 2, 0, 9) := by decide +kernel
theorem i_23_50 : pg_at 23 50 = some (1, 2, 0, 0) := by decide +kernel
theorem i_23_51 : pg_at 23 51 = some (27, 0, 0, 0) := by decide +kernel
theorem i_23_52 : pg_at 23 52 = some (0, 0, 0, (-1)) := by decide +kernel
theorem i_23_53 : pg_at 23 53 = some (18, 65, 0, 0) := by decide +kernel
theorem i_23_54 : pg_at 23 54 = some (3, 0, 0, 0) := by decide +kernel
theorem i_23_55 : pg_at 23 55 = some (34, 2, 4, 25) := by decide +kernel
theorem i_23_56 : pg_at 23 56 = some (1, 4, 0, 0) := by decide +kernel
theorem i_23_57 : pg_at 23 57 = some (27, 0, 0, 0) := by decide +kernel
theorem i_23_58 : pg_at 23 58 = some (3, 0, 0, 0) := by decide +kernel
theorem i_23_59 : pg_at 23 59 = some (34, 2, 4, 25) := by decide +kernel
theorem i_23_60 : pg_at 23 60 = some (1, 1, 0, 0) := by decide +kernel
theorem i_23_61 : pg_at 23 61 = some (27, 0, 0, 0) := by decide +kernel
theorem i_23_62 : pg_at 23 62 = some (18, 65, 1, 0) := by decide +kernel
theorem i_23_63 : pg_at 23 63 = some (0, 0, 0, 0) := by decide +kernel
theorem i_23_64 : pg_at 23 64 = some (45, 0, 0, 0) := by decide +kernel
theorem i_23_65 : pg_at 23 65 = some (5, 4, 0, 1) := by decide +kernel
theorem i_23_66 : pg_at 23 66 = some (16, 45, 0, 0) := by decide +kernel
theorem i_23_67 : pg_at 23 67 = some (3, 0, 0, 0) := by decide +kernel
theorem i_23_68 : pg_at 23 68 = some (1, 2, 0, 0) := by decide +kernel
theorem i_23_69 : pg_at 23 69 = some (0, 0, 0, 2) := by decide +kernel
theorem i_23_70 : pg_at 23 70 = some (9, 0, 0, 0) := by decide +kernel
theorem i_23_71 : pg_at 23 71 = some (41, 18, 0, 104) := by decide +kernel
theorem i_23_72 : pg_at 23 72 = some (17, 75, 1, 0) := by decide +kernel
theorem i_23_73 : pg_at 23 73 = some (0, 0, 0, 1) := by decide +kernel
theorem i_23_74 : pg_at 23 74 = some (16, 76, 0, 0) := by decide +kernel
theorem i_23_75 : pg_at 23 75 = some (0, 0, 0, 0) := by decide +kernel
theorem i_23_76 : pg_at 23 76 = some (45, 0, 0, 0) := by decide +kernel
theorem mf_23 : pg_na 23 = 2 ∧ pg_ml 23 = 5 ∧ pg_cst 23 = 0 ∧ pg_cl 23 = 2 := by decide +kernel
theorem rt_23 : pg_rt 23 = some .boolean := by decide +kernel
theorem hx_23 : pg_hx 23 = [] := by decide +kernel
theorem i_24_0 : pg_at 24 0 = some (3, 0, 0, 0) := by decide +kernel
theorem i_24_1 : pg_at 24 1 = some (43, 0, 0, 3) := by decide +kernel
theorem i_24_2 : pg_at 24 2 = some (3, 0, 0, 0) := by decide +kernel
theorem i_24_3 : pg_at 24 3 = some (0, 0, 0, 512) := by decide +kernel
theorem i_24_4 : pg_at 24 4 = some (38, 7, 0, 0) := by decide +kernel
theorem i_24_5 : pg_at 24 5 = some (36, 3, 0, 9) := by decide +kernel
theorem i_24_6 : pg_at 24 6 = some (3, 0, 0, 0) := by decide +kernel
theorem i_24_7 : pg_at 24 7 = some (0, 0, 0, 512) := by decide +kernel
theorem i_24_8 : pg_at 24 8 = some (38, 7, 0, 0) := by decide +kernel
theorem i_24_9 : pg_at 24 9 = some (36, 3, 1, 15) := by decide +kernel
theorem i_24_10 : pg_at 24 10 = some (3, 0, 0, 0) := by decide +kernel
theorem i_24_11 : pg_at 24 11 = some (0, 0, 0, (-1)) := by decide +kernel
theorem i_24_12 : pg_at 24 12 = some (35, 3, 3, 18) := by decide +kernel
theorem i_24_13 : pg_at 24 13 = some (47, 0, 0, 0) := by decide +kernel
theorem mf_24 : pg_na 24 = 1 ∧ pg_ml 24 = 1 ∧ pg_cst 24 = 1026 ∧ pg_cl 24 = 3 := by decide +kernel
theorem hx_24 : pg_hx 24 = [] := by decide +kernel
theorem i_25_0 : pg_at 25 0 = some (3, 0, 0, 0) := by decide +kernel
theorem i_25_1 : pg_at 25 1 = some (1, 1, 0, 0) := by decide +kernel
theorem i_25_2 : pg_at 25 2 = some (35, 3, 3, 18) := by decide +kernel
theorem i_25_3 : pg_at 25 3 = some (3, 0, 0, 0) := by decide +kernel
theorem i_25_4 : pg_at 25 4 = some (33, 3, 2, 22) := by decide +kernel
theorem i_25_5 : pg_at 25 5 = some (0, 0, 0, 512) := by decide +kernel
theorem i_25_6 : pg_at 25 6 = some (18, 25, 3, 0) := by decide +kernel
theorem i_25_7 : pg_at 25 7 = some (3, 0, 0, 0) := by decide +kernel
theorem i_25_8 : pg_at 25 8 = some (34, 3, 0, 9) := by decide +kernel
theorem i_25_9 : pg_at 25 9 = some (3, 0, 0, 0) := by decide +kernel
theorem i_25_10 : pg_at 25 10 = some (33, 3, 2, 22) := by decide +kernel
theorem i_25_11 : pg_at 25 11 = some (1, 1, 0, 0) := by decide +kernel
theorem i_25_12 : pg_at 25 12 = some (28, 0, 0, 0) := by decide +kernel
theorem i_25_13 : pg_at 25 13 = some (3, 0, 0, 0) := by decide +kernel
theorem i_25_14 : pg_at 25 14 = some (34, 3, 1, 15) := by decide +kernel
theorem i_25_15 : pg_at 25 15 = some (3, 0, 0, 0) := by decide +kernel
theorem i_25_16 : pg_at 25 16 = some (33, 3, 2, 22) := by decide +kernel
theorem i_25_17 : pg_at 25 17 = some (1, 2, 0, 0) := by decide +kernel
theorem i_25_18 : pg_at 25 18 = some (28, 0, 0, 0) := by decide +kernel
theorem i_25_19 : pg_at 25 19 = some (3, 0, 0, 0) := by decide +kernel
theorem i_25_20 : pg_at 25 20 = some (13, 0, 0, 0) := by decide +kernel
theorem i_25_21 : pg_at 25 21 = some (33, 3, 2, 22) := by decide +kernel
theorem i_25_22 : pg_at 25 22 = some (0, 0, 0, 1) := by decide +kernel
theorem i_25_23 : pg_at 25 23 = some (6, 0, 0, 0) := by decide +kernel
theorem i_25_24 : pg_at 25 24 = some (35, 3, 2, 22) := by decide +kernel
theorem i_25_25 : pg_at 25 25 = some (47, 0, 0, 0) := by decide +kernel
theorem mf_25 : pg_na 25 = 3 ∧ pg_ml 25 = 3 ∧ pg_cst 25 = 0 ∧ pg_cl 25 = 3 := by decide +kernel
theorem hx_25 : pg_hx 25 = [] := by decide +kernel
theorem i_26_0 : pg_at 26 0 = some (3, 0, 0, 0) := by decide +kernel
theorem i_26_1 : pg_at 26 1 = some (43, 0, 0, 3) := by decide +kernel
theorem i_26_2 : pg_at 26 2 = some (3, 0, 0, 0) := by decide +kernel
theorem i_26_3 : pg_at 26 3 = some (0, 0, 0, 4) := by decide +kernel
theorem i_26_4 : pg_at 26 4 = some (38, 7, 0, 0) := by decide +kernel
theorem i_26_5 : pg_at 26 5 = some (36, 4, 0, 9) := by decide +kernel
theorem i_26_6 : pg_at 26 6 = some (3, 0, 0, 0) := by decide +kernel
theorem i_26_7 : pg_at 26 7 = some (0, 0, 0, 10) := by decide +kernel
theorem i_26_8 : pg_at 26 8 = some (38, 7, 0, 0) := by decide +kernel
theorem i_26_9 : pg_at 26 9 = some (36, 4, 1, 15) := by decide +kernel
theorem i_26_10 : pg_at 26 10 = some (3, 0, 0, 0) := by decide +kernel
theorem i_26_11 : pg_at 26 11 = some (0, 0, 0, 10) := by decide +kernel
theorem i_26_12 : pg_at 26 12 = some (38, 7, 0, 0) := by decide +kernel
theorem i_26_13 : pg_at 26 13 = some (36, 4, 2, 18) := by decide +kernel
theorem i_26_14 : pg_at 26 14 = some (3, 0, 0, 0) := by decide +kernel
theorem i_26_15 : pg_at 26 15 = some (0, 0, 0, (-1)) := by decide +kernel
theorem i_26_16 : pg_at 26 16 = some (35, 4, 13, 21) := by decide +kernel
theorem i_26_17 : pg_at 26 17 = some (3, 0, 0, 0) := by decide +kernel
theorem i_26_18 : pg_at 26 18 = some (34, 4, 1, 15) := by decide +kernel
theorem i_26_19 : pg_at 26 19 = some (0, 0, 0, (-1)) := by decide +kernel
theorem i_26_20 : pg_at 26 20 = some (40, 76, 0, 25) := by decide +kernel
theorem i_26_21 : pg_at 26 21 = some (47, 0, 0, 0) := by decide +kernel
theorem mf_26 : pg_na 26 = 1 ∧ pg_ml 26 = 1 ∧ pg_cst 26 = 27 ∧ pg_cl 26 = 4 := by decide +kernel
theorem hx_26 : pg_hx 26 = [] := by decide +kernel
theorem i_27_0 : pg_at 27 0 = some (1, 1, 0, 0) := by decide +kernel
theorem i_27_1 : pg_at 27 1 = some (3, 0, 0, 0) := by decide +kernel
theorem i_27_2 : pg_at 27 2 = some (33, 4, 7, 31) := by decide +kernel
theorem i_27_3 : pg_at 27 3 = some (18, 6, 3, 0) := by decide +kernel
theorem i_27_4 : pg_at 27 4 = some (0, 0, 0, 1) := by decide +kernel
theorem i_27_5 : pg_at 27 5 = some (16, 7, 0, 0) := by decide +kernel
theorem i_27_6 : pg_at 27 6 = some (0, 0, 0, 0) := by decide +kernel
theorem i_27_7 : pg_at 27 7 = some (45, 0, 0, 0) := by decide +kernel
theorem mf_27 : pg_na 27 = 2 ∧ pg_ml 27 = 2 ∧ pg_cst 27 = 0 ∧ pg_cl 27 = 4 := by decide +kernel
theorem rt_27 : pg_rt 27 = some .boolean := by decide +kernel
theorem hx_27 : pg_hx 27 = [] := by decide +kernel
theorem i_28_0 : pg_at 28 0 = some (1, 2, 0, 0) := by decide +kernel
theorem i_28_1 : pg_at 28 1 = some (3, 0, 0, 0) := by decide +kernel
theorem i_28_2 : pg_at 28 2 = some (34, 4, 1, 15) := by decide +kernel
theorem i_28_3 : pg_at 28 3 = some (1, 1, 0, 0) := by decide +kernel
theorem i_28_4 : pg_at 28 4 = some (27, 0, 0, 0) := by decide +kernel
theorem i_28_5 : pg_at 28 5 = some (18, 10, 5, 0) := by decide +kernel
theorem i_28_6 : pg_at 28 6 = some (1, 2, 0, 0) := by decide +kernel
theorem i_28_7 : pg_at 28 7 = some (3, 0, 0, 0) := by decide +kernel
theorem i_28_8 : pg_at 28 8 = some (33, 4, 12, 34) := by decide +kernel
theorem i_28_9 : pg_at 28 9 = some (18, 12, 3, 0) := by decide +kernel
theorem i_28_10 : pg_at 28 10 = some (0, 0, 0, 1) := by decide +kernel
theorem i_28_11 : pg_at 28 11 = some (16, 13, 0, 0) := by decide +kernel
theorem i_28_12 : pg_at 28 12 = some (0, 0, 0, 0) := by decide +kernel
theorem i_28_13 : pg_at 28 13 = some (45, 0, 0, 0) := by decide +kernel
theorem mf_28 : pg_na 28 = 3 ∧ pg_ml 28 = 3 ∧ pg_cst 28 = 0 ∧ pg_cl 28 = 4 := by decide +kernel
theorem rt_28 : pg_rt 28 = some .boolean := by decide +kernel
theorem hx_28 : pg_hx 28 = [] := by decide +kernel
theorem i_29_0 : pg_at 29 0 = some (0, 0, 0, 1) := by decide +kernel
theorem i_29_1 : pg_at 29 1 = some (3, 0, 0, 0) := by decide +kernel
theorem i_29_2 : pg_at 29 2 = some (33, 4, 3, 37) := by decide +kernel
theorem i_29_3 : pg_at 29 3 = some (3, 0, 0, 0) := by decide +kernel
theorem i_29_4 : pg_at 29 4 = some (34, 4, 0, 9) := by decide +kernel
theorem i_29_5 : pg_at 29 5 = some (1, 1, 0, 0) := by decide +kernel
theorem i_29_6 : pg_at 29 6 = some (27, 0, 0, 0) := by decide +kernel
theorem i_29_7 : pg_at 29 7 = some (53, 0, 0, 40) := by decide +kernel
theorem i_29_8 : pg_at 29 8 = some (6, 0, 0, 0) := by decide +kernel
theorem i_29_9 : pg_at 29 9 = some (3, 0, 0, 0) := by decide +kernel
theorem i_29_10 : pg_at 29 10 = some (33, 4, 6, 46) := by decide +kernel
theorem i_29_11 : pg_at 29 11 = some (0, 0, 0, 10) := by decide +kernel
theorem i_29_12 : pg_at 29 12 = some (9, 0, 0, 0) := by decide +kernel
theorem i_29_13 : pg_at 29 13 = some (7, 0, 0, 0) := by decide +kernel
theorem i_29_14 : pg_at 29 14 = some (51, 0, 0, 49) := by decide +kernel
theorem i_29_15 : pg_at 29 15 = some (45, 0, 0, 0) := by decide +kernel
theorem mf_29 : pg_na 29 = 2 ∧ pg_ml 29 = 2 ∧ pg_cst 29 = 0 ∧ pg_cl 29 = 4 := by decide +kernel
theorem rt_29 : pg_rt 29 ≠ some .boolean := by decide +kernel
theorem hx_29 : pg_hx 29 = [] := by decide +kernel
theorem i_30_0 : pg_at 30 0 = some (3, 0, 0, 0) := by decide +kernel
theorem i_30_1 : pg_at 30 1 = some (34, 4, 0, 9) := by decide +kernel
theorem i_30_2 : pg_at 30 2 = some (1, 1, 0, 0) := by decide +kernel
theorem i_30_3 : pg_at 30 3 = some (0, 0, 0, (-99)) := by decide +kernel
theorem i_30_4 : pg_at 30 4 = some (0, 0, 0, 99) := by decide +kernel
theorem i_30_5 : pg_at 30 5 = some (3, 0, 0, 0) := by decide +kernel
theorem i_30_6 : pg_at 30 6 = some (34, 4, 0, 9) := by decide +kernel
theorem i_30_7 : pg_at 30 7 = some (1, 1, 0, 0) := by decide +kernel
theorem i_30_8 : pg_at 30 8 = some (27, 0, 0, 0) := by decide +kernel
theorem i_30_9 : pg_at 30 9 = some (1, 2, 0, 0) := by decide +kernel
theorem i_30_10 : pg_at 30 10 = some (6, 0, 0, 0) := by decide +kernel
theorem i_30_11 : pg_at 30 11 = some (52, 0, 0, 53) := by decide +kernel
theorem i_30_12 : pg_at 30 12 = some (51, 0, 0, 49) := by decide +kernel
theorem i_30_13 : pg_at 30 13 = some (28, 0, 0, 0) := by decide +kernel
theorem i_30_14 : pg_at 30 14 = some (47, 0, 0, 0) := by decide +kernel
theorem mf_30 : pg_na 30 = 3 ∧ pg_ml 30 = 3 ∧ pg_cst 30 = 0 ∧ pg_cl 30 = 4 := by decide +kernel
theorem hx_30 : pg_hx 30 = [] := by decide +kernel
theorem i_31_0 : pg_at 31 0 = some (0, 0, 0, 0) := by decide +kernel
theorem i_31_1 : pg_at 31 1 = some (2, 1, 0, 0) := by decide +kernel
theorem i_31_2 : pg_at 31 2 = some (0, 0, 0, 0) := by decide +kernel
theorem i_31_3 : pg_at 31 3 = some (2, 2, 0, 0) := by decide +kernel
theorem i_31_4 : pg_at 31 4 = some (0, 0, 0, 0) := by decide +kernel
theorem i_31_5 : pg_at 31 5 = some (2, 3, 0, 0) := by decide +kernel
theorem i_31_6 : pg_at 31 6 = some (1, 3, 0, 0) := by decide +kernel
theorem i_31_7 : pg_at 31 7 = some (0, 0, 0, 4) := by decide +kernel
theorem i_31_8 : pg_at 31 8 = some (18, 25, 3, 0) := by decide +kernel
theorem i_31_9 : pg_at 31 9 = some (3, 0, 0, 0) := by decide +kernel
theorem i_31_10 : pg_at 31 10 = some (34, 4, 0, 9) := by decide +kernel
theorem i_31_11 : pg_at 31 11 = some (1, 3, 0, 0) := by decide +kernel
theorem i_31_12 : pg_at 31 12 = some (27, 0, 0, 0) := by decide +kernel
theorem i_31_13 : pg_at 31 13 = some (0, 0, 0, 50) := by decide +kernel
theorem i_31_14 : pg_at 31 14 = some (18, 16, 2, 0) := by decide +kernel
theorem i_31_15 : pg_at 31 15 = some (5, 1, 0, 1) := by decide +kernel
theorem i_31_16 : pg_at 31 16 = some (3, 0, 0, 0) := by decide +kernel
theorem i_31_17 : pg_at 31 17 = some (34, 4, 0, 9) := by decide +kernel
theorem i_31_18 : pg_at 31 18 = some (1, 3, 0, 0) := by decide +kernel
theorem i_31_19 : pg_at 31 19 = some (27, 0, 0, 0) := by decide +kernel
theorem i_31_20 : pg_at 31 20 = some (0, 0, 0, (-50)) := by decide +kernel
theorem i_31_21 : pg_at 31 21 = some (18, 23, 4, 0) := by decide +kernel
theorem i_31_22 : pg_at 31 22 = some (5, 2, 0, 1) := by decide +kernel
theorem i_31_23 : pg_at 31 23 = some (5, 3, 0, 1) := by decide +kernel
theorem i_31_24 : pg_at 31 24 = some (16, 6, 0, 0) := by decide +kernel
theorem i_31_25 : pg_at 31 25 = some (3, 0, 0, 0) := by decide +kernel
theorem i_31_26 : pg_at 31 26 = some (33, 4, 5, 56) := by decide +kernel
theorem i_31_27 : pg_at 31 27 = some (0, 0, 0, 1) := by decide +kernel
theorem i_31_28 : pg_at 31 28 = some (18, 36, 1, 0) := by decide +kernel
theorem i_31_29 : pg_at 31 29 = some (1, 1, 0, 0) := by decide +kernel
theorem i_31_30 : pg_at 31 30 = some (0, 0, 0, 2) := by decide +kernel
theorem i_31_31 : pg_at 31 31 = some (18, 36, 2, 0) := by decide +kernel
theorem i_31_32 : pg_at 31 32 = some (3, 0, 0, 0) := by decide +kernel
theorem i_31_33 : pg_at 31 33 = some (0, 0, 0, 0) := by decide +kernel
theorem i_31_34 : pg_at 31 34 = some (35, 4, 5, 56) := by decide +kernel
theorem i_31_35 : pg_at 31 35 = some (16, 45, 0, 0) := by decide +kernel
theorem i_31_36 : pg_at 31 36 = some (3, 0, 0, 0) := by decide +kernel
theorem i_31_37 : pg_at 31 37 = some (33, 4, 5, 56) := by decide +kernel
theorem i_31_38 : pg_at 31 38 = some (17, 45, 1, 0) := by decide +kernel
theorem i_31_39 : pg_at 31 39 = some (1, 2, 0, 0) := by decide +kernel
theorem i_31_40 : pg_at 31 40 = some (0, 0, 0, 2) := by decide +kernel
theorem i_31_41 : pg_at 31 41 = some (18, 45, 2, 0) := by decide +kernel
theorem i_31_42 : pg_at 31 42 = some (3, 0, 0, 0) := by decide +kernel
theorem i_31_43 : pg_at 31 43 = some (0, 0, 0, 1) := by decide +kernel
theorem i_31_44 : pg_at 31 44 = some (35, 4, 5, 56) := by decide +kernel
theorem i_31_45 : pg_at 31 45 = some (47, 0, 0, 0) := by decide +kernel
theorem mf_31 : pg_na 31 = 1 ∧ pg_ml 31 = 4 ∧ pg_cst 31 = 0 ∧ pg_cl 31 = 4 := by decide +kernel
theorem hx_31 : pg_hx 31 = [] := by decide +kernel
theorem i_32_0 : pg_at 32 0 = some (3, 0, 0, 0) := by decide +kernel
theorem i_32_1 : pg_at 32 1 = some (43, 0, 0, 3) := by decide +kernel
theorem i_32_2 : pg_at 32 2 = some (3, 0, 0, 0) := by decide +kernel
theorem i_32_3 : pg_at 32 3 = some (0, 0, 0, 10) := by decide +kernel
theorem i_32_4 : pg_at 32 4 = some (39, 12, 0, 9) := by decide +kernel
theorem i_32_5 : pg_at 32 5 = some (36, 5, 0, 11) := by decide +kernel
theorem i_32_6 : pg_at 32 6 = some (3, 0, 0, 0) := by decide +kernel
theorem i_32_7 : pg_at 32 7 = some (0, 0, 0, 4) := by decide +kernel
theorem i_32_8 : pg_at 32 8 = some (39, 11, 0, 15) := by decide +kernel
theorem i_32_9 : pg_at 32 9 = some (36, 5, 1, 17) := by decide +kernel
theorem i_32_10 : pg_at 32 10 = some (3, 0, 0, 0) := by decide +kernel
theorem i_32_11 : pg_at 32 11 = some (0, 0, 0, 1000) := by decide +kernel
theorem i_32_12 : pg_at 32 12 = some (39, 9, 0, 21) := by decide +kernel
theorem i_32_13 : pg_at 32 13 = some (36, 5, 2, 23) := by decide +kernel
theorem i_32_14 : pg_at 32 14 = some (3, 0, 0, 0) := by decide +kernel
theorem i_32_15 : pg_at 32 15 = some (37, 0, 0, 21) := by decide +kernel
theorem i_32_16 : pg_at 32 16 = some (13, 0, 0, 0) := by decide +kernel
theorem i_32_17 : pg_at 32 17 = some (42, 0, 0, 27) := by decide +kernel
theorem i_32_18 : pg_at 32 18 = some (36, 5, 3, 28) := by decide +kernel
theorem i_32_19 : pg_at 32 19 = some (3, 0, 0, 0) := by decide +kernel
theorem i_32_20 : pg_at 32 20 = some (0, 0, 0, 4) := by decide +kernel
theorem i_32_21 : pg_at 32 21 = some (38, 7, 0, 0) := by decide +kernel
theorem i_32_22 : pg_at 32 22 = some (36, 5, 4, 32) := by decide +kernel
theorem i_32_23 : pg_at 32 23 = some (3, 0, 0, 0) := by decide +kernel
theorem i_32_24 : pg_at 32 24 = some (37, 2, 0, 36) := by decide +kernel
theorem i_32_25 : pg_at 32 25 = some (13, 0, 0, 0) := by decide +kernel
theorem i_32_26 : pg_at 32 26 = some (42, 12, 1, 38) := by decide +kernel
theorem i_32_27 : pg_at 32 27 = some (36, 5, 5, 39) := by decide +kernel
theorem i_32_28 : pg_at 32 28 = some (0, 0, 0, 0) := by decide +kernel
theorem i_32_29 : pg_at 32 29 = some (2, 1, 0, 0) := by decide +kernel
theorem i_32_30 : pg_at 32 30 = some (1, 1, 0, 0) := by decide +kernel
theorem i_32_31 : pg_at 32 31 = some (0, 0, 0, 10) := by decide +kernel
theorem i_32_32 : pg_at 32 32 = some (18, 42, 3, 0) := by decide +kernel
theorem i_32_33 : pg_at 32 33 = some (3, 0, 0, 0) := by decide +kernel
theorem i_32_34 : pg_at 32 34 = some (34, 5, 0, 11) := by decide +kernel
theorem i_32_35 : pg_at 32 35 = some (1, 1, 0, 0) := by decide +kernel
theorem i_32_36 : pg_at 32 36 = some (37, 4, 0, 9) := by decide +kernel
theorem i_32_37 : pg_at 32 37 = some (13, 0, 0, 0) := by decide +kernel
theorem i_32_38 : pg_at 32 38 = some (42, 26, 0, 43) := by decide +kernel
theorem i_32_39 : pg_at 32 39 = some (32, 0, 0, 0) := by decide +kernel
theorem i_32_40 : pg_at 32 40 = some (5, 1, 0, 1) := by decide +kernel
theorem i_32_41 : pg_at 32 41 = some (16, 30, 0, 0) := by decide +kernel
theorem i_32_42 : pg_at 32 42 = some (0, 0, 0, 0) := by decide +kernel
theorem i_32_43 : pg_at 32 43 = some (2, 1, 0, 0) := by decide +kernel
theorem i_32_44 : pg_at 32 44 = some (1, 1, 0, 0) := by decide +kernel
theorem i_32_45 : pg_at 32 45 = some (0, 0, 0, 4) := by decide +kernel
theorem i_32_46 : pg_at 32 46 = some (18, 56, 3, 0) := by decide +kernel
theorem i_32_47 : pg_at 32 47 = some (3, 0, 0, 0) := by decide +kernel
theorem i_32_48 : pg_at 32 48 = some (34, 5, 1, 17) := by decide +kernel
theorem i_32_49 : pg_at 32 49 = some (1, 1, 0, 0) := by decide +kernel
theorem i_32_50 : pg_at 32 50 = some (37, 3, 0, 15) := by decide +kernel
theorem i_32_51 : pg_at 32 51 = some (13, 0, 0, 0) := by decide +kernel
theorem i_32_52 : pg_at 32 52 = some (42, 24, 1, 44) := by decide +kernel
theorem i_32_53 : pg_at 32 53 = some (32, 0, 0, 0) := by decide +kernel
theorem i_32_54 : pg_at 32 54 = some (5, 1, 0, 1) := by decide +kernel
theorem i_32_55 : pg_at 32 55 = some (16, 44, 0, 0) := by decide +kernel
theorem i_32_56 : pg_at 32 56 = some (47, 0, 0, 0) := by decide +kernel
theorem mf_32 : pg_na 32 = 1 ∧ pg_ml 32 = 2 ∧ pg_cst 32 = 6000 ∧ pg_cl 32 = 5 := by decide +kernel
theorem hx_32 : pg_hx 32 = [] := by decide +kernel
theorem i_33_0 : pg_at 33 0 = some (1, 1, 0, 0) := by decide +kernel
theorem i_33_1 : pg_at 33 1 = some (0, 0, 0, 0) := by decide +kernel
theorem i_33_2 : pg_at 33 2 = some (0, 0, 0, 99) := by decide +kernel
theorem i_33_3 : pg_at 33 3 = some (40, 59, 0, 45) := by decide +kernel
theorem i_33_4 : pg_at 33 4 = some (17, 15, 0, 0) := by decide +kernel
theorem i_33_5 : pg_at 33 5 = some (1, 2, 0, 0) := by decide +kernel
theorem i_33_6 : pg_at 33 6 = some (0, 0, 0, 0) := by decide +kernel
theorem i_33_7 : pg_at 33 7 = some (0, 0, 0, 99) := by decide +kernel
theorem i_33_8 : pg_at 33 8 = some (40, 59, 0, 45) := by decide +kernel
theorem i_33_9 : pg_at 33 9 = some (17, 15, 0, 0) := by decide +kernel
theorem i_33_10 : pg_at 33 10 = some (1, 3, 0, 0) := by decide +kernel
theorem i_33_11 : pg_at 33 11 = some (0, 0, 0, 0) := by decide +kernel
theorem i_33_12 : pg_at 33 12 = some (0, 0, 0, 1) := by decide +kernel
theorem i_33_13 : pg_at 33 13 = some (40, 59, 0, 45) := by decide +kernel
theorem i_33_14 : pg_at 33 14 = some (17, 20, 1, 0) := by decide +kernel
theorem i_33_15 : pg_at 33 15 = some (44, 1, 0, 0) := by decide +kernel
theorem i_33_20 : pg_at 33 20 = some (3, 0, 0, 0) := by decide +kernel
theorem i_33_21 : pg_at 33 21 = some (33, 5, 6, 56) := by decide +kernel
theorem i_33_22 : pg_at 33 22 = some (0, 0, 0, 10) := by decide +kernel
theorem i_33_23 : pg_at 33 23 = some (18, 29, 2, 0) := by decide +kernel
theorem i_33_24 : pg_at 33 24 = some (44, 2, 1, 0) := by decide +kernel
theorem i_33_29 : pg_at 33 29 = some (3, 0, 0, 0) := by decide +kernel
theorem i_33_30 : pg_at 33 30 = some (34, 5, 0, 11) := by decide +kernel
theorem i_33_31 : pg_at 33 31 = some (3, 0, 0, 0) := by decide +kernel
theorem i_33_32 : pg_at 33 32 = some (33, 5, 6, 56) := by decide +kernel
theorem i_33_33 : pg_at 33 33 = some (31, 0, 0, 0) := by decide +kernel
theorem i_33_34 : pg_at 33 34 = some (4, 4, 0, 0) := by decide +kernel
theorem i_33_35 : pg_at 33 35 = some (3, 4, 0, 0) := by decide +kernel
theorem i_33_36 : pg_at 33 36 = some (1, 1, 0, 0) := by decide +kernel
theorem i_33_37 : pg_at 33 37 = some (35, 4, 3, 65) := by decide +kernel
theorem i_33_38 : pg_at 33 38 = some (3, 4, 0, 0) := by decide +kernel
theorem i_33_39 : pg_at 33 39 = some (1, 2, 0, 0) := by decide +kernel
theorem i_33_40 : pg_at 33 40 = some (35, 4, 4, 68) := by decide +kernel
theorem i_33_41 : pg_at 33 41 = some (3, 4, 0, 0) := by decide +kernel
theorem i_33_42 : pg_at 33 42 = some (1, 3, 0, 0) := by decide +kernel
theorem i_33_43 : pg_at 33 43 = some (35, 4, 5, 71) := by decide +kernel
theorem i_33_44 : pg_at 33 44 = some (3, 0, 0, 0) := by decide +kernel
theorem i_33_45 : pg_at 33 45 = some (13, 0, 0, 0) := by decide +kernel
theorem i_33_46 : pg_at 33 46 = some (33, 5, 6, 56) := by decide +kernel
theorem i_33_47 : pg_at 33 47 = some (0, 0, 0, 1) := by decide +kernel
theorem i_33_48 : pg_at 33 48 = some (6, 0, 0, 0) := by decide +kernel
theorem i_33_49 : pg_at 33 49 = some (35, 5, 6, 56) := by decide +kernel
theorem i_33_50 : pg_at 33 50 = some (3, 0, 0, 0) := by decide +kernel
theorem i_33_51 : pg_at 33 51 = some (33, 5, 6, 56) := by decide +kernel
theorem i_33_52 : pg_at 33 52 = some (0, 0, 0, 1) := by decide +kernel
theorem i_33_53 : pg_at 33 53 = some (7, 0, 0, 0) := by decide +kernel
theorem i_33_54 : pg_at 33 54 = some (45, 0, 0, 0) := by decide +kernel
theorem mf_33 : pg_na 33 = 4 ∧ pg_ml 33 = 5 ∧ pg_cst 33 = 7 ∧ pg_cl 33 = 5 := by decide +kernel
theorem rt_33 : pg_rt 33 ≠ some .boolean := by decide +kernel
theorem hx_33 : pg_hx 33 = [] := by decide +kernel
theorem i_34_0 : pg_at 34 0 = some (3, 0, 0, 0) := by decide +kernel
theorem i_34_1 : pg_at 34 1 = some (33, 5, 7, 74) := by decide +kernel
theorem i_34_2 : pg_at 34 2 = some (0, 0, 0, 4) := by decide +kernel
theorem i_34_3 : pg_at 34 3 = some (18, 9, 2, 0) := by decide +kernel
theorem i_34_4 : pg_at 34 4 = some (44, 2, 2, 0) := by decide +kernel
theorem i_34_9 : pg_at 34 9 = some (3, 0, 0, 0) := by decide +kernel
theorem i_34_10 : pg_at 34 10 = some (13, 0, 0, 0) := by decide +kernel
theorem i_34_11 : pg_at 34 11 = some (33, 5, 7, 74) := by decide +kernel
theorem i_34_12 : pg_at 34 12 = some (0, 0, 0, 1) := by decide +kernel
theorem i_34_13 : pg_at 34 13 = some (6, 0, 0, 0) := by decide +kernel
theorem i_34_14 : pg_at 34 14 = some (35, 5, 7, 74) := by decide +kernel
theorem i_34_15 : pg_at 34 15 = some (3, 0, 0, 0) := by decide +kernel
theorem i_34_16 : pg_at 34 16 = some (33, 5, 7, 74) := by decide +kernel
theorem i_34_17 : pg_at 34 17 = some (0, 0, 0, 1) := by decide +kernel
theorem i_34_18 : pg_at 34 18 = some (7, 0, 0, 0) := by decide +kernel
theorem i_34_19 : pg_at 34 19 = some (45, 0, 0, 0) := by decide +kernel
theorem mf_34 : pg_na 34 = 1 ∧ pg_ml 34 = 1 ∧ pg_cst 34 = 7 ∧ pg_cl 34 = 5 := by decide +kernel
theorem rt_34 : pg_rt 34 ≠ some .boolean := by decide +kernel
theorem hx_34 : pg_hx 34 = [] := by decide +kernel
theorem i_35_0 : pg_at 35 0 = some (3, 0, 0, 0) := by decide +kernel
theorem i_35_1 : pg_at 35 1 = some (1, 1, 0, 0) := by decide +kernel
theorem i_35_2 : pg_at 35 2 = some (41, 60, 0, 79) := by decide +kernel
theorem i_35_3 : pg_at 35 3 = some (17, 8, 0, 0) := by decide +kernel
theorem i_35_4 : pg_at 35 4 = some (3, 0, 0, 0) := by decide +kernel
theorem i_35_5 : pg_at 35 5 = some (1, 2, 0, 0) := by decide +kernel
theorem i_35_6 : pg_at 35 6 = some (41, 60, 0, 79) := by decide +kernel
theorem i_35_7 : pg_at 35 7 = some (17, 13, 1, 0) := by decide +kernel
theorem i_35_8 : pg_at 35 8 = some (44, 3, 3, 0) := by decide +kernel
theorem i_35_13 : pg_at 35 13 = some (1, 1, 0, 0) := by decide +kernel
theorem i_35_14 : pg_at 35 14 = some (1, 2, 0, 0) := by decide +kernel
theorem i_35_15 : pg_at 35 15 = some (18, 21, 0, 0) := by decide +kernel
theorem i_35_16 : pg_at 35 16 = some (1, 3, 0, 0) := by decide +kernel
theorem i_35_17 : pg_at 35 17 = some (0, 0, 0, (-1)) := by decide +kernel
theorem i_35_18 : pg_at 35 18 = some (0, 0, 0, 999) := by decide +kernel
theorem i_35_19 : pg_at 35 19 = some (40, 59, 0, 45) := by decide +kernel
theorem i_35_20 : pg_at 35 20 = some (17, 26, 1, 0) := by decide +kernel
theorem i_35_21 : pg_at 35 21 = some (44, 1, 4, 0) := by decide +kernel
theorem i_35_26 : pg_at 35 26 = some (3, 0, 0, 0) := by decide +kernel
theorem i_35_27 : pg_at 35 27 = some (34, 5, 0, 11) := by decide +kernel
theorem i_35_28 : pg_at 35 28 = some (1, 1, 0, 0) := by decide +kernel
theorem i_35_29 : pg_at 35 29 = some (31, 0, 0, 0) := by decide +kernel
theorem i_35_30 : pg_at 35 30 = some (34, 4, 1, 90) := by decide +kernel
theorem i_35_31 : pg_at 35 31 = some (4, 4, 0, 0) := by decide +kernel
theorem i_35_32 : pg_at 35 32 = some (3, 4, 0, 0) := by decide +kernel
theorem i_35_33 : pg_at 35 33 = some (1, 2, 0, 0) := by decide +kernel
theorem i_35_34 : pg_at 35 34 = some (27, 0, 0, 0) := by decide +kernel
theorem i_35_35 : pg_at 35 35 = some (2, 5, 0, 0) := by decide +kernel
theorem i_35_36 : pg_at 35 36 = some (3, 4, 0, 0) := by decide +kernel
theorem i_35_37 : pg_at 35 37 = some (1, 2, 0, 0) := by decide +kernel
theorem i_35_38 : pg_at 35 38 = some (1, 3, 0, 0) := by decide +kernel
theorem i_35_39 : pg_at 35 39 = some (28, 0, 0, 0) := by decide +kernel
theorem i_35_40 : pg_at 35 40 = some (1, 5, 0, 0) := by decide +kernel
theorem i_35_41 : pg_at 35 41 = some (45, 0, 0, 0) := by decide +kernel
theorem mf_35 : pg_na 35 = 4 ∧ pg_ml 35 = 6 ∧ pg_cst 35 = 7 ∧ pg_cl 35 = 5 := by decide +kernel
theorem rt_35 : pg_rt 35 ≠ some .boolean := by decide +kernel
theorem hx_35 : pg_hx 35 = [] := by decide +kernel
theorem i_36_0 : pg_at 36 0 = some (3, 0, 0, 0) := by decide +kernel
theorem i_36_1 : pg_at 36 1 = some (1, 1, 0, 0) := by decide +kernel
theorem i_36_2 : pg_at 36 2 = some (41, 60, 0, 79) := by decide +kernel
theorem i_36_3 : pg_at 36 3 = some (17, 9, 1, 0) := by decide +kernel
theorem i_36_4 : pg_at 36 4 = some (44, 3, 3, 0) := by decide +kernel
theorem i_36_9 : pg_at 36 9 = some (1, 2, 0, 0) := by decide +kernel
theorem i_36_10 : pg_at 36 10 = some (0, 0, 0, 0) := by decide +kernel
theorem i_36_11 : pg_at 36 11 = some (0, 0, 0, 999) := by decide +kernel
theorem i_36_12 : pg_at 36 12 = some (40, 59, 0, 45) := by decide +kernel
theorem i_36_13 : pg_at 36 13 = some (17, 19, 1, 0) := by decide +kernel
theorem i_36_14 : pg_at 36 14 = some (44, 1, 5, 0) := by decide +kernel
theorem i_36_19 : pg_at 36 19 = some (3, 0, 0, 0) := by decide +kernel
theorem i_36_20 : pg_at 36 20 = some (34, 5, 0, 11) := by decide +kernel
theorem i_36_21 : pg_at 36 21 = some (1, 1, 0, 0) := by decide +kernel
theorem i_36_22 : pg_at 36 22 = some (31, 0, 0, 0) := by decide +kernel
theorem i_36_23 : pg_at 36 23 = some (33, 4, 12, 95) := by decide +kernel
theorem i_36_24 : pg_at 36 24 = some (2, 3, 0, 0) := by decide +kernel
theorem i_36_25 : pg_at 36 25 = some (3, 0, 0, 0) := by decide +kernel
theorem i_36_26 : pg_at 36 26 = some (34, 5, 0, 11) := by decide +kernel
theorem i_36_27 : pg_at 36 27 = some (1, 1, 0, 0) := by decide +kernel
theorem i_36_28 : pg_at 36 28 = some (31, 0, 0, 0) := by decide +kernel
theorem i_36_29 : pg_at 36 29 = some (1, 2, 0, 0) := by decide +kernel
theorem i_36_30 : pg_at 36 30 = some (35, 4, 12, 95) := by decide +kernel
theorem i_36_31 : pg_at 36 31 = some (1, 3, 0, 0) := by decide +kernel
theorem i_36_32 : pg_at 36 32 = some (45, 0, 0, 0) := by decide +kernel
theorem mf_36 : pg_na 36 = 3 ∧ pg_ml 36 = 4 ∧ pg_cst 36 = 7 ∧ pg_cl 36 = 5 := by decide +kernel
theorem rt_36 : pg_rt 36 ≠ some .boolean := by decide +kernel
theorem hx_36 : pg_hx 36 = [] := by decide +kernel
theorem i_37_0 : pg_at 37 0 = some (1, 2, 0, 0) := by decide +kernel
theorem i_37_1 : pg_at 37 1 = some (40, 62, 0, 98) := by decide +kernel
theorem i_37_2 : pg_at 37 2 = some (17, 18, 0, 0) := by decide +kernel
theorem i_37_3 : pg_at 37 3 = some (3, 0, 0, 0) := by decide +kernel
theorem i_37_4 : pg_at 37 4 = some (1, 3, 0, 0) := by decide +kernel
theorem i_37_5 : pg_at 37 5 = some (41, 60, 0, 79) := by decide +kernel
theorem i_37_6 : pg_at 37 6 = some (17, 18, 0, 0) := by decide +kernel
theorem i_37_7 : pg_at 37 7 = some (3, 0, 0, 0) := by decide +kernel
theorem i_37_8 : pg_at 37 8 = some (1, 4, 0, 0) := by decide +kernel
theorem i_37_9 : pg_at 37 9 = some (41, 60, 0, 79) := by decide +kernel
theorem i_37_10 : pg_at 37 10 = some (17, 18, 0, 0) := by decide +kernel
theorem i_37_11 : pg_at 37 11 = some (1, 7, 0, 0) := by decide +kernel
theorem i_37_12 : pg_at 37 12 = some (0, 0, 0, (-1)) := by decide +kernel
theorem i_37_13 : pg_at 37 13 = some (18, 23, 0, 0) := by decide +kernel
theorem i_37_14 : pg_at 37 14 = some (3, 0, 0, 0) := by decide +kernel
theorem i_37_15 : pg_at 37 15 = some (1, 7, 0, 0) := by decide +kernel
theorem i_37_16 : pg_at 37 16 = some (41, 61, 0, 101) := by decide +kernel
theorem i_37_17 : pg_at 37 17 = some (17, 23, 1, 0) := by decide +kernel
theorem i_37_18 : pg_at 37 18 = some (44, 3, 6, 0) := by decide +kernel
theorem i_37_23 : pg_at 37 23 = some (1, 1, 0, 0) := by decide +kernel
theorem i_37_24 : pg_at 37 24 = some (3, 0, 0, 0) := by decide +kernel
theorem i_37_25 : pg_at 37 25 = some (33, 5, 8, 106) := by decide +kernel
theorem i_37_26 : pg_at 37 26 = some (0, 0, 0, 999) := by decide +kernel
theorem i_37_27 : pg_at 37 27 = some (40, 59, 0, 45) := by decide +kernel
theorem i_37_28 : pg_at 37 28 = some (17, 37, 0, 0) := by decide +kernel
theorem i_37_29 : pg_at 37 29 = some (1, 6, 0, 0) := by decide +kernel
theorem i_37_30 : pg_at 37 30 = some (0, 0, 0, 1) := by decide +kernel
theorem i_37_31 : pg_at 37 31 = some (0, 0, 0, 60) := by decide +kernel
theorem i_37_32 : pg_at 37 32 = some (40, 59, 0, 45) := by decide +kernel
theorem i_37_33 : pg_at 37 33 = some (17, 37, 0, 0) := by decide +kernel
theorem i_37_34 : pg_at 37 34 = some (1, 3, 0, 0) := by decide +kernel
theorem i_37_35 : pg_at 37 35 = some (1, 4, 0, 0) := by decide +kernel
theorem i_37_36 : pg_at 37 36 = some (18, 42, 1, 0) := by decide +kernel
theorem i_37_37 : pg_at 37 37 = some (44, 1, 7, 0) := by decide +kernel
theorem i_37_42 : pg_at 37 42 = some (3, 0, 0, 0) := by decide +kernel
theorem i_37_43 : pg_at 37 43 = some (1, 1, 0, 0) := by decide +kernel
theorem i_37_44 : pg_at 37 44 = some (41, 63, 0, 111) := by decide +kernel
theorem i_37_45 : pg_at 37 45 = some (4, 8, 0, 0) := by decide +kernel
theorem i_37_46 : pg_at 37 46 = some (3, 8, 0, 0) := by decide +kernel
theorem i_37_47 : pg_at 37 47 = some (1, 2, 0, 0) := by decide +kernel
theorem i_37_48 : pg_at 37 48 = some (1, 6, 0, 0) := by decide +kernel
theorem i_37_49 : pg_at 37 49 = some (41, 2, 0, 115) := by decide +kernel
theorem i_37_50 : pg_at 37 50 = some (17, 63, 0, 0) := by decide +kernel
theorem i_37_51 : pg_at 37 51 = some (3, 8, 0, 0) := by decide +kernel
theorem i_37_52 : pg_at 37 52 = some (1, 3, 0, 0) := by decide +kernel
theorem i_37_53 : pg_at 37 53 = some (41, 3, 0, 119) := by decide +kernel
theorem i_37_54 : pg_at 37 54 = some (17, 63, 1, 0) := by decide +kernel
theorem i_37_55 : pg_at 37 55 = some (3, 8, 0, 0) := by decide +kernel
theorem i_37_56 : pg_at 37 56 = some (1, 4, 0, 0) := by decide +kernel
theorem i_37_57 : pg_at 37 57 = some (41, 3, 0, 119) := by decide +kernel
theorem i_37_58 : pg_at 37 58 = some (17, 63, 1, 0) := by decide +kernel
theorem i_37_59 : pg_at 37 59 = some (3, 8, 0, 0) := by decide +kernel
theorem i_37_60 : pg_at 37 60 = some (1, 7, 0, 0) := by decide +kernel
theorem i_37_61 : pg_at 37 61 = some (41, 4, 0, 122) := by decide +kernel
theorem i_37_62 : pg_at 37 62 = some (17, 68, 0, 0) := by decide +kernel
theorem i_37_63 : pg_at 37 63 = some (44, 2, 8, 0) := by decide +kernel
theorem i_37_68 : pg_at 37 68 = some (1, 5, 0, 0) := by decide +kernel
theorem i_37_69 : pg_at 37 69 = some (17, 72, 0, 0) := by decide +kernel
theorem i_37_70 : pg_at 37 70 = some (1, 3, 0, 0) := by decide +kernel
theorem i_37_71 : pg_at 37 71 = some (16, 73, 0, 0) := by decide +kernel
theorem i_37_72 : pg_at 37 72 = some (1, 4, 0, 0) := by decide +kernel
theorem i_37_73 : pg_at 37 73 = some (2, 9, 0, 0) := by decide +kernel
theorem i_37_74 : pg_at 37 74 = some (1, 5, 0, 0) := by decide +kernel
theorem i_37_75 : pg_at 37 75 = some (17, 78, 0, 0) := by decide +kernel
theorem i_37_76 : pg_at 37 76 = some (1, 4, 0, 0) := by decide +kernel
theorem i_37_77 : pg_at 37 77 = some (16, 79, 0, 0) := by decide +kernel
theorem i_37_78 : pg_at 37 78 = some (1, 3, 0, 0) := by decide +kernel
theorem i_37_79 : pg_at 37 79 = some (2, 10, 0, 0) := by decide +kernel
theorem i_37_80 : pg_at 37 80 = some (3, 0, 0, 0) := by decide +kernel
theorem i_37_81 : pg_at 37 81 = some (34, 5, 0, 11) := by decide +kernel
theorem i_37_82 : pg_at 37 82 = some (1, 3, 0, 0) := by decide +kernel
theorem i_37_83 : pg_at 37 83 = some (31, 0, 0, 0) := by decide +kernel
theorem i_37_84 : pg_at 37 84 = some (1, 1, 0, 0) := by decide +kernel
theorem i_37_85 : pg_at 37 85 = some (41, 27, 0, 127) := by decide +kernel
theorem i_37_86 : pg_at 37 86 = some (17, 108, 1, 0) := by decide +kernel
theorem i_37_87 : pg_at 37 87 = some (3, 0, 0, 0) := by decide +kernel
theorem i_37_88 : pg_at 37 88 = some (34, 5, 0, 11) := by decide +kernel
theorem i_37_89 : pg_at 37 89 = some (1, 4, 0, 0) := by decide +kernel
theorem i_37_90 : pg_at 37 90 = some (31, 0, 0, 0) := by decide +kernel
theorem i_37_91 : pg_at 37 91 = some (1, 1, 0, 0) := by decide +kernel
theorem i_37_92 : pg_at 37 92 = some (41, 27, 0, 127) := by decide +kernel
theorem i_37_93 : pg_at 37 93 = some (17, 108, 1, 0) := by decide +kernel
theorem i_37_94 : pg_at 37 94 = some (3, 0, 0, 0) := by decide +kernel
theorem i_37_95 : pg_at 37 95 = some (1, 7, 0, 0) := by decide +kernel
theorem i_37_96 : pg_at 37 96 = some (1, 3, 0, 0) := by decide +kernel
theorem i_37_97 : pg_at 37 97 = some (1, 4, 0, 0) := by decide +kernel
theorem i_37_98 : pg_at 37 98 = some (41, 65, 0, 130) := by decide +kernel
theorem i_37_99 : pg_at 37 99 = some (17, 108, 0, 0) := by decide +kernel
theorem i_37_100 : pg_at 37 100 = some (3, 0, 0, 0) := by decide +kernel
theorem i_37_101 : pg_at 37 101 = some (34, 5, 0, 11) := by decide +kernel
theorem i_37_102 : pg_at 37 102 = some (1, 10, 0, 0) := by decide +kernel
theorem i_37_103 : pg_at 37 103 = some (31, 0, 0, 0) := by decide +kernel
theorem i_37_104 : pg_at 37 104 = some (1, 9, 0, 0) := by decide +kernel
theorem i_37_105 : pg_at 37 105 = some (1, 1, 0, 0) := by decide +kernel
theorem i_37_106 : pg_at 37 106 = some (41, 28, 0, 133) := by decide +kernel
theorem i_37_107 : pg_at 37 107 = some (17, 113, 0, 0) := by decide +kernel
theorem i_37_108 : pg_at 37 108 = some (44, 2, 9, 0) := by decide +kernel
theorem i_37_113 : pg_at 37 113 = some (3, 0, 0, 0) := by decide +kernel
theorem i_37_114 : pg_at 37 114 = some (1, 1, 0, 0) := by decide +kernel
theorem i_37_115 : pg_at 37 115 = some (41, 64, 0, 138) := by decide +kernel
theorem i_37_116 : pg_at 37 116 = some (4, 11, 0, 0) := by decide +kernel
theorem i_37_117 : pg_at 37 117 = some (3, 11, 0, 0) := by decide +kernel
theorem i_37_118 : pg_at 37 118 = some (1, 2, 0, 0) := by decide +kernel
theorem i_37_119 : pg_at 37 119 = some (35, 0, 1, 141) := by decide +kernel
theorem i_37_120 : pg_at 37 120 = some (3, 11, 0, 0) := by decide +kernel
theorem i_37_121 : pg_at 37 121 = some (13, 0, 0, 0) := by decide +kernel
theorem i_37_122 : pg_at 37 122 = some (33, 0, 2, 144) := by decide +kernel
theorem i_37_123 : pg_at 37 123 = some (0, 0, 0, 1) := by decide +kernel
theorem i_37_124 : pg_at 37 124 = some (6, 0, 0, 0) := by decide +kernel
theorem i_37_125 : pg_at 37 125 = some (35, 0, 2, 144) := by decide +kernel
theorem i_37_126 : pg_at 37 126 = some (3, 11, 0, 0) := by decide +kernel
theorem i_37_127 : pg_at 37 127 = some (34, 0, 0, 147) := by decide +kernel
theorem i_37_128 : pg_at 37 128 = some (3, 11, 0, 0) := by decide +kernel
theorem i_37_129 : pg_at 37 129 = some (33, 0, 2, 144) := by decide +kernel
theorem i_37_130 : pg_at 37 130 = some (0, 0, 0, 1) := by decide +kernel
theorem i_37_131 : pg_at 37 131 = some (7, 0, 0, 0) := by decide +kernel
theorem i_37_132 : pg_at 37 132 = some (31, 0, 0, 0) := by decide +kernel
theorem i_37_133 : pg_at 37 133 = some (1, 3, 0, 0) := by decide +kernel
theorem i_37_134 : pg_at 37 134 = some (1, 4, 0, 0) := by decide +kernel
theorem i_37_135 : pg_at 37 135 = some (1, 5, 0, 0) := by decide +kernel
theorem i_37_136 : pg_at 37 136 = some (1, 6, 0, 0) := by decide +kernel
theorem i_37_137 : pg_at 37 137 = some (1, 7, 0, 0) := by decide +kernel
theorem i_37_138 : pg_at 37 138 = some (41, 9, 0, 151) := by decide +kernel
theorem i_37_139 : pg_at 37 139 = some (3, 11, 0, 0) := by decide +kernel
theorem i_37_140 : pg_at 37 140 = some (33, 0, 2, 144) := by decide +kernel
theorem i_37_141 : pg_at 37 141 = some (0, 0, 0, 1) := by decide +kernel
theorem i_37_142 : pg_at 37 142 = some (7, 0, 0, 0) := by decide +kernel
theorem i_37_143 : pg_at 37 143 = some (45, 0, 0, 0) := by decide +kernel
theorem mf_37 : pg_na 37 = 8 ∧ pg_ml 37 = 12 ∧ pg_cst 37 = 61 ∧ pg_cl 37 = 5 := by decide +kernel
theorem rt_37 : pg_rt 37 ≠ some .boolean := by decide +kernel
theorem hx_37 : pg_hx 37 = [] := by decide +kernel
theorem i_38_0 : pg_at 38 0 = some (3, 0, 0, 0) := by decide +kernel
theorem i_38_1 : pg_at 38 1 = some (1, 1, 0, 0) := by decide +kernel
theorem i_38_2 : pg_at 38 2 = some (41, 63, 0, 111) := by decide +kernel
theorem i_38_3 : pg_at 38 3 = some (4, 3, 0, 0) := by decide +kernel
theorem i_38_4 : pg_at 38 4 = some (3, 3, 0, 0) := by decide +kernel
theorem i_38_5 : pg_at 38 5 = some (1, 2, 0, 0) := by decide +kernel
theorem i_38_6 : pg_at 38 6 = some (41, 1, 0, 157) := by decide +kernel
theorem i_38_7 : pg_at 38 7 = some (17, 13, 1, 0) := by decide +kernel
theorem i_38_8 : pg_at 38 8 = some (44, 3, 10, 0) := by decide +kernel
theorem i_38_13 : pg_at 38 13 = some (3, 3, 0, 0) := by decide +kernel
theorem i_38_14 : pg_at 38 14 = some (33, 0, 3, 162) := by decide +kernel
theorem i_38_15 : pg_at 38 15 = some (17, 21, 0, 0) := by decide +kernel
theorem i_38_16 : pg_at 38 16 = some (44, 2, 11, 0) := by decide +kernel
theorem i_38_21 : pg_at 38 21 = some (3, 3, 0, 0) := by decide +kernel
theorem i_38_22 : pg_at 38 22 = some (1, 2, 0, 0) := by decide +kernel
theorem i_38_23 : pg_at 38 23 = some (41, 7, 0, 168) := by decide +kernel
theorem i_38_24 : pg_at 38 24 = some (3, 3, 0, 0) := by decide +kernel
theorem i_38_25 : pg_at 38 25 = some (33, 0, 2, 144) := by decide +kernel
theorem i_38_26 : pg_at 38 26 = some (45, 0, 0, 0) := by decide +kernel
theorem mf_38 : pg_na 38 = 3 ∧ pg_ml 38 = 4 ∧ pg_cst 38 = 7 ∧ pg_cl 38 = 5 := by decide +kernel
theorem rt_38 : pg_rt 38 ≠ some .boolean := by decide +kernel
theorem hx_38 : pg_hx 38 = [] := by decide +kernel
theorem i_39_0 : pg_at 39 0 = some (3, 0, 0, 0) := by decide +kernel
theorem i_39_1 : pg_at 39 1 = some (3, 0, 0, 0) := by decide +kernel
theorem i_39_2 : pg_at 39 2 = some (33, 5, 8, 106) := by decide +kernel
theorem i_39_3 : pg_at 39 3 = some (41, 63, 0, 111) := by decide +kernel
theorem i_39_4 : pg_at 39 4 = some (4, 2, 0, 0) := by decide +kernel
theorem i_39_5 : pg_at 39 5 = some (3, 2, 0, 0) := by decide +kernel
theorem i_39_6 : pg_at 39 6 = some (1, 1, 0, 0) := by decide +kernel
theorem i_39_7 : pg_at 39 7 = some (41, 1, 0, 157) := by decide +kernel
theorem i_39_8 : pg_at 39 8 = some (17, 14, 1, 0) := by decide +kernel
theorem i_39_9 : pg_at 39 9 = some (44, 3, 10, 0) := by decide +kernel
theorem i_39_14 : pg_at 39 14 = some (3, 2, 0, 0) := by decide +kernel
theorem i_39_15 : pg_at 39 15 = some (33, 0, 3, 162) := by decide +kernel
theorem i_39_16 : pg_at 39 16 = some (17, 22, 0, 0) := by decide +kernel
theorem i_39_17 : pg_at 39 17 = some (44, 2, 11, 0) := by decide +kernel
theorem i_39_22 : pg_at 39 22 = some (3, 2, 0, 0) := by decide +kernel
theorem i_39_23 : pg_at 39 23 = some (34, 0, 0, 147) := by decide +kernel
theorem i_39_24 : pg_at 39 24 = some (1, 1, 0, 0) := by decide +kernel
theorem i_39_25 : pg_at 39 25 = some (31, 0, 0, 0) := by decide +kernel
theorem i_39_26 : pg_at 39 26 = some (33, 1, 5, 172) := by decide +kernel
theorem i_39_27 : pg_at 39 27 = some (2, 3, 0, 0) := by decide +kernel
theorem i_39_28 : pg_at 39 28 = some (3, 2, 0, 0) := by decide +kernel
theorem i_39_29 : pg_at 39 29 = some (34, 0, 0, 147) := by decide +kernel
theorem i_39_30 : pg_at 39 30 = some (1, 1, 0, 0) := by decide +kernel
theorem i_39_31 : pg_at 39 31 = some (31, 0, 0, 0) := by decide +kernel
theorem i_39_32 : pg_at 39 32 = some (0, 0, 0, 1) := by decide +kernel
theorem i_39_33 : pg_at 39 33 = some (50, 1, 5, 172) := by decide +kernel
theorem i_39_34 : pg_at 39 34 = some (1, 3, 0, 0) := by decide +kernel
theorem i_39_35 : pg_at 39 35 = some (45, 0, 0, 0) := by decide +kernel
theorem mf_39 : pg_na 39 = 2 ∧ pg_ml 39 = 4 ∧ pg_cst 39 = 7 ∧ pg_cl 39 = 5 := by decide +kernel
theorem rt_39 : pg_rt 39 = some .boolean := by decide +kernel
theorem hx_39 : pg_hx 39 = [] := by decide +kernel
theorem i_40_0 : pg_at 40 0 = some (3, 0, 0, 0) := by decide +kernel
theorem i_40_1 : pg_at 40 1 = some (1, 1, 0, 0) := by decide +kernel
theorem i_40_2 : pg_at 40 2 = some (41, 60, 0, 79) := by decide +kernel
theorem i_40_3 : pg_at 40 3 = some (17, 9, 1, 0) := by decide +kernel
theorem i_40_4 : pg_at 40 4 = some (44, 3, 3, 0) := by decide +kernel
theorem i_40_9 : pg_at 40 9 = some (1, 2, 0, 0) := by decide +kernel
theorem i_40_10 : pg_at 40 10 = some (0, 0, 0, 1) := by decide +kernel
theorem i_40_11 : pg_at 40 11 = some (0, 0, 0, 200) := by decide +kernel
theorem i_40_12 : pg_at 40 12 = some (40, 59, 0, 45) := by decide +kernel
theorem i_40_13 : pg_at 40 13 = some (17, 19, 1, 0) := by decide +kernel
theorem i_40_14 : pg_at 40 14 = some (44, 1, 12, 0) := by decide +kernel
theorem i_40_19 : pg_at 40 19 = some (3, 0, 0, 0) := by decide +kernel
theorem i_40_20 : pg_at 40 20 = some (1, 1, 0, 0) := by decide +kernel
theorem i_40_21 : pg_at 40 21 = some (3, 0, 0, 0) := by decide +kernel
theorem i_40_22 : pg_at 40 22 = some (33, 5, 8, 106) := by decide +kernel
theorem i_40_23 : pg_at 40 23 = some (1, 2, 0, 0) := by decide +kernel
theorem i_40_24 : pg_at 40 24 = some (6, 0, 0, 0) := by decide +kernel
theorem i_40_25 : pg_at 40 25 = some (41, 66, 0, 177) := by decide +kernel
theorem i_40_26 : pg_at 40 26 = some (45, 0, 0, 0) := by decide +kernel
theorem mf_40 : pg_na 40 = 3 ∧ pg_ml 40 = 3 ∧ pg_cst 40 = 7 ∧ pg_cl 40 = 5 := by decide +kernel
theorem rt_40 : pg_rt 40 ≠ some .boolean := by decide +kernel
theorem hx_40 : pg_hx 40 = [] := by decide +kernel
theorem i_41_0 : pg_at 41 0 = some (3, 0, 0, 0) := by decide +kernel
theorem i_41_1 : pg_at 41 1 = some (1, 1, 0, 0) := by decide +kernel
theorem i_41_2 : pg_at 41 2 = some (41, 60, 0, 79) := by decide +kernel
theorem i_41_3 : pg_at 41 3 = some (17, 9, 1, 0) := by decide +kernel
theorem i_41_4 : pg_at 41 4 = some (44, 3, 3, 0) := by decide +kernel
theorem i_41_9 : pg_at 41 9 = some (3, 0, 0, 0) := by decide +kernel
theorem i_41_10 : pg_at 41 10 = some (34, 5, 0, 11) := by decide +kernel
theorem i_41_11 : pg_at 41 11 = some (1, 1, 0, 0) := by decide +kernel
theorem i_41_12 : pg_at 41 12 = some (31, 0, 0, 0) := by decide +kernel
theorem i_41_13 : pg_at 41 13 = some (4, 2, 0, 0) := by decide +kernel
theorem i_41_14 : pg_at 41 14 = some (3, 2, 0, 0) := by decide +kernel
theorem i_41_15 : pg_at 41 15 = some (13, 0, 0, 0) := by decide +kernel
theorem i_41_16 : pg_at 41 16 = some (33, 4, 8, 181) := by decide +kernel
theorem i_41_17 : pg_at 41 17 = some (0, 0, 0, 1) := by decide +kernel
theorem i_41_18 : pg_at 41 18 = some (6, 0, 0, 0) := by decide +kernel
theorem i_41_19 : pg_at 41 19 = some (35, 4, 8, 181) := by decide +kernel
theorem i_41_20 : pg_at 41 20 = some (3, 2, 0, 0) := by decide +kernel
theorem i_41_21 : pg_at 41 21 = some (33, 4, 8, 181) := by decide +kernel
theorem i_41_22 : pg_at 41 22 = some (0, 0, 0, 1) := by decide +kernel
theorem i_41_23 : pg_at 41 23 = some (18, 32, 1, 0) := by decide +kernel
theorem i_41_24 : pg_at 41 24 = some (3, 0, 0, 0) := by decide +kernel
theorem i_41_25 : pg_at 41 25 = some (1, 1, 0, 0) := by decide +kernel
theorem i_41_26 : pg_at 41 26 = some (3, 0, 0, 0) := by decide +kernel
theorem i_41_27 : pg_at 41 27 = some (33, 5, 8, 106) := by decide +kernel
theorem i_41_28 : pg_at 41 28 = some (0, 0, 0, 30) := by decide +kernel
theorem i_41_29 : pg_at 41 29 = some (6, 0, 0, 0) := by decide +kernel
theorem i_41_30 : pg_at 41 30 = some (41, 66, 0, 177) := by decide +kernel
theorem i_41_31 : pg_at 41 31 = some (45, 0, 0, 0) := by decide +kernel
theorem i_41_32 : pg_at 41 32 = some (3, 0, 0, 0) := by decide +kernel
theorem i_41_33 : pg_at 41 33 = some (1, 1, 0, 0) := by decide +kernel
theorem i_41_34 : pg_at 41 34 = some (3, 2, 0, 0) := by decide +kernel
theorem i_41_35 : pg_at 41 35 = some (33, 4, 8, 181) := by decide +kernel
theorem i_41_36 : pg_at 41 36 = some (0, 0, 0, 2) := by decide +kernel
theorem i_41_37 : pg_at 41 37 = some (18, 43, 1, 0) := by decide +kernel
theorem i_41_38 : pg_at 41 38 = some (3, 0, 0, 0) := by decide +kernel
theorem i_41_39 : pg_at 41 39 = some (33, 5, 8, 106) := by decide +kernel
theorem i_41_40 : pg_at 41 40 = some (0, 0, 0, 60) := by decide +kernel
theorem i_41_41 : pg_at 41 41 = some (6, 0, 0, 0) := by decide +kernel
theorem i_41_42 : pg_at 41 42 = some (16, 44, 0, 0) := by decide +kernel
theorem i_41_43 : pg_at 41 43 = some (0, 0, 0, 10000) := by decide +kernel
theorem i_41_44 : pg_at 41 44 = some (41, 66, 0, 177) := by decide +kernel
theorem i_41_45 : pg_at 41 45 = some (45, 0, 0, 0) := by decide +kernel
theorem mf_41 : pg_na 41 = 2 ∧ pg_ml 41 = 3 ∧ pg_cst 41 = 7 ∧ pg_cl 41 = 5 := by decide +kernel
theorem rt_41 : pg_rt 41 ≠ some .boolean := by decide +kernel
theorem hx_41 : pg_hx 41 = [] := by decide +kernel
theorem i_42_0 : pg_at 42 0 = some (3, 0, 0, 0) := by decide +kernel
theorem i_42_1 : pg_at 42 1 = some (41, 72, 0, 184) := by decide +kernel
theorem i_42_2 : pg_at 42 2 = some (4, 1, 0, 0) := by decide +kernel
theorem i_42_3 : pg_at 42 3 = some (3, 1, 0, 0) := by decide +kernel
theorem i_42_4 : pg_at 42 4 = some (41, 15, 0, 188) := by decide +kernel
theorem i_42_5 : pg_at 42 5 = some (15, 0, 0, 0) := by decide +kernel
theorem i_42_6 : pg_at 42 6 = some (3, 1, 0, 0) := by decide +kernel
theorem i_42_7 : pg_at 42 7 = some (41, 19, 0, 192) := by decide +kernel
theorem i_42_8 : pg_at 42 8 = some (45, 0, 0, 0) := by decide +kernel
theorem mf_42 : pg_na 42 = 1 ∧ pg_ml 42 = 2 ∧ pg_cst 42 = 7 ∧ pg_cl 42 = 5 := by decide +kernel
theorem rt_42 : pg_rt 42 ≠ some .boolean := by decide +kernel
theorem hx_42 : pg_hx 42 = [] := by decide +kernel
theorem i_43_0 : pg_at 43 0 = some (3, 0, 0, 0) := by decide +kernel
theorem i_43_1 : pg_at 43 1 = some (3, 0, 0, 0) := by decide +kernel
theorem i_43_2 : pg_at 43 2 = some (33, 5, 8, 106) := by decide +kernel
theorem i_43_3 : pg_at 43 3 = some (41, 63, 0, 111) := by decide +kernel
theorem i_43_4 : pg_at 43 4 = some (4, 1, 0, 0) := by decide +kernel
theorem i_43_5 : pg_at 43 5 = some (3, 1, 0, 0) := by decide +kernel
theorem i_43_6 : pg_at 43 6 = some (33, 0, 2, 144) := by decide +kernel
theorem i_43_7 : pg_at 43 7 = some (17, 15, 0, 0) := by decide +kernel
theorem i_43_8 : pg_at 43 8 = some (3, 1, 0, 0) := by decide +kernel
theorem i_43_9 : pg_at 43 9 = some (33, 0, 3, 162) := by decide +kernel
theorem i_43_10 : pg_at 43 10 = some (17, 15, 1, 0) := by decide +kernel
theorem i_43_11 : pg_at 43 11 = some (3, 0, 0, 0) := by decide +kernel
theorem i_43_12 : pg_at 43 12 = some (3, 1, 0, 0) := by decide +kernel
theorem i_43_13 : pg_at 43 13 = some (41, 68, 0, 195) := by decide +kernel
theorem i_43_14 : pg_at 43 14 = some (17, 20, 0, 0) := by decide +kernel
theorem i_43_15 : pg_at 43 15 = some (44, 2, 13, 0) := by decide +kernel
theorem i_43_20 : pg_at 43 20 = some (0, 0, 0, 0) := by decide +kernel
theorem i_43_21 : pg_at 43 21 = some (2, 2, 0, 0) := by decide +kernel
theorem i_43_22 : pg_at 43 22 = some (0, 0, 0, 0) := by decide +kernel
theorem i_43_23 : pg_at 43 23 = some (2, 3, 0, 0) := by decide +kernel
theorem i_43_24 : pg_at 43 24 = some (1, 3, 0, 0) := by decide +kernel
theorem i_43_25 : pg_at 43 25 = some (3, 1, 0, 0) := by decide +kernel
theorem i_43_26 : pg_at 43 26 = some (33, 0, 2, 144) := by decide +kernel
theorem i_43_27 : pg_at 43 27 = some (18, 41, 3, 0) := by decide +kernel
theorem i_43_28 : pg_at 43 28 = some (1, 2, 0, 0) := by decide +kernel
theorem i_43_29 : pg_at 43 29 = some (3, 0, 0, 0) := by decide +kernel
theorem i_43_30 : pg_at 43 30 = some (3, 1, 0, 0) := by decide +kernel
theorem i_43_31 : pg_at 43 31 = some (34, 0, 0, 147) := by decide +kernel
theorem i_43_32 : pg_at 43 32 = some (1, 3, 0, 0) := by decide +kernel
theorem i_43_33 : pg_at 43 33 = some (31, 0, 0, 0) := by decide +kernel
theorem i_43_34 : pg_at 43 34 = some (3, 1, 0, 0) := by decide +kernel
theorem i_43_35 : pg_at 43 35 = some (33, 0, 1, 141) := by decide +kernel
theorem i_43_36 : pg_at 43 36 = some (41, 69, 0, 201) := by decide +kernel
theorem i_43_37 : pg_at 43 37 = some (6, 0, 0, 0) := by decide +kernel
theorem i_43_38 : pg_at 43 38 = some (2, 2, 0, 0) := by decide +kernel
theorem i_43_39 : pg_at 43 39 = some (5, 3, 0, 1) := by decide +kernel
theorem i_43_40 : pg_at 43 40 = some (16, 24, 0, 0) := by decide +kernel
theorem i_43_41 : pg_at 43 41 = some (3, 1, 0, 0) := by decide +kernel
theorem i_43_42 : pg_at 43 42 = some (0, 0, 0, 1) := by decide +kernel
theorem i_43_43 : pg_at 43 43 = some (50, 0, 3, 162) := by decide +kernel
theorem i_43_44 : pg_at 43 44 = some (1, 2, 0, 0) := by decide +kernel
theorem i_43_45 : pg_at 43 45 = some (45, 0, 0, 0) := by decide +kernel
theorem mf_43 : pg_na 43 = 1 ∧ pg_ml 43 = 4 ∧ pg_cst 43 = 7 ∧ pg_cl 43 = 5 := by decide +kernel
theorem rt_43 : pg_rt 43 ≠ some .boolean := by decide +kernel
theorem hx_43 : pg_hx 43 = [] := by decide +kernel
theorem i_44_0 : pg_at 44 0 = some (1, 1, 0, 0) := by decide +kernel
theorem i_44_1 : pg_at 44 1 = some (40, 62, 0, 98) := by decide +kernel
theorem i_44_2 : pg_at 44 2 = some (17, 7, 0, 0) := by decide +kernel
theorem i_44_3 : pg_at 44 3 = some (3, 0, 0, 0) := by decide +kernel
theorem i_44_4 : pg_at 44 4 = some (1, 2, 0, 0) := by decide +kernel
theorem i_44_5 : pg_at 44 5 = some (41, 60, 0, 79) := by decide +kernel
theorem i_44_6 : pg_at 44 6 = some (17, 12, 1, 0) := by decide +kernel
theorem i_44_7 : pg_at 44 7 = some (44, 3, 14, 0) := by decide +kernel
theorem i_44_12 : pg_at 44 12 = some (1, 3, 0, 0) := by decide +kernel
theorem i_44_13 : pg_at 44 13 = some (0, 0, 0, 0) := by decide +kernel
theorem i_44_14 : pg_at 44 14 = some (0, 0, 0, 9) := by decide +kernel
theorem i_44_15 : pg_at 44 15 = some (40, 59, 0, 45) := by decide +kernel
theorem i_44_16 : pg_at 44 16 = some (17, 22, 1, 0) := by decide +kernel
theorem i_44_17 : pg_at 44 17 = some (44, 1, 15, 0) := by decide +kernel
theorem i_44_22 : pg_at 44 22 = some (3, 0, 0, 0) := by decide +kernel
theorem i_44_23 : pg_at 44 23 = some (34, 5, 0, 11) := by decide +kernel
theorem i_44_24 : pg_at 44 24 = some (1, 2, 0, 0) := by decide +kernel
theorem i_44_25 : pg_at 44 25 = some (31, 0, 0, 0) := by decide +kernel
theorem i_44_26 : pg_at 44 26 = some (4, 4, 0, 0) := by decide +kernel
theorem i_44_27 : pg_at 44 27 = some (3, 4, 0, 0) := by decide +kernel
theorem i_44_28 : pg_at 44 28 = some (3, 0, 0, 0) := by decide +kernel
theorem i_44_29 : pg_at 44 29 = some (33, 5, 8, 106) := by decide +kernel
theorem i_44_30 : pg_at 44 30 = some (41, 27, 0, 127) := by decide +kernel
theorem i_44_31 : pg_at 44 31 = some (17, 37, 1, 0) := by decide +kernel
theorem i_44_32 : pg_at 44 32 = some (3, 4, 0, 0) := by decide +kernel
theorem i_44_33 : pg_at 44 33 = some (33, 4, 13, 209) := by decide +kernel
theorem i_44_34 : pg_at 44 34 = some (3, 0, 0, 0) := by decide +kernel
theorem i_44_35 : pg_at 44 35 = some (33, 5, 8, 106) := by decide +kernel
theorem i_44_36 : pg_at 44 36 = some (18, 42, 1, 0) := by decide +kernel
theorem i_44_37 : pg_at 44 37 = some (44, 2, 16, 0) := by decide +kernel
theorem i_44_42 : pg_at 44 42 = some (3, 4, 0, 0) := by decide +kernel
theorem i_44_43 : pg_at 44 43 = some (3, 0, 0, 0) := by decide +kernel
theorem i_44_44 : pg_at 44 44 = some (33, 5, 8, 106) := by decide +kernel
theorem i_44_45 : pg_at 44 45 = some (35, 4, 13, 209) := by decide +kernel
theorem i_44_46 : pg_at 44 46 = some (0, 0, 0, 0) := by decide +kernel
theorem i_44_47 : pg_at 44 47 = some (3, 4, 0, 0) := by decide +kernel
theorem i_44_48 : pg_at 44 48 = some (33, 4, 4, 68) := by decide +kernel
theorem i_44_49 : pg_at 44 49 = some (0, 0, 0, 10) := by decide +kernel
theorem i_44_50 : pg_at 44 50 = some (9, 0, 0, 0) := by decide +kernel
theorem i_44_51 : pg_at 44 51 = some (1, 3, 0, 0) := by decide +kernel
theorem i_44_52 : pg_at 44 52 = some (7, 0, 0, 0) := by decide +kernel
theorem i_44_53 : pg_at 44 53 = some (51, 0, 0, 214) := by decide +kernel
theorem i_44_54 : pg_at 44 54 = some (2, 5, 0, 0) := by decide +kernel
theorem i_44_55 : pg_at 44 55 = some (3, 4, 0, 0) := by decide +kernel
theorem i_44_56 : pg_at 44 56 = some (1, 1, 0, 0) := by decide +kernel
theorem i_44_57 : pg_at 44 57 = some (3, 4, 0, 0) := by decide +kernel
theorem i_44_58 : pg_at 44 58 = some (33, 4, 5, 71) := by decide +kernel
theorem i_44_59 : pg_at 44 59 = some (17, 62, 1, 0) := by decide +kernel
theorem i_44_60 : pg_at 44 60 = some (1, 5, 0, 0) := by decide +kernel
theorem i_44_61 : pg_at 44 61 = some (16, 64, 0, 0) := by decide +kernel
theorem i_44_62 : pg_at 44 62 = some (1, 5, 0, 0) := by decide +kernel
theorem i_44_63 : pg_at 44 63 = some (11, 0, 0, 0) := by decide +kernel
theorem i_44_64 : pg_at 44 64 = some (41, 30, 0, 219) := by decide +kernel
theorem i_44_65 : pg_at 44 65 = some (3, 4, 0, 0) := by decide +kernel
theorem i_44_66 : pg_at 44 66 = some (41, 31, 0, 223) := by decide +kernel
theorem i_44_67 : pg_at 44 67 = some (3, 4, 0, 0) := by decide +kernel
theorem i_44_68 : pg_at 44 68 = some (34, 4, 0, 226) := by decide +kernel
theorem i_44_69 : pg_at 44 69 = some (1, 1, 0, 0) := by decide +kernel
theorem i_44_70 : pg_at 44 70 = some (27, 0, 0, 0) := by decide +kernel
theorem i_44_71 : pg_at 44 71 = some (45, 0, 0, 0) := by decide +kernel
theorem mf_44 : pg_na 44 = 4 ∧ pg_ml 44 = 6 ∧ pg_cst 44 = 7 ∧ pg_cl 44 = 5 := by decide +kernel
theorem rt_44 : pg_rt 44 ≠ some .boolean := by decide +kernel
theorem hx_44 : pg_hx 44 = [] := by decide +kernel
theorem i_45_0 : pg_at 45 0 = some (3, 0, 0, 0) := by decide +kernel
theorem i_45_1 : pg_at 45 1 = some (33, 5, 8, 106) := by decide +kernel
theorem i_45_2 : pg_at 45 2 = some (0, 0, 0, 999) := by decide +kernel
theorem i_45_3 : pg_at 45 3 = some (18, 9, 2, 0) := by decide +kernel
theorem i_45_4 : pg_at 45 4 = some (44, 2, 17, 0) := by decide +kernel
theorem i_45_9 : pg_at 45 9 = some (3, 0, 0, 0) := by decide +kernel
theorem i_45_10 : pg_at 45 10 = some (3, 0, 0, 0) := by decide +kernel
theorem i_45_11 : pg_at 45 11 = some (33, 5, 8, 106) := by decide +kernel
theorem i_45_12 : pg_at 45 12 = some (41, 63, 0, 111) := by decide +kernel
theorem i_45_13 : pg_at 45 13 = some (4, 1, 0, 0) := by decide +kernel
theorem i_45_14 : pg_at 45 14 = some (3, 1, 0, 0) := by decide +kernel
theorem i_45_15 : pg_at 45 15 = some (33, 0, 3, 162) := by decide +kernel
theorem i_45_16 : pg_at 45 16 = some (17, 20, 1, 0) := by decide +kernel
theorem i_45_17 : pg_at 45 17 = some (3, 1, 0, 0) := by decide +kernel
theorem i_45_18 : pg_at 45 18 = some (0, 0, 0, 0) := by decide +kernel
theorem i_45_19 : pg_at 45 19 = some (35, 0, 2, 144) := by decide +kernel
theorem i_45_20 : pg_at 45 20 = some (0, 0, 0, 0) := by decide +kernel
theorem i_45_21 : pg_at 45 21 = some (2, 2, 0, 0) := by decide +kernel
theorem i_45_22 : pg_at 45 22 = some (1, 2, 0, 0) := by decide +kernel
theorem i_45_23 : pg_at 45 23 = some (3, 0, 0, 0) := by decide +kernel
theorem i_45_24 : pg_at 45 24 = some (33, 5, 6, 56) := by decide +kernel
theorem i_45_25 : pg_at 45 25 = some (18, 42, 3, 0) := by decide +kernel
theorem i_45_26 : pg_at 45 26 = some (3, 0, 0, 0) := by decide +kernel
theorem i_45_27 : pg_at 45 27 = some (34, 5, 0, 11) := by decide +kernel
theorem i_45_28 : pg_at 45 28 = some (1, 2, 0, 0) := by decide +kernel
theorem i_45_29 : pg_at 45 29 = some (31, 0, 0, 0) := by decide +kernel
theorem i_45_30 : pg_at 45 30 = some (0, 0, 0, 0) := by decide +kernel
theorem i_45_31 : pg_at 45 31 = some (3, 0, 0, 0) := by decide +kernel
theorem i_45_32 : pg_at 45 32 = some (34, 5, 0, 11) := by decide +kernel
theorem i_45_33 : pg_at 45 33 = some (1, 2, 0, 0) := by decide +kernel
theorem i_45_34 : pg_at 45 34 = some (31, 0, 0, 0) := by decide +kernel
theorem i_45_35 : pg_at 45 35 = some (33, 4, 6, 231) := by decide +kernel
theorem i_45_36 : pg_at 45 36 = some (0, 0, 0, 10) := by decide +kernel
theorem i_45_37 : pg_at 45 37 = some (7, 0, 0, 0) := by decide +kernel
theorem i_45_38 : pg_at 45 38 = some (51, 0, 0, 214) := by decide +kernel
theorem i_45_39 : pg_at 45 39 = some (35, 4, 6, 231) := by decide +kernel
theorem i_45_40 : pg_at 45 40 = some (5, 2, 0, 1) := by decide +kernel
theorem i_45_41 : pg_at 45 41 = some (16, 22, 0, 0) := by decide +kernel
theorem i_45_42 : pg_at 45 42 = some (3, 0, 0, 0) := by decide +kernel
theorem i_45_43 : pg_at 45 43 = some (13, 0, 0, 0) := by decide +kernel
theorem i_45_44 : pg_at 45 44 = some (33, 5, 8, 106) := by decide +kernel
theorem i_45_45 : pg_at 45 45 = some (0, 0, 0, 1) := by decide +kernel
theorem i_45_46 : pg_at 45 46 = some (6, 0, 0, 0) := by decide +kernel
theorem i_45_47 : pg_at 45 47 = some (35, 5, 8, 106) := by decide +kernel
theorem i_45_48 : pg_at 45 48 = some (3, 0, 0, 0) := by decide +kernel
theorem i_45_49 : pg_at 45 49 = some (33, 5, 8, 106) := by decide +kernel
theorem i_45_50 : pg_at 45 50 = some (45, 0, 0, 0) := by decide +kernel
theorem mf_45 : pg_na 45 = 1 ∧ pg_ml 45 = 3 ∧ pg_cst 45 = 7 ∧ pg_cl 45 = 5 := by decide +kernel
theorem rt_45 : pg_rt 45 ≠ some .boolean := by decide +kernel
theorem hx_45 : pg_hx 45 = [] := by decide +kernel
theorem i_46_0 : pg_at 46 0 = some (3, 0, 0, 0) := by decide +kernel
theorem i_46_1 : pg_at 46 1 = some (33, 5, 8, 106) := by decide +kernel
theorem i_46_2 : pg_at 46 2 = some (45, 0, 0, 0) := by decide +kernel
theorem mf_46 : pg_na 46 = 1 ∧ pg_ml 46 = 1 ∧ pg_cst 46 = 0 ∧ pg_cl 46 = 5 := by decide +kernel
theorem rt_46 : pg_rt 46 ≠ some .boolean := by decide +kernel
theorem hx_46 : pg_hx 46 = [] := by decide +kernel
theorem i_47_0 : pg_at 47 0 = some (3, 0, 0, 0) := by decide +kernel
theorem i_47_1 : pg_at 47 1 = some (1, 1, 0, 0) := by decide +kernel
theorem i_47_2 : pg_at 47 2 = some (41, 60, 0, 79) := by decide +kernel
theorem i_47_3 : pg_at 47 3 = some (17, 9, 1, 0) := by decide +kernel
theorem i_47_4 : pg_at 47 4 = some (44, 3, 3, 0) := by decide +kernel
theorem i_47_9 : pg_at 47 9 = some (3, 0, 0, 0) := by decide +kernel
theorem i_47_10 : pg_at 47 10 = some (34, 5, 0, 11) := by decide +kernel
theorem i_47_11 : pg_at 47 11 = some (1, 1, 0, 0) := by decide +kernel
theorem i_47_12 : pg_at 47 12 = some (31, 0, 0, 0) := by decide +kernel
theorem i_47_13 : pg_at 47 13 = some (4, 3, 0, 0) := by decide +kernel
theorem i_47_14 : pg_at 47 14 = some (1, 2, 0, 0) := by decide +kernel
theorem i_47_15 : pg_at 47 15 = some (20, 0, 0, 0) := by decide +kernel
theorem i_47_16 : pg_at 47 16 = some (3, 3, 0, 0) := by decide +kernel
theorem i_47_17 : pg_at 47 17 = some (33, 4, 5, 71) := by decide +kernel
theorem i_47_18 : pg_at 47 18 = some (45, 0, 0, 0) := by decide +kernel
theorem i_47_19 : pg_at 47 19 = some (3, 3, 0, 0) := by decide +kernel
theorem i_47_20 : pg_at 47 20 = some (33, 4, 6, 231) := by decide +kernel
theorem i_47_21 : pg_at 47 21 = some (45, 0, 0, 0) := by decide +kernel
theorem i_47_22 : pg_at 47 22 = some (3, 3, 0, 0) := by decide +kernel
theorem i_47_23 : pg_at 47 23 = some (3, 0, 0, 0) := by decide +kernel
theorem i_47_24 : pg_at 47 24 = some (33, 5, 8, 106) := by decide +kernel
theorem i_47_25 : pg_at 47 25 = some (41, 27, 0, 127) := by decide +kernel
theorem i_47_26 : pg_at 47 26 = some (17, 30, 0, 0) := by decide +kernel
theorem i_47_27 : pg_at 47 27 = some (3, 3, 0, 0) := by decide +kernel
theorem i_47_28 : pg_at 47 28 = some (33, 4, 7, 234) := by decide +kernel
theorem i_47_29 : pg_at 47 29 = some (16, 31, 0, 0) := by decide +kernel
theorem i_47_30 : pg_at 47 30 = some (0, 0, 0, 0) := by decide +kernel
theorem i_47_31 : pg_at 47 31 = some (45, 0, 0, 0) := by decide +kernel
theorem i_47_32 : pg_at 47 32 = some (3, 3, 0, 0) := by decide +kernel
theorem i_47_33 : pg_at 47 33 = some (33, 4, 8, 181) := by decide +kernel
theorem i_47_34 : pg_at 47 34 = some (45, 0, 0, 0) := by decide +kernel
theorem i_47_35 : pg_at 47 35 = some (3, 3, 0, 0) := by decide +kernel
theorem i_47_36 : pg_at 47 36 = some (33, 4, 9, 237) := by decide +kernel
theorem i_47_37 : pg_at 47 37 = some (45, 0, 0, 0) := by decide +kernel
theorem i_47_38 : pg_at 47 38 = some (3, 3, 0, 0) := by decide +kernel
theorem i_47_39 : pg_at 47 39 = some (33, 4, 10, 240) := by decide +kernel
theorem i_47_40 : pg_at 47 40 = some (45, 0, 0, 0) := by decide +kernel
theorem i_47_41 : pg_at 47 41 = some (3, 3, 0, 0) := by decide +kernel
theorem i_47_42 : pg_at 47 42 = some (33, 4, 11, 243) := by decide +kernel
theorem i_47_43 : pg_at 47 43 = some (45, 0, 0, 0) := by decide +kernel
theorem i_47_44 : pg_at 47 44 = some (44, 1, 18, 0) := by decide +kernel
theorem mf_47 : pg_na 47 = 3 ∧ pg_ml 47 = 4 ∧ pg_cst 47 = 7 ∧ pg_cl 47 = 5 := by decide +kernel
theorem rt_47 : pg_rt 47 ≠ some .boolean := by decide +kernel
theorem hx_47 : pg_hx 47 = [] := by decide +kernel
theorem i_48_0 : pg_at 48 0 = some (1, 1, 0, 0) := by decide +kernel
theorem i_48_1 : pg_at 48 1 = some (40, 62, 0, 98) := by decide +kernel
theorem i_48_2 : pg_at 48 2 = some (17, 7, 0, 0) := by decide +kernel
theorem i_48_3 : pg_at 48 3 = some (3, 0, 0, 0) := by decide +kernel
theorem i_48_4 : pg_at 48 4 = some (1, 2, 0, 0) := by decide +kernel
theorem i_48_5 : pg_at 48 5 = some (41, 60, 0, 79) := by decide +kernel
theorem i_48_6 : pg_at 48 6 = some (17, 12, 1, 0) := by decide +kernel
theorem i_48_7 : pg_at 48 7 = some (44, 3, 14, 0) := by decide +kernel
theorem i_48_12 : pg_at 48 12 = some (3, 0, 0, 0) := by decide +kernel
theorem i_48_13 : pg_at 48 13 = some (34, 5, 0, 11) := by decide +kernel
theorem i_48_14 : pg_at 48 14 = some (1, 2, 0, 0) := by decide +kernel
theorem i_48_15 : pg_at 48 15 = some (31, 0, 0, 0) := by decide +kernel
theorem i_48_16 : pg_at 48 16 = some (34, 4, 0, 226) := by decide +kernel
theorem i_48_17 : pg_at 48 17 = some (1, 1, 0, 0) := by decide +kernel
theorem i_48_18 : pg_at 48 18 = some (27, 0, 0, 0) := by decide +kernel
theorem i_48_19 : pg_at 48 19 = some (45, 0, 0, 0) := by decide +kernel
theorem mf_48 : pg_na 48 = 3 ∧ pg_ml 48 = 3 ∧ pg_cst 48 = 7 ∧ pg_cl 48 = 5 := by decide +kernel
theorem rt_48 : pg_rt 48 ≠ some .boolean := by decide +kernel
theorem hx_48 : pg_hx 48 = [] := by decide +kernel
theorem i_49_0 : pg_at 49 0 = some (1, 1, 0, 0) := by decide +kernel
theorem i_49_1 : pg_at 49 1 = some (40, 62, 0, 98) := by decide +kernel
theorem i_49_2 : pg_at 49 2 = some (17, 7, 0, 0) := by decide +kernel
theorem i_49_3 : pg_at 49 3 = some (3, 0, 0, 0) := by decide +kernel
theorem i_49_4 : pg_at 49 4 = some (1, 2, 0, 0) := by decide +kernel
theorem i_49_5 : pg_at 49 5 = some (41, 60, 0, 79) := by decide +kernel
theorem i_49_6 : pg_at 49 6 = some (17, 12, 1, 0) := by decide +kernel
theorem i_49_7 : pg_at 49 7 = some (44, 3, 14, 0) := by decide +kernel
theorem i_49_12 : pg_at 49 12 = some (3, 0, 0, 0) := by decide +kernel
theorem i_49_13 : pg_at 49 13 = some (34, 5, 0, 11) := by decide +kernel
theorem i_49_14 : pg_at 49 14 = some (1, 2, 0, 0) := by decide +kernel
theorem i_49_15 : pg_at 49 15 = some (31, 0, 0, 0) := by decide +kernel
theorem i_49_16 : pg_at 49 16 = some (1, 1, 0, 0) := by decide +kernel
theorem i_49_17 : pg_at 49 17 = some (41, 29, 0, 248) := by decide +kernel
theorem i_49_18 : pg_at 49 18 = some (45, 0, 0, 0) := by decide +kernel
theorem mf_49 : pg_na 49 = 3 ∧ pg_ml 49 = 3 ∧ pg_cst 49 = 7 ∧ pg_cl 49 = 5 := by decide +kernel
theorem rt_49 : pg_rt 49 ≠ some .boolean := by decide +kernel
theorem hx_49 : pg_hx 49 = [] := by decide +kernel
theorem i_50_0 : pg_at 50 0 = some (1, 1, 0, 0) := by decide +kernel
theorem i_50_1 : pg_at 50 1 = some (0, 0, 0, 0) := by decide +kernel
theorem i_50_2 : pg_at 50 2 = some (0, 0, 0, 999) := by decide +kernel
theorem i_50_3 : pg_at 50 3 = some (40, 59, 0, 45) := by decide +kernel
theorem i_50_4 : pg_at 50 4 = some (17, 10, 1, 0) := by decide +kernel
theorem i_50_5 : pg_at 50 5 = some (44, 1, 5, 0) := by decide +kernel
theorem i_50_10 : pg_at 50 10 = some (3, 0, 0, 0) := by decide +kernel
theorem i_50_11 : pg_at 50 11 = some (1, 1, 0, 0) := by decide +kernel
theorem i_50_12 : pg_at 50 12 = some (41, 63, 0, 111) := by decide +kernel
theorem i_50_13 : pg_at 50 13 = some (4, 3, 0, 0) := by decide +kernel
theorem i_50_14 : pg_at 50 14 = some (1, 2, 0, 0) := by decide +kernel
theorem i_50_15 : pg_at 50 15 = some (20, 1, 0, 0) := by decide +kernel
theorem i_50_16 : pg_at 50 16 = some (3, 3, 0, 0) := by decide +kernel
theorem i_50_17 : pg_at 50 17 = some (33, 0, 2, 144) := by decide +kernel
theorem i_50_18 : pg_at 50 18 = some (17, 21, 1, 0) := by decide +kernel
theorem i_50_19 : pg_at 50 19 = some (0, 0, 0, (-1)) := by decide +kernel
theorem i_50_20 : pg_at 50 20 = some (16, 23, 0, 0) := by decide +kernel
theorem i_50_21 : pg_at 50 21 = some (3, 3, 0, 0) := by decide +kernel
theorem i_50_22 : pg_at 50 22 = some (33, 0, 1, 141) := by decide +kernel
theorem i_50_23 : pg_at 50 23 = some (45, 0, 0, 0) := by decide +kernel
theorem i_50_24 : pg_at 50 24 = some (3, 3, 0, 0) := by decide +kernel
theorem i_50_25 : pg_at 50 25 = some (33, 0, 2, 144) := by decide +kernel
theorem i_50_26 : pg_at 50 26 = some (45, 0, 0, 0) := by decide +kernel
theorem i_50_27 : pg_at 50 27 = some (3, 3, 0, 0) := by decide +kernel
theorem i_50_28 : pg_at 50 28 = some (41, 5, 0, 252) := by decide +kernel
theorem i_50_29 : pg_at 50 29 = some (45, 0, 0, 0) := by decide +kernel
theorem i_50_30 : pg_at 50 30 = some (3, 3, 0, 0) := by decide +kernel
theorem i_50_31 : pg_at 50 31 = some (33, 0, 3, 162) := by decide +kernel
theorem i_50_32 : pg_at 50 32 = some (17, 35, 0, 0) := by decide +kernel
theorem i_50_33 : pg_at 50 33 = some (0, 0, 0, 1) := by decide +kernel
theorem i_50_34 : pg_at 50 34 = some (16, 36, 0, 0) := by decide +kernel
theorem i_50_35 : pg_at 50 35 = some (0, 0, 0, 0) := by decide +kernel
theorem i_50_36 : pg_at 50 36 = some (45, 0, 0, 0) := by decide +kernel
theorem i_50_37 : pg_at 50 37 = some (44, 1, 18, 0) := by decide +kernel
theorem mf_50 : pg_na 50 = 3 ∧ pg_ml 50 = 4 ∧ pg_cst 50 = 7 ∧ pg_cl 50 = 5 := by decide +kernel
theorem rt_50 : pg_rt 50 ≠ some .boolean := by decide +kernel
theorem hx_50 : pg_hx 50 = [] := by decide +kernel
theorem i_51_0 : pg_at 51 0 = some (3, 0, 0, 0) := by decide +kernel
theorem i_51_1 : pg_at 51 1 = some (1, 1, 0, 0) := by decide +kernel
theorem i_51_2 : pg_at 51 2 = some (41, 63, 0, 111) := by decide +kernel
theorem i_51_3 : pg_at 51 3 = some (4, 4, 0, 0) := by decide +kernel
theorem i_51_4 : pg_at 51 4 = some (3, 4, 0, 0) := by decide +kernel
theorem i_51_5 : pg_at 51 5 = some (1, 2, 0, 0) := by decide +kernel
theorem i_51_6 : pg_at 51 6 = some (41, 1, 0, 157) := by decide +kernel
theorem i_51_7 : pg_at 51 7 = some (17, 13, 1, 0) := by decide +kernel
theorem i_51_8 : pg_at 51 8 = some (44, 3, 10, 0) := by decide +kernel
theorem i_51_13 : pg_at 51 13 = some (3, 4, 0, 0) := by decide +kernel
theorem i_51_14 : pg_at 51 14 = some (34, 0, 0, 147) := by decide +kernel
theorem i_51_15 : pg_at 51 15 = some (1, 2, 0, 0) := by decide +kernel
theorem i_51_16 : pg_at 51 16 = some (31, 0, 0, 0) := by decide +kernel
theorem i_51_17 : pg_at 51 17 = some (4, 5, 0, 0) := by decide +kernel
theorem i_51_18 : pg_at 51 18 = some (1, 3, 0, 0) := by decide +kernel
theorem i_51_19 : pg_at 51 19 = some (20, 2, 0, 0) := by decide +kernel
theorem i_51_20 : pg_at 51 20 = some (3, 5, 0, 0) := by decide +kernel
theorem i_51_21 : pg_at 51 21 = some (33, 1, 0, 255) := by decide +kernel
theorem i_51_22 : pg_at 51 22 = some (45, 0, 0, 0) := by decide +kernel
theorem i_51_23 : pg_at 51 23 = some (3, 5, 0, 0) := by decide +kernel
theorem i_51_24 : pg_at 51 24 = some (33, 1, 1, 258) := by decide +kernel
theorem i_51_25 : pg_at 51 25 = some (45, 0, 0, 0) := by decide +kernel
theorem i_51_26 : pg_at 51 26 = some (3, 4, 0, 0) := by decide +kernel
theorem i_51_27 : pg_at 51 27 = some (33, 0, 3, 162) := by decide +kernel
theorem i_51_28 : pg_at 51 28 = some (17, 34, 0, 0) := by decide +kernel
theorem i_51_29 : pg_at 51 29 = some (3, 5, 0, 0) := by decide +kernel
theorem i_51_30 : pg_at 51 30 = some (33, 1, 5, 172) := by decide +kernel
theorem i_51_31 : pg_at 51 31 = some (17, 34, 0, 0) := by decide +kernel
theorem i_51_32 : pg_at 51 32 = some (0, 0, 0, (-1)) := by decide +kernel
theorem i_51_33 : pg_at 51 33 = some (16, 36, 0, 0) := by decide +kernel
theorem i_51_34 : pg_at 51 34 = some (3, 5, 0, 0) := by decide +kernel
theorem i_51_35 : pg_at 51 35 = some (41, 10, 0, 261) := by decide +kernel
theorem i_51_36 : pg_at 51 36 = some (45, 0, 0, 0) := by decide +kernel
theorem i_51_37 : pg_at 51 37 = some (3, 5, 0, 0) := by decide +kernel
theorem i_51_38 : pg_at 51 38 = some (33, 1, 3, 264) := by decide +kernel
theorem i_51_39 : pg_at 51 39 = some (45, 0, 0, 0) := by decide +kernel
theorem i_51_40 : pg_at 51 40 = some (3, 5, 0, 0) := by decide +kernel
theorem i_51_41 : pg_at 51 41 = some (33, 1, 4, 267) := by decide +kernel
theorem i_51_42 : pg_at 51 42 = some (45, 0, 0, 0) := by decide +kernel
theorem i_51_43 : pg_at 51 43 = some (3, 5, 0, 0) := by decide +kernel
theorem i_51_44 : pg_at 51 44 = some (33, 1, 5, 172) := by decide +kernel
theorem i_51_45 : pg_at 51 45 = some (17, 48, 0, 0) := by decide +kernel
theorem i_51_46 : pg_at 51 46 = some (0, 0, 0, 1) := by decide +kernel
theorem i_51_47 : pg_at 51 47 = some (16, 49, 0, 0) := by decide +kernel
theorem i_51_48 : pg_at 51 48 = some (0, 0, 0, 0) := by decide +kernel
theorem i_51_49 : pg_at 51 49 = some (45, 0, 0, 0) := by decide +kernel
theorem i_51_50 : pg_at 51 50 = some (44, 1, 18, 0) := by decide +kernel
theorem mf_51 : pg_na 51 = 4 ∧ pg_ml 51 = 6 ∧ pg_cst 51 = 7 ∧ pg_cl 51 = 5 := by decide +kernel
theorem rt_51 : pg_rt 51 ≠ some .boolean := by decide +kernel
theorem hx_51 : pg_hx 51 = [] := by decide +kernel
theorem i_52_0 : pg_at 52 0 = some (3, 0, 0, 0) := by decide +kernel
theorem i_52_1 : pg_at 52 1 = some (1, 1, 0, 0) := by decide +kernel
theorem i_52_2 : pg_at 52 2 = some (41, 61, 0, 101) := by decide +kernel
theorem i_52_3 : pg_at 52 3 = some (17, 15, 0, 0) := by decide +kernel
theorem i_52_4 : pg_at 52 4 = some (1, 2, 0, 0) := by decide +kernel
theorem i_52_5 : pg_at 52 5 = some (0, 0, 0, 0) := by decide +kernel
theorem i_52_6 : pg_at 52 6 = some (3, 0, 0, 0) := by decide +kernel
theorem i_52_7 : pg_at 52 7 = some (34, 5, 1, 17) := by decide +kernel
theorem i_52_8 : pg_at 52 8 = some (1, 1, 0, 0) := by decide +kernel
theorem i_52_9 : pg_at 52 9 = some (31, 0, 0, 0) := by decide +kernel
theorem i_52_10 : pg_at 52 10 = some (33, 3, 2, 270) := by decide +kernel
theorem i_52_11 : pg_at 52 11 = some (0, 0, 0, 1) := by decide +kernel
theorem i_52_12 : pg_at 52 12 = some (7, 0, 0, 0) := by decide +kernel
theorem i_52_13 : pg_at 52 13 = some (40, 59, 0, 45) := by decide +kernel
theorem i_52_14 : pg_at 52 14 = some (17, 20, 1, 0) := by decide +kernel
theorem i_52_15 : pg_at 52 15 = some (44, 3, 19, 0) := by decide +kernel
theorem i_52_20 : pg_at 52 20 = some (1, 3, 0, 0) := by decide +kernel
theorem i_52_21 : pg_at 52 21 = some (17, 30, 0, 0) := by decide +kernel
theorem i_52_22 : pg_at 52 22 = some (3, 0, 0, 0) := by decide +kernel
theorem i_52_23 : pg_at 52 23 = some (34, 5, 1, 17) := by decide +kernel
theorem i_52_24 : pg_at 52 24 = some (1, 1, 0, 0) := by decide +kernel
theorem i_52_25 : pg_at 52 25 = some (31, 0, 0, 0) := by decide +kernel
theorem i_52_26 : pg_at 52 26 = some (34, 3, 1, 275) := by decide +kernel
theorem i_52_27 : pg_at 52 27 = some (1, 2, 0, 0) := by decide +kernel
theorem i_52_28 : pg_at 52 28 = some (27, 0, 0, 0) := by decide +kernel
theorem i_52_29 : pg_at 52 29 = some (16, 37, 0, 0) := by decide +kernel
theorem i_52_30 : pg_at 52 30 = some (3, 0, 0, 0) := by decide +kernel
theorem i_52_31 : pg_at 52 31 = some (34, 5, 1, 17) := by decide +kernel
theorem i_52_32 : pg_at 52 32 = some (1, 1, 0, 0) := by decide +kernel
theorem i_52_33 : pg_at 52 33 = some (31, 0, 0, 0) := by decide +kernel
theorem i_52_34 : pg_at 52 34 = some (34, 3, 0, 278) := by decide +kernel
theorem i_52_35 : pg_at 52 35 = some (1, 2, 0, 0) := by decide +kernel
theorem i_52_36 : pg_at 52 36 = some (27, 0, 0, 0) := by decide +kernel
theorem i_52_37 : pg_at 52 37 = some (45, 0, 0, 0) := by decide +kernel
theorem mf_52 : pg_na 52 = 4 ∧ pg_ml 52 = 4 ∧ pg_cst 52 = 7 ∧ pg_cl 52 = 5 := by decide +kernel
theorem rt_52 : pg_rt 52 ≠ some .boolean := by decide +kernel
theorem hx_52 : pg_hx 52 = [] := by decide +kernel
theorem i_53_0 : pg_at 53 0 = some (3, 0, 0, 0) := by decide +kernel
theorem i_53_1 : pg_at 53 1 = some (1, 1, 0, 0) := by decide +kernel
theorem i_53_2 : pg_at 53 2 = some (41, 61, 0, 101) := by decide +kernel
theorem i_53_3 : pg_at 53 3 = some (17, 9, 1, 0) := by decide +kernel
theorem i_53_4 : pg_at 53 4 = some (44, 3, 20, 0) := by decide +kernel
theorem i_53_9 : pg_at 53 9 = some (3, 0, 0, 0) := by decide +kernel
theorem i_53_10 : pg_at 53 10 = some (34, 5, 1, 17) := by decide +kernel
theorem i_53_11 : pg_at 53 11 = some (1, 1, 0, 0) := by decide +kernel
theorem i_53_12 : pg_at 53 12 = some (31, 0, 0, 0) := by decide +kernel
theorem i_53_13 : pg_at 53 13 = some (33, 3, 3, 283) := by decide +kernel
theorem i_53_14 : pg_at 53 14 = some (45, 0, 0, 0) := by decide +kernel
theorem mf_53 : pg_na 53 = 2 ∧ pg_ml 53 = 2 ∧ pg_cst 53 = 7 ∧ pg_cl 53 = 5 := by decide +kernel
theorem rt_53 : pg_rt 53 ≠ some .boolean := by decide +kernel
theorem hx_53 : pg_hx 53 = [] := by decide +kernel
theorem i_54_0 : pg_at 54 0 = some (3, 0, 0, 0) := by decide +kernel
theorem i_54_1 : pg_at 54 1 = some (1, 1, 0, 0) := by decide +kernel
theorem i_54_2 : pg_at 54 2 = some (41, 60, 0, 79) := by decide +kernel
theorem i_54_3 : pg_at 54 3 = some (17, 8, 0, 0) := by decide +kernel
theorem i_54_4 : pg_at 54 4 = some (3, 0, 0, 0) := by decide +kernel
theorem i_54_5 : pg_at 54 5 = some (1, 2, 0, 0) := by decide +kernel
theorem i_54_6 : pg_at 54 6 = some (41, 60, 0, 79) := by decide +kernel
theorem i_54_7 : pg_at 54 7 = some (17, 13, 1, 0) := by decide +kernel
theorem i_54_8 : pg_at 54 8 = some (44, 3, 3, 0) := by decide +kernel
theorem i_54_13 : pg_at 54 13 = some (3, 0, 0, 0) := by decide +kernel
theorem i_54_14 : pg_at 54 14 = some (34, 5, 0, 11) := by decide +kernel
theorem i_54_15 : pg_at 54 15 = some (1, 1, 0, 0) := by decide +kernel
theorem i_54_16 : pg_at 54 16 = some (31, 0, 0, 0) := by decide +kernel
theorem i_54_17 : pg_at 54 17 = some (34, 4, 2, 286) := by decide +kernel
theorem i_54_18 : pg_at 54 18 = some (1, 2, 0, 0) := by decide +kernel
theorem i_54_19 : pg_at 54 19 = some (27, 0, 0, 0) := by decide +kernel
theorem i_54_20 : pg_at 54 20 = some (45, 0, 0, 0) := by decide +kernel
theorem mf_54 : pg_na 54 = 3 ∧ pg_ml 54 = 3 ∧ pg_cst 54 = 7 ∧ pg_cl 54 = 5 := by decide +kernel
theorem rt_54 : pg_rt 54 ≠ some .boolean := by decide +kernel
theorem hx_54 : pg_hx 54 = [] := by decide +kernel
theorem i_55_0 : pg_at 55 0 = some (3, 0, 0, 0) := by decide +kernel
theorem i_55_1 : pg_at 55 1 = some (1, 1, 0, 0) := by decide +kernel
theorem i_55_2 : pg_at 55 2 = some (41, 60, 0, 79) := by decide +kernel
theorem i_55_3 : pg_at 55 3 = some (17, 8, 0, 0) := by decide +kernel
theorem i_55_4 : pg_at 55 4 = some (3, 0, 0, 0) := by decide +kernel
theorem i_55_5 : pg_at 55 5 = some (1, 2, 0, 0) := by decide +kernel
theorem i_55_6 : pg_at 55 6 = some (41, 60, 0, 79) := by decide +kernel
theorem i_55_7 : pg_at 55 7 = some (17, 13, 1, 0) := by decide +kernel
theorem i_55_8 : pg_at 55 8 = some (44, 3, 3, 0) := by decide +kernel
theorem i_55_13 : pg_at 55 13 = some (0, 0, 0, 0) := by decide +kernel
theorem i_55_14 : pg_at 55 14 = some (2, 3, 0, 0) := by decide +kernel
theorem i_55_15 : pg_at 55 15 = some (0, 0, 0, 0) := by decide +kernel
theorem i_55_16 : pg_at 55 16 = some (2, 4, 0, 0) := by decide +kernel
theorem i_55_17 : pg_at 55 17 = some (1, 4, 0, 0) := by decide +kernel
theorem i_55_18 : pg_at 55 18 = some (3, 0, 0, 0) := by decide +kernel
theorem i_55_19 : pg_at 55 19 = some (33, 5, 8, 106) := by decide +kernel
theorem i_55_20 : pg_at 55 20 = some (18, 37, 4, 0) := by decide +kernel
theorem i_55_21 : pg_at 55 21 = some (3, 0, 0, 0) := by decide +kernel
theorem i_55_22 : pg_at 55 22 = some (1, 4, 0, 0) := by decide +kernel
theorem i_55_23 : pg_at 55 23 = some (41, 63, 0, 111) := by decide +kernel
theorem i_55_24 : pg_at 55 24 = some (4, 5, 0, 0) := by decide +kernel
theorem i_55_25 : pg_at 55 25 = some (3, 5, 0, 0) := by decide +kernel
theorem i_55_26 : pg_at 55 26 = some (33, 0, 3, 162) := by decide +kernel
theorem i_55_27 : pg_at 55 27 = some (17, 35, 0, 0) := by decide +kernel
theorem i_55_28 : pg_at 55 28 = some (1, 3, 0, 0) := by decide +kernel
theorem i_55_29 : pg_at 55 29 = some (3, 5, 0, 0) := by decide +kernel
theorem i_55_30 : pg_at 55 30 = some (1, 1, 0, 0) := by decide +kernel
theorem i_55_31 : pg_at 55 31 = some (1, 2, 0, 0) := by decide +kernel
theorem i_55_32 : pg_at 55 32 = some (41, 6, 0, 289) := by decide +kernel
theorem i_55_33 : pg_at 55 33 = some (6, 0, 0, 0) := by decide +kernel
theorem i_55_34 : pg_at 55 34 = some (2, 3, 0, 0) := by decide +kernel
theorem i_55_35 : pg_at 55 35 = some (5, 4, 0, 1) := by decide +kernel
theorem i_55_36 : pg_at 55 36 = some (16, 17, 0, 0) := by decide +kernel
theorem i_55_37 : pg_at 55 37 = some (1, 3, 0, 0) := by decide +kernel
theorem i_55_38 : pg_at 55 38 = some (45, 0, 0, 0) := by decide +kernel
theorem mf_55 : pg_na 55 = 3 ∧ pg_ml 55 = 6 ∧ pg_cst 55 = 7 ∧ pg_cl 55 = 5 := by decide +kernel
theorem rt_55 : pg_rt 55 ≠ some .boolean := by decide +kernel
theorem hx_55 : pg_hx 55 = [] := by decide +kernel
theorem i_56_0 : pg_at 56 0 = some (1, 1, 0, 0) := by decide +kernel
theorem i_56_1 : pg_at 56 1 = some (40, 62, 0, 98) := by decide +kernel
theorem i_56_2 : pg_at 56 2 = some (17, 8, 1, 0) := by decide +kernel
theorem i_56_3 : pg_at 56 3 = some (44, 3, 21, 0) := by decide +kernel
theorem i_56_8 : pg_at 56 8 = some (3, 0, 0, 0) := by decide +kernel
theorem i_56_9 : pg_at 56 9 = some (34, 5, 4, 32) := by decide +kernel
theorem i_56_10 : pg_at 56 10 = some (1, 1, 0, 0) := by decide +kernel
theorem i_56_11 : pg_at 56 11 = some (27, 0, 0, 0) := by decide +kernel
theorem i_56_12 : pg_at 56 12 = some (45, 0, 0, 0) := by decide +kernel
theorem mf_56 : pg_na 56 = 2 ∧ pg_ml 56 = 2 ∧ pg_cst 56 = 7 ∧ pg_cl 56 = 5 := by decide +kernel
theorem rt_56 : pg_rt 56 ≠ some .boolean := by decide +kernel
theorem hx_56 : pg_hx 56 = [] := by decide +kernel
theorem i_57_0 : pg_at 57 0 = some (3, 0, 0, 0) := by decide +kernel
theorem i_57_1 : pg_at 57 1 = some (41, 72, 0, 184) := by decide +kernel
theorem i_57_2 : pg_at 57 2 = some (41, 15, 0, 188) := by decide +kernel
theorem i_57_3 : pg_at 57 3 = some (45, 0, 0, 0) := by decide +kernel
theorem mf_57 : pg_na 57 = 1 ∧ pg_ml 57 = 1 ∧ pg_cst 57 = 7 ∧ pg_cl 57 = 5 := by decide +kernel
theorem rt_57 : pg_rt 57 ≠ some .boolean := by decide +kernel
theorem hx_57 : pg_hx 57 = [] := by decide +kernel
theorem i_58_0 : pg_at 58 0 = some (3, 0, 0, 0) := by decide +kernel
theorem i_58_1 : pg_at 58 1 = some (41, 72, 0, 184) := by decide +kernel
theorem i_58_2 : pg_at 58 2 = some (41, 20, 0, 294) := by decide +kernel
theorem i_58_3 : pg_at 58 3 = some (45, 0, 0, 0) := by decide +kernel
theorem mf_58 : pg_na 58 = 1 ∧ pg_ml 58 = 1 ∧ pg_cst 58 = 7 ∧ pg_cl 58 = 5 := by decide +kernel
theorem rt_58 : pg_rt 58 ≠ some .boolean := by decide +kernel
theorem hx_58 : pg_hx 58 = [] := by decide +kernel
theorem i_59_0 : pg_at 59 0 = some (1, 0, 0, 0) := by decide +kernel
theorem i_59_1 : pg_at 59 1 = some (1, 1, 0, 0) := by decide +kernel
theorem i_59_2 : pg_at 59 2 = some (18, 8, 2, 0) := by decide +kernel
theorem i_59_3 : pg_at 59 3 = some (1, 0, 0, 0) := by decide +kernel
theorem i_59_4 : pg_at 59 4 = some (1, 2, 0, 0) := by decide +kernel
theorem i_59_5 : pg_at 59 5 = some (18, 8, 4, 0) := by decide +kernel
theorem i_59_6 : pg_at 59 6 = some (0, 0, 0, 1) := by decide +kernel
theorem i_59_7 : pg_at 59 7 = some (16, 9, 0, 0) := by decide +kernel
theorem i_59_8 : pg_at 59 8 = some (0, 0, 0, 0) := by decide +kernel
theorem i_59_9 : pg_at 59 9 = some (45, 0, 0, 0) := by decide +kernel
theorem mf_59 : pg_na 59 = 3 ∧ pg_ml 59 = 3 ∧ pg_cst 59 = 0 ∧ pg_cl 59 = 5 := by decide +kernel
theorem rt_59 : pg_rt 59 = some .boolean := by decide +kernel
theorem hx_59 : pg_hx 59 = [] := by decide +kernel
theorem i_60_0 : pg_at 60 0 = some (1, 1, 0, 0) := by decide +kernel
theorem i_60_1 : pg_at 60 1 = some (17, 8, 2, 0) := by decide +kernel
theorem i_60_2 : pg_at 60 2 = some (1, 1, 0, 0) := by decide +kernel
theorem i_60_3 : pg_at 60 3 = some (3, 0, 0, 0) := by decide +kernel
theorem i_60_4 : pg_at 60 4 = some (33, 5, 6, 56) := by decide +kernel
theorem i_60_5 : pg_at 60 5 = some (18, 8, 3, 0) := by decide +kernel
theorem i_60_6 : pg_at 60 6 = some (0, 0, 0, 1) := by decide +kernel
theorem i_60_7 : pg_at 60 7 = some (16, 9, 0, 0) := by decide +kernel
theorem i_60_8 : pg_at 60 8 = some (0, 0, 0, 0) := by decide +kernel
theorem i_60_9 : pg_at 60 9 = some (45, 0, 0, 0) := by decide +kernel
theorem mf_60 : pg_na 60 = 2 ∧ pg_ml 60 = 2 ∧ pg_cst 60 = 0 ∧ pg_cl 60 = 5 := by decide +kernel
theorem rt_60 : pg_rt 60 = some .boolean := by decide +kernel
theorem hx_60 : pg_hx 60 = [] := by decide +kernel
theorem i_61_0 : pg_at 61 0 = some (1, 1, 0, 0) := by decide +kernel
theorem i_61_1 : pg_at 61 1 = some (17, 8, 2, 0) := by decide +kernel
theorem i_61_2 : pg_at 61 2 = some (1, 1, 0, 0) := by decide +kernel
theorem i_61_3 : pg_at 61 3 = some (3, 0, 0, 0) := by decide +kernel
theorem i_61_4 : pg_at 61 4 = some (33, 5, 7, 74) := by decide +kernel
theorem i_61_5 : pg_at 61 5 = some (18, 8, 3, 0) := by decide +kernel
theorem i_61_6 : pg_at 61 6 = some (0, 0, 0, 1) := by decide +kernel
theorem i_61_7 : pg_at 61 7 = some (16, 9, 0, 0) := by decide +kernel
theorem i_61_8 : pg_at 61 8 = some (0, 0, 0, 0) := by decide +kernel
theorem i_61_9 : pg_at 61 9 = some (45, 0, 0, 0) := by decide +kernel
theorem mf_61 : pg_na 61 = 2 ∧ pg_ml 61 = 2 ∧ pg_cst 61 = 0 ∧ pg_cl 61 = 5 := by decide +kernel
theorem rt_61 : pg_rt 61 = some .boolean := by decide +kernel
theorem hx_61 : pg_hx 61 = [] := by decide +kernel
theorem i_62_0 : pg_at 62 0 = some (1, 0, 0, 0) := by decide +kernel
theorem i_62_1 : pg_at 62 1 = some (17, 7, 2, 0) := by decide +kernel
theorem i_62_2 : pg_at 62 2 = some (1, 0, 0, 0) := by decide +kernel
theorem i_62_3 : pg_at 62 3 = some (0, 0, 0, 4) := by decide +kernel
theorem i_62_4 : pg_at 62 4 = some (18, 7, 3, 0) := by decide +kernel
theorem i_62_5 : pg_at 62 5 = some (0, 0, 0, 1) := by decide +kernel
theorem i_62_6 : pg_at 62 6 = some (16, 8, 0, 0) := by decide +kernel
theorem i_62_7 : pg_at 62 7 = some (0, 0, 0, 0) := by decide +kernel
theorem i_62_8 : pg_at 62 8 = some (45, 0, 0, 0) := by decide +kernel
theorem mf_62 : pg_na 62 = 1 ∧ pg_ml 62 = 1 ∧ pg_cst 62 = 0 ∧ pg_cl 62 = 5 := by decide +kernel
theorem rt_62 : pg_rt 62 = some .boolean := by decide +kernel
theorem hx_62 : pg_hx 62 = [] := by decide +kernel
theorem i_63_0 : pg_at 63 0 = some (1, 1, 0, 0) := by decide +kernel
theorem i_63_1 : pg_at 63 1 = some (0, 0, 0, 0) := by decide +kernel
theorem i_63_2 : pg_at 63 2 = some (0, 0, 0, 999) := by decide +kernel
theorem i_63_3 : pg_at 63 3 = some (40, 59, 0, 45) := by decide +kernel
theorem i_63_4 : pg_at 63 4 = some (17, 10, 0, 0) := by decide +kernel
theorem i_63_5 : pg_at 63 5 = some (3, 0, 0, 0) := by decide +kernel
theorem i_63_6 : pg_at 63 6 = some (34, 5, 2, 23) := by decide +kernel
theorem i_63_7 : pg_at 63 7 = some (1, 1, 0, 0) := by decide +kernel
theorem i_63_8 : pg_at 63 8 = some (31, 0, 0, 0) := by decide +kernel
theorem i_63_9 : pg_at 63 9 = some (19, 13, 0, 0) := by decide +kernel
theorem i_63_10 : pg_at 63 10 = some (3, 0, 0, 0) := by decide +kernel
theorem i_63_11 : pg_at 63 11 = some (34, 5, 3, 28) := by decide +kernel
theorem i_63_12 : pg_at 63 12 = some (46, 0, 0, 0) := by decide +kernel
theorem i_63_13 : pg_at 63 13 = some (3, 0, 0, 0) := by decide +kernel
theorem i_63_14 : pg_at 63 14 = some (34, 5, 2, 23) := by decide +kernel
theorem i_63_15 : pg_at 63 15 = some (1, 1, 0, 0) := by decide +kernel
theorem i_63_16 : pg_at 63 16 = some (31, 0, 0, 0) := by decide +kernel
theorem i_63_17 : pg_at 63 17 = some (46, 0, 0, 0) := by decide +kernel
theorem mf_63 : pg_na 63 = 2 ∧ pg_ml 63 = 2 ∧ pg_cst 63 = 0 ∧ pg_cl 63 = 5 := by decide +kernel
theorem rt_63 : pg_rt 63 ≠ some .boolean := by decide +kernel
theorem hx_63 : pg_hx 63 = [] := by decide +kernel
theorem i_64_0 : pg_at 64 0 = some (3, 0, 0, 0) := by decide +kernel
theorem i_64_1 : pg_at 64 1 = some (34, 5, 2, 23) := by decide +kernel
theorem i_64_2 : pg_at 64 2 = some (1, 1, 0, 0) := by decide +kernel
theorem i_64_3 : pg_at 64 3 = some (31, 0, 0, 0) := by decide +kernel
theorem i_64_4 : pg_at 64 4 = some (19, 12, 0, 0) := by decide +kernel
theorem i_64_5 : pg_at 64 5 = some (3, 0, 0, 0) := by decide +kernel
theorem i_64_6 : pg_at 64 6 = some (34, 5, 2, 23) := by decide +kernel
theorem i_64_7 : pg_at 64 7 = some (1, 1, 0, 0) := by decide +kernel
theorem i_64_8 : pg_at 64 8 = some (37, 0, 0, 21) := by decide +kernel
theorem i_64_9 : pg_at 64 9 = some (13, 0, 0, 0) := by decide +kernel
theorem i_64_10 : pg_at 64 10 = some (42, 0, 0, 27) := by decide +kernel
theorem i_64_11 : pg_at 64 11 = some (32, 0, 0, 0) := by decide +kernel
theorem i_64_12 : pg_at 64 12 = some (3, 0, 0, 0) := by decide +kernel
theorem i_64_13 : pg_at 64 13 = some (34, 5, 2, 23) := by decide +kernel
theorem i_64_14 : pg_at 64 14 = some (1, 1, 0, 0) := by decide +kernel
theorem i_64_15 : pg_at 64 15 = some (31, 0, 0, 0) := by decide +kernel
theorem i_64_16 : pg_at 64 16 = some (46, 0, 0, 0) := by decide +kernel
theorem mf_64 : pg_na 64 = 2 ∧ pg_ml 64 = 2 ∧ pg_cst 64 = 54 ∧ pg_cl 64 = 5 := by decide +kernel
theorem rt_64 : pg_rt 64 ≠ some .boolean := by decide +kernel
theorem hx_64 : pg_hx 64 = [] := by decide +kernel
theorem i_65_0 : pg_at 65 0 = some (1, 1, 0, 0) := by decide +kernel
theorem i_65_1 : pg_at 65 1 = some (0, 0, 0, (-1)) := by decide +kernel
theorem i_65_2 : pg_at 65 2 = some (18, 5, 1, 0) := by decide +kernel
theorem i_65_3 : pg_at 65 3 = some (0, 0, 0, 1) := by decide +kernel
theorem i_65_4 : pg_at 65 4 = some (45, 0, 0, 0) := by decide +kernel
theorem i_65_5 : pg_at 65 5 = some (3, 0, 0, 0) := by decide +kernel
theorem i_65_6 : pg_at 65 6 = some (34, 5, 1, 17) := by decide +kernel
theorem i_65_7 : pg_at 65 7 = some (1, 1, 0, 0) := by decide +kernel
theorem i_65_8 : pg_at 65 8 = some (31, 0, 0, 0) := by decide +kernel
theorem i_65_9 : pg_at 65 9 = some (33, 3, 3, 283) := by decide +kernel
theorem i_65_10 : pg_at 65 10 = some (2, 4, 0, 0) := by decide +kernel
theorem i_65_11 : pg_at 65 11 = some (1, 4, 0, 0) := by decide +kernel
theorem i_65_12 : pg_at 65 12 = some (0, 0, 0, (-1)) := by decide +kernel
theorem i_65_13 : pg_at 65 13 = some (18, 20, 0, 0) := by decide +kernel
theorem i_65_14 : pg_at 65 14 = some (1, 4, 0, 0) := by decide +kernel
theorem i_65_15 : pg_at 65 15 = some (1, 2, 0, 0) := by decide +kernel
theorem i_65_16 : pg_at 65 16 = some (18, 20, 0, 0) := by decide +kernel
theorem i_65_17 : pg_at 65 17 = some (1, 4, 0, 0) := by decide +kernel
theorem i_65_18 : pg_at 65 18 = some (1, 3, 0, 0) := by decide +kernel
theorem i_65_19 : pg_at 65 19 = some (18, 22, 1, 0) := by decide +kernel
theorem i_65_20 : pg_at 65 20 = some (0, 0, 0, 1) := by decide +kernel
theorem i_65_21 : pg_at 65 21 = some (16, 23, 0, 0) := by decide +kernel
theorem i_65_22 : pg_at 65 22 = some (0, 0, 0, 0) := by decide +kernel
theorem i_65_23 : pg_at 65 23 = some (45, 0, 0, 0) := by decide +kernel
theorem mf_65 : pg_na 65 = 4 ∧ pg_ml 65 = 5 ∧ pg_cst 65 = 0 ∧ pg_cl 65 = 5 := by decide +kernel
theorem rt_65 : pg_rt 65 = some .boolean := by decide +kernel
theorem hx_65 : pg_hx 65 = [] := by decide +kernel
theorem i_66_0 : pg_at 66 0 = some (3, 0, 0, 0) := by decide +kernel
theorem i_66_1 : pg_at 66 1 = some (34, 5, 0, 11) := by decide +kernel
theorem i_66_2 : pg_at 66 2 = some (1, 1, 0, 0) := by decide +kernel
theorem i_66_3 : pg_at 66 3 = some (31, 0, 0, 0) := by decide +kernel
theorem i_66_4 : pg_at 66 4 = some (4, 3, 0, 0) := by decide +kernel
theorem i_66_5 : pg_at 66 5 = some (3, 3, 0, 0) := by decide +kernel
theorem i_66_6 : pg_at 66 6 = some (3, 3, 0, 0) := by decide +kernel
theorem i_66_7 : pg_at 66 7 = some (33, 4, 7, 234) := by decide +kernel
theorem i_66_8 : pg_at 66 8 = some (1, 2, 0, 0) := by decide +kernel
theorem i_66_9 : pg_at 66 9 = some (51, 0, 0, 214) := by decide +kernel
theorem i_66_10 : pg_at 66 10 = some (35, 4, 7, 234) := by decide +kernel
theorem i_66_11 : pg_at 66 11 = some (3, 3, 0, 0) := by decide +kernel
theorem i_66_12 : pg_at 66 12 = some (33, 4, 7, 234) := by decide +kernel
theorem i_66_13 : pg_at 66 13 = some (3, 0, 0, 0) := by decide +kernel
theorem i_66_14 : pg_at 66 14 = some (33, 5, 8, 106) := by decide +kernel
theorem i_66_15 : pg_at 66 15 = some (7, 0, 0, 0) := by decide +kernel
theorem i_66_16 : pg_at 66 16 = some (0, 0, 0, 60) := by decide +kernel
theorem i_66_17 : pg_at 66 17 = some (18, 21, 5, 0) := by decide +kernel
theorem i_66_18 : pg_at 66 18 = some (3, 0, 0, 0) := by decide +kernel
theorem i_66_19 : pg_at 66 19 = some (1, 1, 0, 0) := by decide +kernel
theorem i_66_20 : pg_at 66 20 = some (41, 67, 0, 297) := by decide +kernel
theorem i_66_21 : pg_at 66 21 = some (3, 3, 0, 0) := by decide +kernel
theorem i_66_22 : pg_at 66 22 = some (33, 4, 7, 234) := by decide +kernel
theorem i_66_23 : pg_at 66 23 = some (45, 0, 0, 0) := by decide +kernel
theorem mf_66 : pg_na 66 = 3 ∧ pg_ml 66 = 4 ∧ pg_cst 66 = 0 ∧ pg_cl 66 = 5 := by decide +kernel
theorem rt_66 : pg_rt 66 ≠ some .boolean := by decide +kernel
theorem hx_66 : pg_hx 66 = [] := by decide +kernel
theorem i_67_0 : pg_at 67 0 = some (0, 0, 0, 0) := by decide +kernel
theorem i_67_1 : pg_at 67 1 = some (2, 2, 0, 0) := by decide +kernel
theorem i_67_2 : pg_at 67 2 = some (1, 2, 0, 0) := by decide +kernel
theorem i_67_3 : pg_at 67 3 = some (3, 0, 0, 0) := by decide +kernel
theorem i_67_4 : pg_at 67 4 = some (33, 5, 7, 74) := by decide +kernel
theorem i_67_5 : pg_at 67 5 = some (18, 23, 3, 0) := by decide +kernel
theorem i_67_6 : pg_at 67 6 = some (3, 0, 0, 0) := by decide +kernel
theorem i_67_7 : pg_at 67 7 = some (34, 5, 1, 17) := by decide +kernel
theorem i_67_8 : pg_at 67 8 = some (1, 2, 0, 0) := by decide +kernel
theorem i_67_9 : pg_at 67 9 = some (31, 0, 0, 0) := by decide +kernel
theorem i_67_10 : pg_at 67 10 = some (33, 3, 3, 283) := by decide +kernel
theorem i_67_11 : pg_at 67 11 = some (1, 1, 0, 0) := by decide +kernel
theorem i_67_12 : pg_at 67 12 = some (18, 21, 1, 0) := by decide +kernel
theorem i_67_13 : pg_at 67 13 = some (3, 0, 0, 0) := by decide +kernel
theorem i_67_14 : pg_at 67 14 = some (34, 5, 1, 17) := by decide +kernel
theorem i_67_15 : pg_at 67 15 = some (1, 2, 0, 0) := by decide +kernel
theorem i_67_16 : pg_at 67 16 = some (31, 0, 0, 0) := by decide +kernel
theorem i_67_17 : pg_at 67 17 = some (0, 0, 0, (-1)) := by decide +kernel
theorem i_67_18 : pg_at 67 18 = some (3, 0, 0, 0) := by decide +kernel
theorem i_67_19 : pg_at 67 19 = some (33, 5, 8, 106) := by decide +kernel
theorem i_67_20 : pg_at 67 20 = some (41, 25, 0, 300) := by decide +kernel
theorem i_67_21 : pg_at 67 21 = some (5, 2, 0, 1) := by decide +kernel
theorem i_67_22 : pg_at 67 22 = some (16, 2, 0, 0) := by decide +kernel
theorem i_67_23 : pg_at 67 23 = some (47, 0, 0, 0) := by decide +kernel
theorem mf_67 : pg_na 67 = 2 ∧ pg_ml 67 = 3 ∧ pg_cst 67 = 0 ∧ pg_cl 67 = 5 := by decide +kernel
theorem hx_67 : pg_hx 67 = [] := by decide +kernel
theorem i_68_0 : pg_at 68 0 = some (0, 0, 0, 0) := by decide +kernel
theorem i_68_1 : pg_at 68 1 = some (2, 2, 0, 0) := by decide +kernel
theorem i_68_2 : pg_at 68 2 = some (1, 2, 0, 0) := by decide +kernel
theorem i_68_3 : pg_at 68 3 = some (3, 1, 0, 0) := by decide +kernel
theorem i_68_4 : pg_at 68 4 = some (33, 0, 2, 144) := by decide +kernel
theorem i_68_5 : pg_at 68 5 = some (18, 33, 3, 0) := by decide +kernel
theorem i_68_6 : pg_at 68 6 = some (3, 1, 0, 0) := by decide +kernel
theorem i_68_7 : pg_at 68 7 = some (34, 0, 0, 147) := by decide +kernel
theorem i_68_8 : pg_at 68 8 = some (1, 2, 0, 0) := by decide +kernel
theorem i_68_9 : pg_at 68 9 = some (31, 0, 0, 0) := by decide +kernel
theorem i_68_10 : pg_at 68 10 = some (4, 3, 0, 0) := by decide +kernel
theorem i_68_11 : pg_at 68 11 = some (3, 0, 0, 0) := by decide +kernel
theorem i_68_12 : pg_at 68 12 = some (34, 5, 0, 11) := by decide +kernel
theorem i_68_13 : pg_at 68 13 = some (3, 3, 0, 0) := by decide +kernel
theorem i_68_14 : pg_at 68 14 = some (33, 1, 0, 255) := by decide +kernel
theorem i_68_15 : pg_at 68 15 = some (31, 0, 0, 0) := by decide +kernel
theorem i_68_16 : pg_at 68 16 = some (3, 0, 0, 0) := by decide +kernel
theorem i_68_17 : pg_at 68 17 = some (33, 5, 8, 106) := by decide +kernel
theorem i_68_18 : pg_at 68 18 = some (41, 27, 0, 127) := by decide +kernel
theorem i_68_19 : pg_at 68 19 = some (17, 29, 1, 0) := by decide +kernel
theorem i_68_20 : pg_at 68 20 = some (3, 0, 0, 0) := by decide +kernel
theorem i_68_21 : pg_at 68 21 = some (34, 5, 0, 11) := by decide +kernel
theorem i_68_22 : pg_at 68 22 = some (3, 3, 0, 0) := by decide +kernel
theorem i_68_23 : pg_at 68 23 = some (33, 1, 1, 258) := by decide +kernel
theorem i_68_24 : pg_at 68 24 = some (31, 0, 0, 0) := by decide +kernel
theorem i_68_25 : pg_at 68 25 = some (3, 0, 0, 0) := by decide +kernel
theorem i_68_26 : pg_at 68 26 = some (33, 5, 8, 106) := by decide +kernel
theorem i_68_27 : pg_at 68 27 = some (41, 27, 0, 127) := by decide +kernel
theorem i_68_28 : pg_at 68 28 = some (17, 31, 0, 0) := by decide +kernel
theorem i_68_29 : pg_at 68 29 = some (0, 0, 0, 1) := by decide +kernel
theorem i_68_30 : pg_at 68 30 = some (45, 0, 0, 0) := by decide +kernel
theorem i_68_31 : pg_at 68 31 = some (5, 2, 0, 1) := by decide +kernel
theorem i_68_32 : pg_at 68 32 = some (16, 2, 0, 0) := by decide +kernel
theorem i_68_33 : pg_at 68 33 = some (0, 0, 0, 0) := by decide +kernel
theorem i_68_34 : pg_at 68 34 = some (45, 0, 0, 0) := by decide +kernel
theorem mf_68 : pg_na 68 = 2 ∧ pg_ml 68 = 4 ∧ pg_cst 68 = 0 ∧ pg_cl 68 = 5 := by decide +kernel
theorem rt_68 : pg_rt 68 = some .boolean := by decide +kernel
theorem hx_68 : pg_hx 68 = [] := by decide +kernel
theorem i_69_0 : pg_at 69 0 = some (3, 0, 0, 0) := by decide +kernel
theorem i_69_1 : pg_at 69 1 = some (34, 5, 0, 11) := by decide +kernel
theorem i_69_2 : pg_at 69 2 = some (3, 1, 0, 0) := by decide +kernel
theorem i_69_3 : pg_at 69 3 = some (33, 1, 0, 255) := by decide +kernel
theorem i_69_4 : pg_at 69 4 = some (31, 0, 0, 0) := by decide +kernel
theorem i_69_5 : pg_at 69 5 = some (4, 3, 0, 0) := by decide +kernel
theorem i_69_6 : pg_at 69 6 = some (3, 0, 0, 0) := by decide +kernel
theorem i_69_7 : pg_at 69 7 = some (34, 5, 0, 11) := by decide +kernel
theorem i_69_8 : pg_at 69 8 = some (3, 1, 0, 0) := by decide +kernel
theorem i_69_9 : pg_at 69 9 = some (33, 1, 1, 258) := by decide +kernel
theorem i_69_10 : pg_at 69 10 = some (31, 0, 0, 0) := by decide +kernel
theorem i_69_11 : pg_at 69 11 = some (4, 4, 0, 0) := by decide +kernel
theorem i_69_12 : pg_at 69 12 = some (3, 3, 0, 0) := by decide +kernel
theorem i_69_13 : pg_at 69 13 = some (1, 2, 0, 0) := by decide +kernel
theorem i_69_14 : pg_at 69 14 = some (41, 29, 0, 248) := by decide +kernel
theorem i_69_15 : pg_at 69 15 = some (3, 4, 0, 0) := by decide +kernel
theorem i_69_16 : pg_at 69 16 = some (1, 2, 0, 0) := by decide +kernel
theorem i_69_17 : pg_at 69 17 = some (41, 29, 0, 248) := by decide +kernel
theorem i_69_18 : pg_at 69 18 = some (6, 0, 0, 0) := by decide +kernel
theorem i_69_19 : pg_at 69 19 = some (2, 5, 0, 0) := by decide +kernel
theorem i_69_20 : pg_at 69 20 = some (3, 0, 0, 0) := by decide +kernel
theorem i_69_21 : pg_at 69 21 = some (34, 5, 4, 32) := by decide +kernel
theorem i_69_22 : pg_at 69 22 = some (1, 2, 0, 0) := by decide +kernel
theorem i_69_23 : pg_at 69 23 = some (14, 0, 0, 0) := by decide +kernel
theorem i_69_24 : pg_at 69 24 = some (27, 0, 0, 0) := by decide +kernel
theorem i_69_25 : pg_at 69 25 = some (1, 5, 0, 0) := by decide +kernel
theorem i_69_26 : pg_at 69 26 = some (6, 0, 0, 0) := by decide +kernel
theorem i_69_27 : pg_at 69 27 = some (28, 0, 0, 0) := by decide +kernel
theorem i_69_28 : pg_at 69 28 = some (3, 1, 0, 0) := by decide +kernel
theorem i_69_29 : pg_at 69 29 = some (33, 1, 5, 172) := by decide +kernel
theorem i_69_30 : pg_at 69 30 = some (17, 44, 0, 0) := by decide +kernel
theorem i_69_31 : pg_at 69 31 = some (3, 3, 0, 0) := by decide +kernel
theorem i_69_32 : pg_at 69 32 = some (13, 0, 0, 0) := by decide +kernel
theorem i_69_33 : pg_at 69 33 = some (33, 4, 11, 243) := by decide +kernel
theorem i_69_34 : pg_at 69 34 = some (0, 0, 0, 1) := by decide +kernel
theorem i_69_35 : pg_at 69 35 = some (6, 0, 0, 0) := by decide +kernel
theorem i_69_36 : pg_at 69 36 = some (35, 4, 11, 243) := by decide +kernel
theorem i_69_37 : pg_at 69 37 = some (3, 4, 0, 0) := by decide +kernel
theorem i_69_38 : pg_at 69 38 = some (13, 0, 0, 0) := by decide +kernel
theorem i_69_39 : pg_at 69 39 = some (33, 4, 11, 243) := by decide +kernel
theorem i_69_40 : pg_at 69 40 = some (0, 0, 0, 1) := by decide +kernel
theorem i_69_41 : pg_at 69 41 = some (6, 0, 0, 0) := by decide +kernel
theorem i_69_42 : pg_at 69 42 = some (35, 4, 11, 243) := by decide +kernel
theorem i_69_43 : pg_at 69 43 = some (16, 51, 0, 0) := by decide +kernel
theorem i_69_44 : pg_at 69 44 = some (3, 0, 0, 0) := by decide +kernel
theorem i_69_45 : pg_at 69 45 = some (3, 1, 0, 0) := by decide +kernel
theorem i_69_46 : pg_at 69 46 = some (41, 10, 0, 261) := by decide +kernel
theorem i_69_47 : pg_at 69 47 = some (3, 1, 0, 0) := by decide +kernel
theorem i_69_48 : pg_at 69 48 = some (41, 11, 0, 303) := by decide +kernel
theorem i_69_49 : pg_at 69 49 = some (1, 2, 0, 0) := by decide +kernel
theorem i_69_50 : pg_at 69 50 = some (41, 70, 0, 306) := by decide +kernel
theorem i_69_51 : pg_at 69 51 = some (3, 3, 0, 0) := by decide +kernel
theorem i_69_52 : pg_at 69 52 = some (13, 0, 0, 0) := by decide +kernel
theorem i_69_53 : pg_at 69 53 = some (33, 4, 6, 231) := by decide +kernel
theorem i_69_54 : pg_at 69 54 = some (3, 1, 0, 0) := by decide +kernel
theorem i_69_55 : pg_at 69 55 = some (33, 1, 3, 264) := by decide +kernel
theorem i_69_56 : pg_at 69 56 = some (6, 0, 0, 0) := by decide +kernel
theorem i_69_57 : pg_at 69 57 = some (35, 4, 6, 231) := by decide +kernel
theorem i_69_58 : pg_at 69 58 = some (3, 4, 0, 0) := by decide +kernel
theorem i_69_59 : pg_at 69 59 = some (13, 0, 0, 0) := by decide +kernel
theorem i_69_60 : pg_at 69 60 = some (33, 4, 6, 231) := by decide +kernel
theorem i_69_61 : pg_at 69 61 = some (3, 1, 0, 0) := by decide +kernel
theorem i_69_62 : pg_at 69 62 = some (33, 1, 3, 264) := by decide +kernel
theorem i_69_63 : pg_at 69 63 = some (6, 0, 0, 0) := by decide +kernel
theorem i_69_64 : pg_at 69 64 = some (35, 4, 6, 231) := by decide +kernel
theorem i_69_65 : pg_at 69 65 = some (3, 1, 0, 0) := by decide +kernel
theorem i_69_66 : pg_at 69 66 = some (33, 1, 5, 172) := by decide +kernel
theorem i_69_67 : pg_at 69 67 = some (17, 71, 1, 0) := by decide +kernel
theorem i_69_68 : pg_at 69 68 = some (3, 0, 0, 0) := by decide +kernel
theorem i_69_69 : pg_at 69 69 = some (3, 1, 0, 0) := by decide +kernel
theorem i_69_70 : pg_at 69 70 = some (41, 71, 0, 310) := by decide +kernel
theorem i_69_71 : pg_at 69 71 = some (3, 3, 0, 0) := by decide +kernel
theorem i_69_72 : pg_at 69 72 = some (41, 31, 0, 223) := by decide +kernel
theorem i_69_73 : pg_at 69 73 = some (3, 4, 0, 0) := by decide +kernel
theorem i_69_74 : pg_at 69 74 = some (41, 31, 0, 223) := by decide +kernel
theorem i_69_75 : pg_at 69 75 = some (1, 5, 0, 0) := by decide +kernel
theorem i_69_76 : pg_at 69 76 = some (45, 0, 0, 0) := by decide +kernel
theorem mf_69 : pg_na 69 = 3 ∧ pg_ml 69 = 6 ∧ pg_cst 69 = 0 ∧ pg_cl 69 = 5 := by decide +kernel
theorem rt_69 : pg_rt 69 ≠ some .boolean := by decide +kernel
theorem hx_69 : pg_hx 69 = [] := by decide +kernel
theorem i_70_0 : pg_at 70 0 = some (3, 0, 0, 0) := by decide +kernel
theorem i_70_1 : pg_at 70 1 = some (34, 5, 0, 11) := by decide +kernel
theorem i_70_2 : pg_at 70 2 = some (1, 1, 0, 0) := by decide +kernel
theorem i_70_3 : pg_at 70 3 = some (31, 0, 0, 0) := by decide +kernel
theorem i_70_4 : pg_at 70 4 = some (4, 4, 0, 0) := by decide +kernel
theorem i_70_5 : pg_at 70 5 = some (3, 0, 0, 0) := by decide +kernel
theorem i_70_6 : pg_at 70 6 = some (34, 5, 0, 11) := by decide +kernel
theorem i_70_7 : pg_at 70 7 = some (1, 2, 0, 0) := by decide +kernel
theorem i_70_8 : pg_at 70 8 = some (31, 0, 0, 0) := by decide +kernel
theorem i_70_9 : pg_at 70 9 = some (4, 5, 0, 0) := by decide +kernel
theorem i_70_10 : pg_at 70 10 = some (3, 4, 0, 0) := by decide +kernel
theorem i_70_11 : pg_at 70 11 = some (13, 0, 0, 0) := by decide +kernel
theorem i_70_12 : pg_at 70 12 = some (33, 4, 9, 237) := by decide +kernel
theorem i_70_13 : pg_at 70 13 = some (0, 0, 0, 1) := by decide +kernel
theorem i_70_14 : pg_at 70 14 = some (6, 0, 0, 0) := by decide +kernel
theorem i_70_15 : pg_at 70 15 = some (35, 4, 9, 237) := by decide +kernel
theorem i_70_16 : pg_at 70 16 = some (3, 5, 0, 0) := by decide +kernel
theorem i_70_17 : pg_at 70 17 = some (13, 0, 0, 0) := by decide +kernel
theorem i_70_18 : pg_at 70 18 = some (33, 4, 10, 240) := by decide +kernel
theorem i_70_19 : pg_at 70 19 = some (0, 0, 0, 1) := by decide +kernel
theorem i_70_20 : pg_at 70 20 = some (6, 0, 0, 0) := by decide +kernel
theorem i_70_21 : pg_at 70 21 = some (35, 4, 10, 240) := by decide +kernel
theorem i_70_22 : pg_at 70 22 = some (3, 4, 0, 0) := by decide +kernel
theorem i_70_23 : pg_at 70 23 = some (34, 4, 2, 286) := by decide +kernel
theorem i_70_24 : pg_at 70 24 = some (1, 2, 0, 0) := by decide +kernel
theorem i_70_25 : pg_at 70 25 = some (14, 0, 0, 0) := by decide +kernel
theorem i_70_26 : pg_at 70 26 = some (27, 0, 0, 0) := by decide +kernel
theorem i_70_27 : pg_at 70 27 = some (0, 0, 0, 1) := by decide +kernel
theorem i_70_28 : pg_at 70 28 = some (6, 0, 0, 0) := by decide +kernel
theorem i_70_29 : pg_at 70 29 = some (28, 0, 0, 0) := by decide +kernel
theorem i_70_30 : pg_at 70 30 = some (3, 4, 0, 0) := by decide +kernel
theorem i_70_31 : pg_at 70 31 = some (33, 4, 5, 71) := by decide +kernel
theorem i_70_32 : pg_at 70 32 = some (3, 5, 0, 0) := by decide +kernel
theorem i_70_33 : pg_at 70 33 = some (33, 4, 5, 71) := by decide +kernel
theorem i_70_34 : pg_at 70 34 = some (18, 44, 1, 0) := by decide +kernel
theorem i_70_35 : pg_at 70 35 = some (3, 4, 0, 0) := by decide +kernel
theorem i_70_36 : pg_at 70 36 = some (1, 3, 0, 0) := by decide +kernel
theorem i_70_37 : pg_at 70 37 = some (0, 0, 0, 3) := by decide +kernel
theorem i_70_38 : pg_at 70 38 = some (41, 30, 0, 219) := by decide +kernel
theorem i_70_39 : pg_at 70 39 = some (3, 5, 0, 0) := by decide +kernel
theorem i_70_40 : pg_at 70 40 = some (1, 3, 0, 0) := by decide +kernel
theorem i_70_41 : pg_at 70 41 = some (0, 0, 0, (-1)) := by decide +kernel
theorem i_70_42 : pg_at 70 42 = some (41, 30, 0, 219) := by decide +kernel
theorem i_70_43 : pg_at 70 43 = some (16, 62, 0, 0) := by decide +kernel
theorem i_70_44 : pg_at 70 44 = some (3, 4, 0, 0) := by decide +kernel
theorem i_70_45 : pg_at 70 45 = some (1, 3, 0, 0) := by decide +kernel
theorem i_70_46 : pg_at 70 46 = some (3, 4, 0, 0) := by decide +kernel
theorem i_70_47 : pg_at 70 47 = some (33, 4, 5, 71) := by decide +kernel
theorem i_70_48 : pg_at 70 48 = some (17, 51, 1, 0) := by decide +kernel
theorem i_70_49 : pg_at 70 49 = some (0, 0, 0, 6) := by decide +kernel
theorem i_70_50 : pg_at 70 50 = some (16, 52, 0, 0) := by decide +kernel
theorem i_70_51 : pg_at 70 51 = some (0, 0, 0, (-6)) := by decide +kernel
theorem i_70_52 : pg_at 70 52 = some (41, 30, 0, 219) := by decide +kernel
theorem i_70_53 : pg_at 70 53 = some (3, 5, 0, 0) := by decide +kernel
theorem i_70_54 : pg_at 70 54 = some (1, 3, 0, 0) := by decide +kernel
theorem i_70_55 : pg_at 70 55 = some (3, 5, 0, 0) := by decide +kernel
theorem i_70_56 : pg_at 70 56 = some (33, 4, 5, 71) := by decide +kernel
theorem i_70_57 : pg_at 70 57 = some (17, 60, 1, 0) := by decide +kernel
theorem i_70_58 : pg_at 70 58 = some (0, 0, 0, 2) := by decide +kernel
theorem i_70_59 : pg_at 70 59 = some (16, 61, 0, 0) := by decide +kernel
theorem i_70_60 : pg_at 70 60 = some (0, 0, 0, (-2)) := by decide +kernel
theorem i_70_61 : pg_at 70 61 = some (41, 30, 0, 219) := by decide +kernel
theorem i_70_62 : pg_at 70 62 = some (47, 0, 0, 0) := by decide +kernel
theorem mf_70 : pg_na 70 = 4 ∧ pg_ml 70 = 6 ∧ pg_cst 70 = 0 ∧ pg_cl 70 = 5 := by decide +kernel
theorem hx_70 : pg_hx 70 = [] := by decide +kernel
theorem i_71_0 : pg_at 71 0 = some (3, 1, 0, 0) := by decide +kernel
theorem i_71_1 : pg_at 71 1 = some (33, 1, 4, 267) := by decide +kernel
theorem i_71_2 : pg_at 71 2 = some (0, 0, 0, (-1)) := by decide +kernel
theorem i_71_3 : pg_at 71 3 = some (18, 13, 0, 0) := by decide +kernel
theorem i_71_4 : pg_at 71 4 = some (3, 0, 0, 0) := by decide +kernel
theorem i_71_5 : pg_at 71 5 = some (3, 1, 0, 0) := by decide +kernel
theorem i_71_6 : pg_at 71 6 = some (33, 1, 4, 267) := by decide +kernel
theorem i_71_7 : pg_at 71 7 = some (3, 1, 0, 0) := by decide +kernel
theorem i_71_8 : pg_at 71 8 = some (33, 1, 0, 255) := by decide +kernel
theorem i_71_9 : pg_at 71 9 = some (3, 1, 0, 0) := by decide +kernel
theorem i_71_10 : pg_at 71 10 = some (33, 1, 1, 258) := by decide +kernel
theorem i_71_11 : pg_at 71 11 = some (41, 65, 0, 130) := by decide +kernel
theorem i_71_12 : pg_at 71 12 = some (17, 14, 1, 0) := by decide +kernel
theorem i_71_13 : pg_at 71 13 = some (47, 0, 0, 0) := by decide +kernel
theorem i_71_14 : pg_at 71 14 = some (3, 0, 0, 0) := by decide +kernel
theorem i_71_15 : pg_at 71 15 = some (34, 5, 1, 17) := by decide +kernel
theorem i_71_16 : pg_at 71 16 = some (3, 1, 0, 0) := by decide +kernel
theorem i_71_17 : pg_at 71 17 = some (33, 1, 4, 267) := by decide +kernel
theorem i_71_18 : pg_at 71 18 = some (31, 0, 0, 0) := by decide +kernel
theorem i_71_19 : pg_at 71 19 = some (4, 2, 0, 0) := by decide +kernel
theorem i_71_20 : pg_at 71 20 = some (3, 2, 0, 0) := by decide +kernel
theorem i_71_21 : pg_at 71 21 = some (33, 3, 3, 283) := by decide +kernel
theorem i_71_22 : pg_at 71 22 = some (3, 1, 0, 0) := by decide +kernel
theorem i_71_23 : pg_at 71 23 = some (41, 10, 0, 261) := by decide +kernel
theorem i_71_24 : pg_at 71 24 = some (18, 31, 0, 0) := by decide +kernel
theorem i_71_25 : pg_at 71 25 = some (3, 2, 0, 0) := by decide +kernel
theorem i_71_26 : pg_at 71 26 = some (3, 1, 0, 0) := by decide +kernel
theorem i_71_27 : pg_at 71 27 = some (41, 10, 0, 261) := by decide +kernel
theorem i_71_28 : pg_at 71 28 = some (3, 0, 0, 0) := by decide +kernel
theorem i_71_29 : pg_at 71 29 = some (33, 5, 8, 106) := by decide +kernel
theorem i_71_30 : pg_at 71 30 = some (41, 25, 0, 300) := by decide +kernel
theorem i_71_31 : pg_at 71 31 = some (47, 0, 0, 0) := by decide +kernel
theorem mf_71 : pg_na 71 = 2 ∧ pg_ml 71 = 3 ∧ pg_cst 71 = 0 ∧ pg_cl 71 = 5 := by decide +kernel
theorem hx_71 : pg_hx 71 = [] := by decide +kernel
theorem i_72_0 : pg_at 72 0 = some (3, 0, 0, 0) := by decide +kernel
theorem i_72_1 : pg_at 72 1 = some (3, 0, 0, 0) := by decide +kernel
theorem i_72_2 : pg_at 72 2 = some (33, 5, 8, 106) := by decide +kernel
theorem i_72_3 : pg_at 72 3 = some (41, 63, 0, 111) := by decide +kernel
theorem i_72_4 : pg_at 72 4 = some (4, 1, 0, 0) := by decide +kernel
theorem i_72_5 : pg_at 72 5 = some (3, 1, 0, 0) := by decide +kernel
theorem i_72_6 : pg_at 72 6 = some (33, 0, 2, 144) := by decide +kernel
theorem i_72_7 : pg_at 72 7 = some (17, 11, 0, 0) := by decide +kernel
theorem i_72_8 : pg_at 72 8 = some (3, 1, 0, 0) := by decide +kernel
theorem i_72_9 : pg_at 72 9 = some (33, 0, 3, 162) := by decide +kernel
theorem i_72_10 : pg_at 72 10 = some (17, 16, 0, 0) := by decide +kernel
theorem i_72_11 : pg_at 72 11 = some (44, 2, 22, 0) := by decide +kernel
theorem i_72_16 : pg_at 72 16 = some (3, 0, 0, 0) := by decide +kernel
theorem i_72_17 : pg_at 72 17 = some (34, 5, 5, 39) := by decide +kernel
theorem i_72_18 : pg_at 72 18 = some (3, 1, 0, 0) := by decide +kernel
theorem i_72_19 : pg_at 72 19 = some (3, 0, 0, 0) := by decide +kernel
theorem i_72_20 : pg_at 72 20 = some (33, 5, 8, 106) := by decide +kernel
theorem i_72_21 : pg_at 72 21 = some (3, 0, 0, 0) := by decide +kernel
theorem i_72_22 : pg_at 72 22 = some (34, 5, 0, 11) := by decide +kernel
theorem i_72_23 : pg_at 72 23 = some (3, 0, 0, 0) := by decide +kernel
theorem i_72_24 : pg_at 72 24 = some (33, 5, 6, 56) := by decide +kernel
theorem i_72_25 : pg_at 72 25 = some (41, 13, 0, 316) := by decide +kernel
theorem i_72_26 : pg_at 72 26 = some (3, 0, 0, 0) := by decide +kernel
theorem i_72_27 : pg_at 72 27 = some (34, 5, 5, 39) := by decide +kernel
theorem i_72_28 : pg_at 72 28 = some (48, 2, 11, 320) := by decide +kernel
theorem i_72_29 : pg_at 72 29 = some (0, 0, 0, 4) := by decide +kernel
theorem i_72_30 : pg_at 72 30 = some (18, 36, 5, 0) := by decide +kernel
theorem i_72_31 : pg_at 72 31 = some (44, 2, 23, 0) := by decide +kernel
theorem i_72_36 : pg_at 72 36 = some (3, 0, 0, 0) := by decide +kernel
theorem i_72_37 : pg_at 72 37 = some (34, 5, 5, 39) := by decide +kernel
theorem i_72_38 : pg_at 72 38 = some (46, 0, 0, 0) := by decide +kernel
theorem mf_72 : pg_na 72 = 1 ∧ pg_ml 72 = 2 ∧ pg_cst 72 = 7 ∧ pg_cl 72 = 5 := by decide +kernel
theorem rt_72 : pg_rt 72 ≠ some .boolean := by decide +kernel
theorem hx_72 : pg_hx 72 = [] := by decide +kernel
theorem i_76_0 : pg_at 76 0 = some (0, 0, 0, 0) := by decide +kernel
theorem i_76_1 : pg_at 76 1 = some (2, 2, 0, 0) := by decide +kernel
theorem i_76_2 : pg_at 76 2 = some (3, 0, 0, 0) := by decide +kernel
theorem i_76_3 : pg_at 76 3 = some (26, 0, 0, 0) := by decide +kernel
theorem i_76_4 : pg_at 76 4 = some (2, 3, 0, 0) := by decide +kernel
theorem i_76_5 : pg_at 76 5 = some (1, 2, 0, 0) := by decide +kernel
theorem i_76_6 : pg_at 76 6 = some (1, 3, 0, 0) := by decide +kernel
theorem i_76_7 : pg_at 76 7 = some (18, 14, 3, 0) := by decide +kernel
theorem i_76_8 : pg_at 76 8 = some (3, 0, 0, 0) := by decide +kernel
theorem i_76_9 : pg_at 76 9 = some (1, 2, 0, 0) := by decide +kernel
theorem i_76_10 : pg_at 76 10 = some (1, 1, 0, 0) := by decide +kernel
theorem i_76_11 : pg_at 76 11 = some (28, 0, 0, 0) := by decide +kernel
theorem i_76_12 : pg_at 76 12 = some (5, 2, 0, 1) := by decide +kernel
theorem i_76_13 : pg_at 76 13 = some (16, 5, 0, 0) := by decide +kernel
theorem i_76_14 : pg_at 76 14 = some (47, 0, 0, 0) := by decide +kernel
theorem mf_76 : pg_na 76 = 2 ∧ pg_ml 76 = 4 ∧ pg_cst 76 = 0 ∧ pg_cl 76 = 99 := by decide +kernel
theorem hx_76 : pg_hx 76 = [] := by decide +kernel
theorem i_77_0 : pg_at 77 0 = some (3, 0, 0, 0) := by decide +kernel
theorem i_77_1 : pg_at 77 1 = some (26, 0, 0, 0) := by decide +kernel
theorem i_77_2 : pg_at 77 2 = some (17, 9, 1, 0) := by decide +kernel
theorem i_77_3 : pg_at 77 3 = some (0, 0, 0, 907) := by decide +kernel
theorem i_77_4 : pg_at 77 4 = some (1, 1, 0, 0) := by decide +kernel
theorem i_77_5 : pg_at 77 5 = some (8, 0, 0, 0) := by decide +kernel
theorem i_77_6 : pg_at 77 6 = some (0, 0, 0, 101) := by decide +kernel
theorem i_77_7 : pg_at 77 7 = some (6, 0, 0, 0) := by decide +kernel
theorem i_77_8 : pg_at 77 8 = some (16, 19, 0, 0) := by decide +kernel
theorem i_77_9 : pg_at 77 9 = some (3, 0, 0, 0) := by decide +kernel
theorem i_77_10 : pg_at 77 10 = some (1, 1, 0, 0) := by decide +kernel
theorem i_77_11 : pg_at 77 11 = some (3, 0, 0, 0) := by decide +kernel
theorem i_77_12 : pg_at 77 12 = some (26, 0, 0, 0) := by decide +kernel
theorem i_77_13 : pg_at 77 13 = some (10, 0, 0, 0) := by decide +kernel
theorem i_77_14 : pg_at 77 14 = some (27, 0, 0, 0) := by decide +kernel
theorem i_77_15 : pg_at 77 15 = some (0, 0, 7, 1346269) := by decide +kernel
theorem i_77_16 : pg_at 77 16 = some (1, 1, 0, 0) := by decide +kernel
theorem i_77_17 : pg_at 77 17 = some (8, 0, 0, 0) := by decide +kernel
theorem i_77_18 : pg_at 77 18 = some (55, 0, 0, 0) := by decide +kernel
theorem i_77_19 : pg_at 77 19 = some (2, 3, 0, 0) := by decide +kernel
theorem i_77_20 : pg_at 77 20 = some (1, 3, 0, 0) := by decide +kernel
theorem i_77_21 : pg_at 77 21 = some (0, 0, 8, 2147483647) := by decide +kernel
theorem i_77_22 : pg_at 77 22 = some (12, 0, 0, 0) := by decide +kernel
theorem i_77_23 : pg_at 77 23 = some (1, 2, 0, 0) := by decide +kernel
theorem i_77_24 : pg_at 77 24 = some (10, 0, 0, 0) := by decide +kernel
theorem i_77_25 : pg_at 77 25 = some (45, 0, 0, 0) := by decide +kernel
theorem mf_77 : pg_na 77 = 3 ∧ pg_ml 77 = 4 ∧ pg_cst 77 = 0 ∧ pg_cl 77 = 99 := by decide +kernel
theorem rt_77 : pg_rt 77 ≠ some .boolean := by decide +kernel
theorem hx_77 : pg_hx 77 = [] := by decide +kernel
theorem i_78_0 : pg_at 78 0 = some (0, 0, 0, 18) := by decide +kernel
theorem i_78_1 : pg_at 78 1 = some (1, 1, 0, 0) := by decide +kernel
theorem i_78_2 : pg_at 78 2 = some (0, 0, 0, 3) := by decide +kernel
theorem i_78_3 : pg_at 78 3 = some (10, 0, 0, 0) := by decide +kernel
theorem i_78_4 : pg_at 78 4 = some (8, 0, 0, 0) := by decide +kernel
theorem i_78_5 : pg_at 78 5 = some (45, 0, 0, 0) := by decide +kernel
theorem mf_78 : pg_na 78 = 2 ∧ pg_ml 78 = 2 ∧ pg_cst 78 = 0 ∧ pg_cl 78 = 99 := by decide +kernel
theorem rt_78 : pg_rt 78 ≠ some .boolean := by decide +kernel
theorem hx_78 : pg_hx 78 = [] := by decide +kernel
theorem i_79_0 : pg_at 79 0 = some (3, 0, 0, 0) := by decide +kernel
theorem i_79_1 : pg_at 79 1 = some (0, 0, 0, 1) := by decide +kernel
theorem i_79_2 : pg_at 79 2 = some (1, 1, 0, 0) := by decide +kernel
theorem i_79_3 : pg_at 79 3 = some (0, 0, 0, 3) := by decide +kernel
theorem i_79_4 : pg_at 79 4 = some (10, 0, 0, 0) := by decide +kernel
theorem i_79_5 : pg_at 79 5 = some (6, 0, 0, 0) := by decide +kernel
theorem i_79_6 : pg_at 79 6 = some (27, 0, 0, 0) := by decide +kernel
theorem i_79_7 : pg_at 79 7 = some (45, 0, 0, 0) := by decide +kernel
theorem mf_79 : pg_na 79 = 2 ∧ pg_ml 79 = 2 ∧ pg_cst 79 = 0 ∧ pg_cl 79 = 99 := by decide +kernel
theorem rt_79 : pg_rt 79 ≠ some .boolean := by decide +kernel
theorem hx_79 : pg_hx 79 = [] := by decide +kernel
theorem i_80_0 : pg_at 80 0 = some (1, 2, 0, 0) := by decide +kernel
theorem i_80_1 : pg_at 80 1 = some (3, 0, 0, 0) := by decide +kernel
theorem i_80_2 : pg_at 80 2 = some (0, 0, 0, 9) := by decide +kernel
theorem i_80_3 : pg_at 80 3 = some (1, 1, 0, 0) := by decide +kernel
theorem i_80_4 : pg_at 80 4 = some (8, 0, 0, 0) := by decide +kernel
theorem i_80_5 : pg_at 80 5 = some (0, 0, 0, 4) := by decide +kernel
theorem i_80_6 : pg_at 80 6 = some (6, 0, 0, 0) := by decide +kernel
theorem i_80_7 : pg_at 80 7 = some (27, 0, 0, 0) := by decide +kernel
theorem i_80_8 : pg_at 80 8 = some (18, 11, 3, 0) := by decide +kernel
theorem i_80_9 : pg_at 80 9 = some (0, 0, 0, 1) := by decide +kernel
theorem i_80_10 : pg_at 80 10 = some (16, 12, 0, 0) := by decide +kernel
theorem i_80_11 : pg_at 80 11 = some (0, 0, 0, 0) := by decide +kernel
theorem i_80_12 : pg_at 80 12 = some (45, 0, 0, 0) := by decide +kernel
theorem mf_80 : pg_na 80 = 3 ∧ pg_ml 80 = 3 ∧ pg_cst 80 = 0 ∧ pg_cl 80 = 99 := by decide +kernel
theorem rt_80 : pg_rt 80 = some .boolean := by decide +kernel
theorem hx_80 : pg_hx 80 = [] := by decide +kernel
theorem i_81_0 : pg_at 81 0 = some (3, 1, 0, 0) := by decide +kernel
theorem i_81_1 : pg_at 81 1 = some (0, 0, 0, 7) := by decide +kernel
theorem i_81_2 : pg_at 81 2 = some (1, 2, 0, 0) := by decide +kernel
theorem i_81_3 : pg_at 81 3 = some (8, 0, 0, 0) := by decide +kernel
theorem i_81_4 : pg_at 81 4 = some (1, 3, 0, 0) := by decide +kernel
theorem i_81_5 : pg_at 81 5 = some (6, 0, 0, 0) := by decide +kernel
theorem i_81_6 : pg_at 81 6 = some (27, 0, 0, 0) := by decide +kernel
theorem i_81_7 : pg_at 81 7 = some (2, 4, 0, 0) := by decide +kernel
theorem i_81_8 : pg_at 81 8 = some (3, 0, 0, 0) := by decide +kernel
theorem i_81_9 : pg_at 81 9 = some (0, 0, 0, 9) := by decide +kernel
theorem i_81_10 : pg_at 81 10 = some (1, 3, 0, 0) := by decide +kernel
theorem i_81_11 : pg_at 81 11 = some (8, 0, 0, 0) := by decide +kernel
theorem i_81_12 : pg_at 81 12 = some (27, 0, 0, 0) := by decide +kernel
theorem i_81_13 : pg_at 81 13 = some (1, 4, 0, 0) := by decide +kernel
theorem i_81_14 : pg_at 81 14 = some (17, 17, 5, 0) := by decide +kernel
theorem i_81_15 : pg_at 81 15 = some (1, 4, 0, 0) := by decide +kernel
theorem i_81_16 : pg_at 81 16 = some (16, 19, 0, 0) := by decide +kernel
theorem i_81_17 : pg_at 81 17 = some (1, 4, 0, 0) := by decide +kernel
theorem i_81_18 : pg_at 81 18 = some (11, 0, 0, 0) := by decide +kernel
theorem i_81_19 : pg_at 81 19 = some (6, 0, 0, 0) := by decide +kernel
theorem i_81_20 : pg_at 81 20 = some (3, 0, 0, 0) := by decide +kernel
theorem i_81_21 : pg_at 81 21 = some (0, 0, 0, 9) := by decide +kernel
theorem i_81_22 : pg_at 81 22 = some (1, 3, 0, 0) := by decide +kernel
theorem i_81_23 : pg_at 81 23 = some (8, 0, 0, 0) := by decide +kernel
theorem i_81_24 : pg_at 81 24 = some (0, 0, 0, 3) := by decide +kernel
theorem i_81_25 : pg_at 81 25 = some (6, 0, 0, 0) := by decide +kernel
theorem i_81_26 : pg_at 81 26 = some (27, 0, 0, 0) := by decide +kernel
theorem i_81_27 : pg_at 81 27 = some (0, 0, 0, 10) := by decide +kernel
theorem i_81_28 : pg_at 81 28 = some (9, 0, 0, 0) := by decide +kernel
theorem i_81_29 : pg_at 81 29 = some (7, 0, 0, 0) := by decide +kernel
theorem i_81_30 : pg_at 81 30 = some (2, 5, 0, 0) := by decide +kernel
theorem i_81_31 : pg_at 81 31 = some (1, 5, 0, 0) := by decide +kernel
theorem i_81_32 : pg_at 81 32 = some (0, 0, 0, 1) := by decide +kernel
theorem i_81_33 : pg_at 81 33 = some (18, 36, 5, 0) := by decide +kernel
theorem i_81_34 : pg_at 81 34 = some (1, 5, 0, 0) := by decide +kernel
theorem i_81_35 : pg_at 81 35 = some (16, 37, 0, 0) := by decide +kernel
theorem i_81_36 : pg_at 81 36 = some (0, 0, 0, 1) := by decide +kernel
theorem i_81_37 : pg_at 81 37 = some (45, 0, 0, 0) := by decide +kernel
theorem mf_81 : pg_na 81 = 4 ∧ pg_ml 81 = 6 ∧ pg_cst 81 = 0 ∧ pg_cl 81 = 99 := by decide +kernel
theorem rt_81 : pg_rt 81 ≠ some .boolean := by decide +kernel
theorem hx_81 : pg_hx 81 = [] := by decide +kernel
theorem i_82_0 : pg_at 82 0 = some (1, 4, 0, 0) := by decide +kernel
theorem i_82_1 : pg_at 82 1 = some (3, 1, 0, 0) := by decide +kernel
theorem i_82_2 : pg_at 82 2 = some (0, 0, 0, 7) := by decide +kernel
theorem i_82_3 : pg_at 82 3 = some (1, 2, 0, 0) := by decide +kernel
theorem i_82_4 : pg_at 82 4 = some (8, 0, 0, 0) := by decide +kernel
theorem i_82_5 : pg_at 82 5 = some (1, 3, 0, 0) := by decide +kernel
theorem i_82_6 : pg_at 82 6 = some (6, 0, 0, 0) := by decide +kernel
theorem i_82_7 : pg_at 82 7 = some (27, 0, 0, 0) := by decide +kernel
theorem i_82_8 : pg_at 82 8 = some (0, 0, 0, 1) := by decide +kernel
theorem i_82_9 : pg_at 82 9 = some (7, 0, 0, 0) := by decide +kernel
theorem i_82_10 : pg_at 82 10 = some (18, 22, 5, 0) := by decide +kernel
theorem i_82_11 : pg_at 82 11 = some (1, 4, 0, 0) := by decide +kernel
theorem i_82_12 : pg_at 82 12 = some (3, 0, 0, 0) := by decide +kernel
theorem i_82_13 : pg_at 82 13 = some (0, 0, 0, 9) := by decide +kernel
theorem i_82_14 : pg_at 82 14 = some (1, 2, 0, 0) := by decide +kernel
theorem i_82_15 : pg_at 82 15 = some (8, 0, 0, 0) := by decide +kernel
theorem i_82_16 : pg_at 82 16 = some (0, 0, 0, 8) := by decide +kernel
theorem i_82_17 : pg_at 82 17 = some (6, 0, 0, 0) := by decide +kernel
theorem i_82_18 : pg_at 82 18 = some (27, 0, 0, 0) := by decide +kernel
theorem i_82_19 : pg_at 82 19 = some (0, 0, 0, 2) := by decide +kernel
theorem i_82_20 : pg_at 82 20 = some (9, 0, 0, 0) := by decide +kernel
theorem i_82_21 : pg_at 82 21 = some (18, 24, 3, 0) := by decide +kernel
theorem i_82_22 : pg_at 82 22 = some (0, 0, 0, 1) := by decide +kernel
theorem i_82_23 : pg_at 82 23 = some (16, 25, 0, 0) := by decide +kernel
theorem i_82_24 : pg_at 82 24 = some (0, 0, 0, 0) := by decide +kernel
theorem i_82_25 : pg_at 82 25 = some (45, 0, 0, 0) := by decide +kernel
theorem mf_82 : pg_na 82 = 5 ∧ pg_ml 82 = 5 ∧ pg_cst 82 = 0 ∧ pg_cl 82 = 99 := by decide +kernel
theorem rt_82 : pg_rt 82 = some .boolean := by decide +kernel
theorem hx_82 : pg_hx 82 = [] := by decide +kernel
theorem i_83_0 : pg_at 83 0 = some (0, 0, 0, 0) := by decide +kernel
theorem i_83_1 : pg_at 83 1 = some (2, 4, 0, 0) := by decide +kernel
theorem i_83_2 : pg_at 83 2 = some (0, 0, 0, 0) := by decide +kernel
theorem i_83_3 : pg_at 83 3 = some (2, 5, 0, 0) := by decide +kernel
theorem i_83_4 : pg_at 83 4 = some (1, 5, 0, 0) := by decide +kernel
theorem i_83_5 : pg_at 83 5 = some (3, 1, 0, 0) := by decide +kernel
theorem i_83_6 : pg_at 83 6 = some (1, 2, 0, 0) := by decide +kernel
theorem i_83_7 : pg_at 83 7 = some (40, 79, 0, 9) := by decide +kernel
theorem i_83_8 : pg_at 83 8 = some (18, 37, 3, 0) := by decide +kernel
theorem i_83_9 : pg_at 83 9 = some (3, 1, 0, 0) := by decide +kernel
theorem i_83_10 : pg_at 83 10 = some (1, 2, 0, 0) := by decide +kernel
theorem i_83_11 : pg_at 83 11 = some (40, 78, 0, 15) := by decide +kernel
theorem i_83_12 : pg_at 83 12 = some (0, 0, 0, 6) := by decide +kernel
theorem i_83_13 : pg_at 83 13 = some (1, 5, 0, 0) := by decide +kernel
theorem i_83_14 : pg_at 83 14 = some (8, 0, 0, 0) := by decide +kernel
theorem i_83_15 : pg_at 83 15 = some (6, 0, 0, 0) := by decide +kernel
theorem i_83_16 : pg_at 83 16 = some (2, 6, 0, 0) := by decide +kernel
theorem i_83_17 : pg_at 83 17 = some (1, 4, 0, 0) := by decide +kernel
theorem i_83_18 : pg_at 83 18 = some (17, 31, 1, 0) := by decide +kernel
theorem i_83_19 : pg_at 83 19 = some (3, 0, 0, 0) := by decide +kernel
theorem i_83_20 : pg_at 83 20 = some (1, 6, 0, 0) := by decide +kernel
theorem i_83_21 : pg_at 83 21 = some (27, 0, 0, 0) := by decide +kernel
theorem i_83_22 : pg_at 83 22 = some (1, 3, 0, 0) := by decide +kernel
theorem i_83_23 : pg_at 83 23 = some (18, 31, 0, 0) := by decide +kernel
theorem i_83_24 : pg_at 83 24 = some (3, 0, 0, 0) := by decide +kernel
theorem i_83_25 : pg_at 83 25 = some (1, 6, 0, 0) := by decide +kernel
theorem i_83_26 : pg_at 83 26 = some (0, 0, 0, 1) := by decide +kernel
theorem i_83_27 : pg_at 83 27 = some (6, 0, 0, 0) := by decide +kernel
theorem i_83_28 : pg_at 83 28 = some (27, 0, 0, 0) := by decide +kernel
theorem i_83_29 : pg_at 83 29 = some (1, 3, 0, 0) := by decide +kernel
theorem i_83_30 : pg_at 83 30 = some (18, 33, 1, 0) := by decide +kernel
theorem i_83_31 : pg_at 83 31 = some (0, 0, 0, 1) := by decide +kernel
theorem i_83_32 : pg_at 83 32 = some (16, 34, 0, 0) := by decide +kernel
theorem i_83_33 : pg_at 83 33 = some (0, 0, 0, 0) := by decide +kernel
theorem i_83_34 : pg_at 83 34 = some (2, 4, 0, 0) := by decide +kernel
theorem i_83_35 : pg_at 83 35 = some (5, 5, 0, 1) := by decide +kernel
theorem i_83_36 : pg_at 83 36 = some (16, 4, 0, 0) := by decide +kernel
theorem i_83_37 : pg_at 83 37 = some (1, 4, 0, 0) := by decide +kernel
theorem i_83_38 : pg_at 83 38 = some (45, 0, 0, 0) := by decide +kernel
theorem mf_83 : pg_na 83 = 4 ∧ pg_ml 83 = 7 ∧ pg_cst 83 = 0 ∧ pg_cl 83 = 99 := by decide +kernel
theorem rt_83 : pg_rt 83 = some .boolean := by decide +kernel
theorem hx_83 : pg_hx 83 = [] := by decide +kernel
theorem i_84_0 : pg_at 84 0 = some (3, 0, 0, 0) := by decide +kernel
theorem i_84_1 : pg_at 84 1 = some (0, 0, 0, 10) := by decide +kernel
theorem i_84_2 : pg_at 84 2 = some (1, 1, 0, 0) := by decide +kernel
theorem i_84_3 : pg_at 84 3 = some (6, 0, 0, 0) := by decide +kernel
theorem i_84_4 : pg_at 84 4 = some (1, 2, 0, 0) := by decide +kernel
theorem i_84_5 : pg_at 84 5 = some (0, 0, 0, 1) := by decide +kernel
theorem i_84_6 : pg_at 84 6 = some (6, 0, 0, 0) := by decide +kernel
theorem i_84_7 : pg_at 84 7 = some (28, 0, 0, 0) := by decide +kernel
theorem i_84_8 : pg_at 84 8 = some (3, 0, 0, 0) := by decide +kernel
theorem i_84_9 : pg_at 84 9 = some (0, 0, 0, 12) := by decide +kernel
theorem i_84_10 : pg_at 84 10 = some (1, 1, 0, 0) := by decide +kernel
theorem i_84_11 : pg_at 84 11 = some (6, 0, 0, 0) := by decide +kernel
theorem i_84_12 : pg_at 84 12 = some (14, 0, 0, 0) := by decide +kernel
theorem i_84_13 : pg_at 84 13 = some (27, 0, 0, 0) := by decide +kernel
theorem i_84_14 : pg_at 84 14 = some (0, 0, 0, 1) := by decide +kernel
theorem i_84_15 : pg_at 84 15 = some (6, 0, 0, 0) := by decide +kernel
theorem i_84_16 : pg_at 84 16 = some (28, 0, 0, 0) := by decide +kernel
theorem i_84_17 : pg_at 84 17 = some (47, 0, 0, 0) := by decide +kernel
theorem mf_84 : pg_na 84 = 3 ∧ pg_ml 84 = 3 ∧ pg_cst 84 = 0 ∧ pg_cl 84 = 99 := by decide +kernel
theorem hx_84 : pg_hx 84 = [] := by decide +kernel
theorem i_85_0 : pg_at 85 0 = some (3, 4, 0, 0) := by decide +kernel
theorem i_85_1 : pg_at 85 1 = some (0, 0, 0, 0) := by decide +kernel
theorem i_85_2 : pg_at 85 2 = some (27, 0, 0, 0) := by decide +kernel
theorem i_85_3 : pg_at 85 3 = some (1, 5, 0, 0) := by decide +kernel
theorem i_85_4 : pg_at 85 4 = some (0, 0, 0, 3) := by decide +kernel
theorem i_85_5 : pg_at 85 5 = some (10, 0, 0, 0) := by decide +kernel
theorem i_85_6 : pg_at 85 6 = some (6, 0, 0, 0) := by decide +kernel
theorem i_85_7 : pg_at 85 7 = some (2, 6, 0, 0) := by decide +kernel
theorem i_85_8 : pg_at 85 8 = some (3, 4, 0, 0) := by decide +kernel
theorem i_85_9 : pg_at 85 9 = some (1, 6, 0, 0) := by decide +kernel
theorem i_85_10 : pg_at 85 10 = some (40, 79, 0, 9) := by decide +kernel
theorem i_85_11 : pg_at 85 11 = some (17, 20, 5, 0) := by decide +kernel
theorem i_85_12 : pg_at 85 12 = some (3, 4, 0, 0) := by decide +kernel
theorem i_85_13 : pg_at 85 13 = some (0, 0, 0, 4) := by decide +kernel
theorem i_85_14 : pg_at 85 14 = some (1, 6, 0, 0) := by decide +kernel
theorem i_85_15 : pg_at 85 15 = some (0, 0, 0, 3) := by decide +kernel
theorem i_85_16 : pg_at 85 16 = some (10, 0, 0, 0) := by decide +kernel
theorem i_85_17 : pg_at 85 17 = some (6, 0, 0, 0) := by decide +kernel
theorem i_85_18 : pg_at 85 18 = some (27, 0, 0, 0) := by decide +kernel
theorem i_85_19 : pg_at 85 19 = some (16, 25, 0, 0) := by decide +kernel
theorem i_85_20 : pg_at 85 20 = some (1, 5, 0, 0) := by decide +kernel
theorem i_85_21 : pg_at 85 21 = some (0, 0, 0, 3) := by decide +kernel
theorem i_85_22 : pg_at 85 22 = some (9, 0, 0, 0) := by decide +kernel
theorem i_85_23 : pg_at 85 23 = some (0, 0, 0, 4) := by decide +kernel
theorem i_85_24 : pg_at 85 24 = some (10, 0, 0, 0) := by decide +kernel
theorem i_85_25 : pg_at 85 25 = some (2, 7, 0, 0) := by decide +kernel
theorem i_85_26 : pg_at 85 26 = some (1, 5, 0, 0) := by decide +kernel
theorem i_85_27 : pg_at 85 27 = some (0, 0, 0, 12) := by decide +kernel
theorem i_85_28 : pg_at 85 28 = some (9, 0, 0, 0) := by decide +kernel
theorem i_85_29 : pg_at 85 29 = some (0, 0, 0, 7) := by decide +kernel
theorem i_85_30 : pg_at 85 30 = some (10, 0, 0, 0) := by decide +kernel
theorem i_85_31 : pg_at 85 31 = some (2, 8, 0, 0) := by decide +kernel
theorem i_85_32 : pg_at 85 32 = some (1, 8, 0, 0) := by decide +kernel
theorem i_85_33 : pg_at 85 33 = some (0, 0, 0, 1) := by decide +kernel
theorem i_85_34 : pg_at 85 34 = some (6, 0, 0, 0) := by decide +kernel
theorem i_85_35 : pg_at 85 35 = some (1, 5, 0, 0) := by decide +kernel
theorem i_85_36 : pg_at 85 36 = some (0, 0, 0, 84) := by decide +kernel
theorem i_85_37 : pg_at 85 37 = some (9, 0, 0, 0) := by decide +kernel
theorem i_85_38 : pg_at 85 38 = some (0, 0, 0, 6) := by decide +kernel
theorem i_85_39 : pg_at 85 39 = some (10, 0, 0, 0) := by decide +kernel
theorem i_85_40 : pg_at 85 40 = some (6, 0, 0, 0) := by decide +kernel
theorem i_85_41 : pg_at 85 41 = some (0, 0, 0, 7) := by decide +kernel
theorem i_85_42 : pg_at 85 42 = some (10, 0, 0, 0) := by decide +kernel
theorem i_85_43 : pg_at 85 43 = some (2, 9, 0, 0) := by decide +kernel
theorem i_85_44 : pg_at 85 44 = some (0, 0, 0, 1) := by decide +kernel
theorem i_85_45 : pg_at 85 45 = some (1, 5, 0, 0) := by decide +kernel
theorem i_85_46 : pg_at 85 46 = some (0, 0, 0, 504) := by decide +kernel
theorem i_85_47 : pg_at 85 47 = some (9, 0, 0, 0) := by decide +kernel
theorem i_85_48 : pg_at 85 48 = some (0, 0, 0, 50) := by decide +kernel
theorem i_85_49 : pg_at 85 49 = some (10, 0, 0, 0) := by decide +kernel
theorem i_85_50 : pg_at 85 50 = some (6, 0, 0, 0) := by decide +kernel
theorem i_85_51 : pg_at 85 51 = some (2, 10, 0, 0) := by decide +kernel
theorem i_85_52 : pg_at 85 52 = some (1, 5, 0, 0) := by decide +kernel
theorem i_85_53 : pg_at 85 53 = some (0, 0, 0, 25200) := by decide +kernel
theorem i_85_54 : pg_at 85 54 = some (9, 0, 0, 0) := by decide +kernel
theorem i_85_55 : pg_at 85 55 = some (0, 0, 0, 3) := by decide +kernel
theorem i_85_56 : pg_at 85 56 = some (10, 0, 0, 0) := by decide +kernel
theorem i_85_57 : pg_at 85 57 = some (0, 0, 0, 1) := by decide +kernel
theorem i_85_58 : pg_at 85 58 = some (7, 0, 0, 0) := by decide +kernel
theorem i_85_59 : pg_at 85 59 = some (2, 11, 0, 0) := by decide +kernel
theorem i_85_60 : pg_at 85 60 = some (1, 5, 0, 0) := by decide +kernel
theorem i_85_61 : pg_at 85 61 = some (0, 0, 18, 75600) := by decide +kernel
theorem i_85_62 : pg_at 85 62 = some (9, 0, 0, 0) := by decide +kernel
theorem i_85_63 : pg_at 85 63 = some (0, 0, 0, 2) := by decide +kernel
theorem i_85_64 : pg_at 85 64 = some (10, 0, 0, 0) := by decide +kernel
theorem i_85_65 : pg_at 85 65 = some (2, 12, 0, 0) := by decide +kernel
theorem i_85_66 : pg_at 85 66 = some (1, 10, 0, 0) := by decide +kernel
theorem i_85_67 : pg_at 85 67 = some (2, 13, 0, 0) := by decide +kernel
theorem i_85_68 : pg_at 85 68 = some (3, 4, 0, 0) := by decide +kernel
theorem i_85_69 : pg_at 85 69 = some (0, 0, 0, 7) := by decide +kernel
theorem i_85_70 : pg_at 85 70 = some (1, 6, 0, 0) := by decide +kernel
theorem i_85_71 : pg_at 85 71 = some (0, 0, 0, 3) := by decide +kernel
theorem i_85_72 : pg_at 85 72 = some (10, 0, 0, 0) := by decide +kernel
theorem i_85_73 : pg_at 85 73 = some (6, 0, 0, 0) := by decide +kernel
theorem i_85_74 : pg_at 85 74 = some (27, 0, 0, 0) := by decide +kernel
theorem i_85_75 : pg_at 85 75 = some (17, 105, 1, 0) := by decide +kernel
theorem i_85_76 : pg_at 85 76 = some (3, 4, 0, 0) := by decide +kernel
theorem i_85_77 : pg_at 85 77 = some (1, 6, 0, 0) := by decide +kernel
theorem i_85_78 : pg_at 85 78 = some (40, 79, 0, 9) := by decide +kernel
theorem i_85_79 : pg_at 85 79 = some (0, 0, 0, 3) := by decide +kernel
theorem i_85_80 : pg_at 85 80 = some (18, 105, 3, 0) := by decide +kernel
theorem i_85_81 : pg_at 85 81 = some (3, 3, 0, 0) := by decide +kernel
theorem i_85_82 : pg_at 85 82 = some (3, 4, 0, 0) := by decide +kernel
theorem i_85_83 : pg_at 85 83 = some (1, 6, 0, 0) := by decide +kernel
theorem i_85_84 : pg_at 85 84 = some (1, 8, 0, 0) := by decide +kernel
theorem i_85_85 : pg_at 85 85 = some (40, 83, 0, 19) := by decide +kernel
theorem i_85_86 : pg_at 85 86 = some (17, 105, 1, 0) := by decide +kernel
theorem i_85_87 : pg_at 85 87 = some (3, 3, 0, 0) := by decide +kernel
theorem i_85_88 : pg_at 85 88 = some (3, 4, 0, 0) := by decide +kernel
theorem i_85_89 : pg_at 85 89 = some (1, 6, 0, 0) := by decide +kernel
theorem i_85_90 : pg_at 85 90 = some (1, 9, 0, 0) := by decide +kernel
theorem i_85_91 : pg_at 85 91 = some (40, 83, 0, 19) := by decide +kernel
theorem i_85_92 : pg_at 85 92 = some (17, 105, 1, 0) := by decide +kernel
theorem i_85_93 : pg_at 85 93 = some (3, 1, 0, 0) := by decide +kernel
theorem i_85_94 : pg_at 85 94 = some (1, 8, 0, 0) := by decide +kernel
theorem i_85_95 : pg_at 85 95 = some (1, 6, 0, 0) := by decide +kernel
theorem i_85_96 : pg_at 85 96 = some (40, 80, 0, 23) := by decide +kernel
theorem i_85_97 : pg_at 85 97 = some (17, 105, 1, 0) := by decide +kernel
theorem i_85_98 : pg_at 85 98 = some (3, 1, 0, 0) := by decide +kernel
theorem i_85_99 : pg_at 85 99 = some (1, 9, 0, 0) := by decide +kernel
theorem i_85_100 : pg_at 85 100 = some (1, 6, 0, 0) := by decide +kernel
theorem i_85_101 : pg_at 85 101 = some (40, 80, 0, 23) := by decide +kernel
theorem i_85_102 : pg_at 85 102 = some (17, 105, 1, 0) := by decide +kernel
theorem i_85_103 : pg_at 85 103 = some (0, 0, 0, 1) := by decide +kernel
theorem i_85_104 : pg_at 85 104 = some (16, 106, 0, 0) := by decide +kernel
theorem i_85_105 : pg_at 85 105 = some (0, 0, 0, 0) := by decide +kernel
theorem i_85_106 : pg_at 85 106 = some (2, 14, 0, 0) := by decide +kernel
theorem i_85_107 : pg_at 85 107 = some (0, 0, 0, 0) := by decide +kernel
theorem i_85_108 : pg_at 85 108 = some (2, 15, 0, 0) := by decide +kernel
theorem i_85_109 : pg_at 85 109 = some (1, 15, 0, 0) := by decide +kernel
theorem i_85_110 : pg_at 85 110 = some (3, 4, 0, 0) := by decide +kernel
theorem i_85_111 : pg_at 85 111 = some (1, 6, 0, 0) := by decide +kernel
theorem i_85_112 : pg_at 85 112 = some (40, 79, 0, 9) := by decide +kernel
theorem i_85_113 : pg_at 85 113 = some (18, 153, 3, 0) := by decide +kernel
theorem i_85_114 : pg_at 85 114 = some (1, 13, 0, 0) := by decide +kernel
theorem i_85_115 : pg_at 85 115 = some (3, 3, 0, 0) := by decide +kernel
theorem i_85_116 : pg_at 85 116 = some (3, 4, 0, 0) := by decide +kernel
theorem i_85_117 : pg_at 85 117 = some (1, 6, 0, 0) := by decide +kernel
theorem i_85_118 : pg_at 85 118 = some (40, 78, 0, 15) := by decide +kernel
theorem i_85_119 : pg_at 85 119 = some (0, 0, 0, 6) := by decide +kernel
theorem i_85_120 : pg_at 85 120 = some (1, 15, 0, 0) := by decide +kernel
theorem i_85_121 : pg_at 85 121 = some (8, 0, 0, 0) := by decide +kernel
theorem i_85_122 : pg_at 85 122 = some (6, 0, 0, 0) := by decide +kernel
theorem i_85_123 : pg_at 85 123 = some (0, 0, 0, 3) := by decide +kernel
theorem i_85_124 : pg_at 85 124 = some (6, 0, 0, 0) := by decide +kernel
theorem i_85_125 : pg_at 85 125 = some (27, 0, 0, 0) := by decide +kernel
theorem i_85_126 : pg_at 85 126 = some (6, 0, 0, 0) := by decide +kernel
theorem i_85_127 : pg_at 85 127 = some (2, 13, 0, 0) := by decide +kernel
theorem i_85_128 : pg_at 85 128 = some (1, 14, 0, 0) := by decide +kernel
theorem i_85_129 : pg_at 85 129 = some (17, 149, 0, 0) := by decide +kernel
theorem i_85_130 : pg_at 85 130 = some (1, 11, 0, 0) := by decide +kernel
theorem i_85_131 : pg_at 85 131 = some (17, 147, 2, 0) := by decide +kernel
theorem i_85_132 : pg_at 85 132 = some (3, 3, 0, 0) := by decide +kernel
theorem i_85_133 : pg_at 85 133 = some (3, 4, 0, 0) := by decide +kernel
theorem i_85_134 : pg_at 85 134 = some (1, 6, 0, 0) := by decide +kernel
theorem i_85_135 : pg_at 85 135 = some (40, 78, 0, 15) := by decide +kernel
theorem i_85_136 : pg_at 85 136 = some (0, 0, 0, 6) := by decide +kernel
theorem i_85_137 : pg_at 85 137 = some (1, 15, 0, 0) := by decide +kernel
theorem i_85_138 : pg_at 85 138 = some (8, 0, 0, 0) := by decide +kernel
theorem i_85_139 : pg_at 85 139 = some (6, 0, 0, 0) := by decide +kernel
theorem i_85_140 : pg_at 85 140 = some (0, 0, 0, 4) := by decide +kernel
theorem i_85_141 : pg_at 85 141 = some (6, 0, 0, 0) := by decide +kernel
theorem i_85_142 : pg_at 85 142 = some (27, 0, 0, 0) := by decide +kernel
theorem i_85_143 : pg_at 85 143 = some (1, 11, 0, 0) := by decide +kernel
theorem i_85_144 : pg_at 85 144 = some (0, 0, 0, 1) := by decide +kernel
theorem i_85_145 : pg_at 85 145 = some (6, 0, 0, 0) := by decide +kernel
theorem i_85_146 : pg_at 85 146 = some (18, 149, 0, 0) := by decide +kernel
theorem i_85_147 : pg_at 85 147 = some (0, 0, 0, 1) := by decide +kernel
theorem i_85_148 : pg_at 85 148 = some (16, 150, 0, 0) := by decide +kernel
theorem i_85_149 : pg_at 85 149 = some (0, 0, 0, 0) := by decide +kernel
theorem i_85_150 : pg_at 85 150 = some (2, 14, 0, 0) := by decide +kernel
theorem i_85_151 : pg_at 85 151 = some (5, 15, 0, 1) := by decide +kernel
theorem i_85_152 : pg_at 85 152 = some (16, 109, 0, 0) := by decide +kernel
theorem i_85_153 : pg_at 85 153 = some (1, 11, 0, 0) := by decide +kernel
theorem i_85_154 : pg_at 85 154 = some (17, 157, 3, 0) := by decide +kernel
theorem i_85_155 : pg_at 85 155 = some (0, 0, 0, (-1)) := by decide +kernel
theorem i_85_156 : pg_at 85 156 = some (16, 164, 0, 0) := by decide +kernel
theorem i_85_157 : pg_at 85 157 = some (3, 4, 0, 0) := by decide +kernel
theorem i_85_158 : pg_at 85 158 = some (0, 0, 0, 10) := by decide +kernel
theorem i_85_159 : pg_at 85 159 = some (1, 11, 0, 0) := by decide +kernel
theorem i_85_160 : pg_at 85 160 = some (6, 0, 0, 0) := by decide +kernel
theorem i_85_161 : pg_at 85 161 = some (27, 0, 0, 0) := by decide +kernel
theorem i_85_162 : pg_at 85 162 = some (0, 0, 0, 1) := by decide +kernel
theorem i_85_163 : pg_at 85 163 = some (7, 0, 0, 0) := by decide +kernel
theorem i_85_164 : pg_at 85 164 = some (2, 15, 0, 0) := by decide +kernel
theorem i_85_165 : pg_at 85 165 = some (1, 14, 0, 0) := by decide +kernel
theorem i_85_166 : pg_at 85 166 = some (17, 195, 0, 0) := by decide +kernel
theorem i_85_167 : pg_at 85 167 = some (1, 13, 0, 0) := by decide +kernel
theorem i_85_168 : pg_at 85 168 = some (0, 0, 0, 120) := by decide +kernel
theorem i_85_169 : pg_at 85 169 = some (18, 195, 4, 0) := by decide +kernel
theorem i_85_170 : pg_at 85 170 = some (1, 15, 0, 0) := by decide +kernel
theorem i_85_171 : pg_at 85 171 = some (17, 178, 2, 0) := by decide +kernel
theorem i_85_172 : pg_at 85 172 = some (1, 15, 0, 0) := by decide +kernel
theorem i_85_173 : pg_at 85 173 = some (1, 8, 0, 0) := by decide +kernel
theorem i_85_174 : pg_at 85 174 = some (18, 178, 0, 0) := by decide +kernel
theorem i_85_175 : pg_at 85 175 = some (1, 15, 0, 0) := by decide +kernel
theorem i_85_176 : pg_at 85 176 = some (1, 9, 0, 0) := by decide +kernel
theorem i_85_177 : pg_at 85 177 = some (18, 195, 1, 0) := by decide +kernel
theorem i_85_178 : pg_at 85 178 = some (3, 1, 0, 0) := by decide +kernel
theorem i_85_179 : pg_at 85 179 = some (3, 2, 0, 0) := by decide +kernel
theorem i_85_180 : pg_at 85 180 = some (1, 12, 0, 0) := by decide +kernel
theorem i_85_181 : pg_at 85 181 = some (17, 184, 1, 0) := by decide +kernel
theorem i_85_182 : pg_at 85 182 = some (1, 9, 0, 0) := by decide +kernel
theorem i_85_183 : pg_at 85 183 = some (16, 185, 0, 0) := by decide +kernel
theorem i_85_184 : pg_at 85 184 = some (1, 8, 0, 0) := by decide +kernel
theorem i_85_185 : pg_at 85 185 = some (1, 12, 0, 0) := by decide +kernel
theorem i_85_186 : pg_at 85 186 = some (17, 189, 1, 0) := by decide +kernel
theorem i_85_187 : pg_at 85 187 = some (1, 8, 0, 0) := by decide +kernel
theorem i_85_188 : pg_at 85 188 = some (16, 190, 0, 0) := by decide +kernel
theorem i_85_189 : pg_at 85 189 = some (1, 9, 0, 0) := by decide +kernel
theorem i_85_190 : pg_at 85 190 = some (1, 6, 0, 0) := by decide +kernel
theorem i_85_191 : pg_at 85 191 = some (40, 82, 0, 27) := by decide +kernel
theorem i_85_192 : pg_at 85 192 = some (17, 195, 1, 0) := by decide +kernel
theorem i_85_193 : pg_at 85 193 = some (0, 0, 0, 1) := by decide +kernel
theorem i_85_194 : pg_at 85 194 = some (16, 196, 0, 0) := by decide +kernel
theorem i_85_195 : pg_at 85 195 = some (0, 0, 0, 0) := by decide +kernel
theorem i_85_196 : pg_at 85 196 = some (2, 14, 0, 0) := by decide +kernel
theorem i_85_197 : pg_at 85 197 = some (1, 14, 0, 0) := by decide +kernel
theorem i_85_198 : pg_at 85 198 = some (17, 201, 1, 0) := by decide +kernel
theorem i_85_199 : pg_at 85 199 = some (0, 0, 0, 1) := by decide +kernel
theorem i_85_200 : pg_at 85 200 = some (45, 0, 0, 0) := by decide +kernel
theorem i_85_201 : pg_at 85 201 = some (3, 4, 0, 0) := by decide +kernel
theorem i_85_202 : pg_at 85 202 = some (1, 6, 0, 0) := by decide +kernel
theorem i_85_203 : pg_at 85 203 = some (40, 78, 0, 15) := by decide +kernel
theorem i_85_204 : pg_at 85 204 = some (0, 0, 0, 6) := by decide +kernel
theorem i_85_205 : pg_at 85 205 = some (3, 4, 0, 0) := by decide +kernel
theorem i_85_206 : pg_at 85 206 = some (1, 6, 0, 0) := by decide +kernel
theorem i_85_207 : pg_at 85 207 = some (40, 79, 0, 9) := by decide +kernel
theorem i_85_208 : pg_at 85 208 = some (8, 0, 0, 0) := by decide +kernel
theorem i_85_209 : pg_at 85 209 = some (6, 0, 0, 0) := by decide +kernel
theorem i_85_210 : pg_at 85 210 = some (2, 16, 0, 0) := by decide +kernel
theorem i_85_211 : pg_at 85 211 = some (3, 3, 0, 0) := by decide +kernel
theorem i_85_212 : pg_at 85 212 = some (1, 16, 0, 0) := by decide +kernel
theorem i_85_213 : pg_at 85 213 = some (1, 8, 0, 0) := by decide +kernel
theorem i_85_214 : pg_at 85 214 = some (28, 0, 0, 0) := by decide +kernel
theorem i_85_215 : pg_at 85 215 = some (3, 3, 0, 0) := by decide +kernel
theorem i_85_216 : pg_at 85 216 = some (1, 16, 0, 0) := by decide +kernel
theorem i_85_217 : pg_at 85 217 = some (0, 0, 0, 1) := by decide +kernel
theorem i_85_218 : pg_at 85 218 = some (6, 0, 0, 0) := by decide +kernel
theorem i_85_219 : pg_at 85 219 = some (1, 9, 0, 0) := by decide +kernel
theorem i_85_220 : pg_at 85 220 = some (28, 0, 0, 0) := by decide +kernel
theorem i_85_221 : pg_at 85 221 = some (3, 3, 0, 0) := by decide +kernel
theorem i_85_222 : pg_at 85 222 = some (1, 16, 0, 0) := by decide +kernel
theorem i_85_223 : pg_at 85 223 = some (0, 0, 0, 2) := by decide +kernel
theorem i_85_224 : pg_at 85 224 = some (6, 0, 0, 0) := by decide +kernel
theorem i_85_225 : pg_at 85 225 = some (1, 12, 0, 0) := by decide +kernel
theorem i_85_226 : pg_at 85 226 = some (28, 0, 0, 0) := by decide +kernel
theorem i_85_227 : pg_at 85 227 = some (3, 3, 0, 0) := by decide +kernel
theorem i_85_228 : pg_at 85 228 = some (1, 16, 0, 0) := by decide +kernel
theorem i_85_229 : pg_at 85 229 = some (0, 0, 0, 3) := by decide +kernel
theorem i_85_230 : pg_at 85 230 = some (6, 0, 0, 0) := by decide +kernel
theorem i_85_231 : pg_at 85 231 = some (1, 10, 0, 0) := by decide +kernel
theorem i_85_232 : pg_at 85 232 = some (28, 0, 0, 0) := by decide +kernel
theorem i_85_233 : pg_at 85 233 = some (3, 3, 0, 0) := by decide +kernel
theorem i_85_234 : pg_at 85 234 = some (1, 16, 0, 0) := by decide +kernel
theorem i_85_235 : pg_at 85 235 = some (0, 0, 0, 4) := by decide +kernel
theorem i_85_236 : pg_at 85 236 = some (6, 0, 0, 0) := by decide +kernel
theorem i_85_237 : pg_at 85 237 = some (1, 11, 0, 0) := by decide +kernel
theorem i_85_238 : pg_at 85 238 = some (0, 0, 0, 1) := by decide +kernel
theorem i_85_239 : pg_at 85 239 = some (6, 0, 0, 0) := by decide +kernel
theorem i_85_240 : pg_at 85 240 = some (28, 0, 0, 0) := by decide +kernel
theorem i_85_241 : pg_at 85 241 = some (3, 3, 0, 0) := by decide +kernel
theorem i_85_242 : pg_at 85 242 = some (1, 16, 0, 0) := by decide +kernel
theorem i_85_243 : pg_at 85 243 = some (0, 0, 0, 5) := by decide +kernel
theorem i_85_244 : pg_at 85 244 = some (6, 0, 0, 0) := by decide +kernel
theorem i_85_245 : pg_at 85 245 = some (0, 0, 0, 0) := by decide +kernel
theorem i_85_246 : pg_at 85 246 = some (28, 0, 0, 0) := by decide +kernel
theorem i_85_247 : pg_at 85 247 = some (3, 4, 0, 0) := by decide +kernel
theorem i_85_248 : pg_at 85 248 = some (0, 0, 0, 4) := by decide +kernel
theorem i_85_249 : pg_at 85 249 = some (1, 6, 0, 0) := by decide +kernel
theorem i_85_250 : pg_at 85 250 = some (0, 0, 0, 3) := by decide +kernel
theorem i_85_251 : pg_at 85 251 = some (10, 0, 0, 0) := by decide +kernel
theorem i_85_252 : pg_at 85 252 = some (6, 0, 0, 0) := by decide +kernel
theorem i_85_253 : pg_at 85 253 = some (1, 7, 0, 0) := by decide +kernel
theorem i_85_254 : pg_at 85 254 = some (28, 0, 0, 0) := by decide +kernel
theorem i_85_255 : pg_at 85 255 = some (3, 4, 0, 0) := by decide +kernel
theorem i_85_256 : pg_at 85 256 = some (0, 0, 0, 1) := by decide +kernel
theorem i_85_257 : pg_at 85 257 = some (1, 6, 0, 0) := by decide +kernel
theorem i_85_258 : pg_at 85 258 = some (0, 0, 0, 3) := by decide +kernel
theorem i_85_259 : pg_at 85 259 = some (10, 0, 0, 0) := by decide +kernel
theorem i_85_260 : pg_at 85 260 = some (6, 0, 0, 0) := by decide +kernel
theorem i_85_261 : pg_at 85 261 = some (14, 0, 0, 0) := by decide +kernel
theorem i_85_262 : pg_at 85 262 = some (27, 0, 0, 0) := by decide +kernel
theorem i_85_263 : pg_at 85 263 = some (0, 0, 0, 1) := by decide +kernel
theorem i_85_264 : pg_at 85 264 = some (6, 0, 0, 0) := by decide +kernel
theorem i_85_265 : pg_at 85 265 = some (28, 0, 0, 0) := by decide +kernel
theorem i_85_266 : pg_at 85 266 = some (3, 0, 0, 0) := by decide +kernel
theorem i_85_267 : pg_at 85 267 = some (1, 6, 0, 0) := by decide +kernel
theorem i_85_268 : pg_at 85 268 = some (1, 7, 0, 0) := by decide +kernel
theorem i_85_269 : pg_at 85 269 = some (1, 8, 0, 0) := by decide +kernel
theorem i_85_270 : pg_at 85 270 = some (1, 9, 0, 0) := by decide +kernel
theorem i_85_271 : pg_at 85 271 = some (1, 12, 0, 0) := by decide +kernel
theorem i_85_272 : pg_at 85 272 = some (17, 275, 1, 0) := by decide +kernel
theorem i_85_273 : pg_at 85 273 = some (0, 0, 0, 1) := by decide +kernel
theorem i_85_274 : pg_at 85 274 = some (16, 276, 0, 0) := by decide +kernel
theorem i_85_275 : pg_at 85 275 = some (0, 0, 0, 0) := by decide +kernel
theorem i_85_276 : pg_at 85 276 = some (1, 10, 0, 0) := by decide +kernel
theorem i_85_277 : pg_at 85 277 = some (1, 11, 0, 0) := by decide +kernel
theorem i_85_278 : pg_at 85 278 = some (41, 37, 0, 31) := by decide +kernel
theorem i_85_279 : pg_at 85 279 = some (3, 4, 0, 0) := by decide +kernel
theorem i_85_280 : pg_at 85 280 = some (1, 6, 0, 0) := by decide +kernel
theorem i_85_281 : pg_at 85 281 = some (40, 79, 0, 9) := by decide +kernel
theorem i_85_282 : pg_at 85 282 = some (0, 0, 0, 1) := by decide +kernel
theorem i_85_283 : pg_at 85 283 = some (7, 0, 0, 0) := by decide +kernel
theorem i_85_284 : pg_at 85 284 = some (18, 287, 1, 0) := by decide +kernel
theorem i_85_285 : pg_at 85 285 = some (0, 0, 0, 1) := by decide +kernel
theorem i_85_286 : pg_at 85 286 = some (16, 288, 0, 0) := by decide +kernel
theorem i_85_287 : pg_at 85 287 = some (0, 0, 0, 0) := by decide +kernel
theorem i_85_288 : pg_at 85 288 = some (45, 0, 0, 0) := by decide +kernel
theorem mf_85 : pg_na 85 = 6 ∧ pg_ml 85 = 17 ∧ pg_cst 85 = 61 ∧ pg_cl 85 = 99 := by decide +kernel
theorem rt_85 : pg_rt 85 = some .boolean := by decide +kernel
theorem hx_85 : pg_hx 85 = [] := by decide +kernel
theorem i_86_0 : pg_at 86 0 = some (3, 1, 0, 0) := by decide +kernel
theorem i_86_1 : pg_at 86 1 = some (1, 2, 0, 0) := by decide +kernel
theorem i_86_2 : pg_at 86 2 = some (40, 78, 0, 15) := by decide +kernel
theorem i_86_3 : pg_at 86 3 = some (0, 0, 0, 6) := by decide +kernel
theorem i_86_4 : pg_at 86 4 = some (3, 1, 0, 0) := by decide +kernel
theorem i_86_5 : pg_at 86 5 = some (1, 2, 0, 0) := by decide +kernel
theorem i_86_6 : pg_at 86 6 = some (40, 79, 0, 9) := by decide +kernel
theorem i_86_7 : pg_at 86 7 = some (8, 0, 0, 0) := by decide +kernel
theorem i_86_8 : pg_at 86 8 = some (6, 0, 0, 0) := by decide +kernel
theorem i_86_9 : pg_at 86 9 = some (2, 4, 0, 0) := by decide +kernel
theorem i_86_10 : pg_at 86 10 = some (3, 1, 0, 0) := by decide +kernel
theorem i_86_11 : pg_at 86 11 = some (1, 2, 0, 0) := by decide +kernel
theorem i_86_12 : pg_at 86 12 = some (40, 78, 0, 15) := by decide +kernel
theorem i_86_13 : pg_at 86 13 = some (0, 0, 0, 6) := by decide +kernel
theorem i_86_14 : pg_at 86 14 = some (1, 3, 0, 0) := by decide +kernel
theorem i_86_15 : pg_at 86 15 = some (8, 0, 0, 0) := by decide +kernel
theorem i_86_16 : pg_at 86 16 = some (6, 0, 0, 0) := by decide +kernel
theorem i_86_17 : pg_at 86 17 = some (0, 0, 0, 6) := by decide +kernel
theorem i_86_18 : pg_at 86 18 = some (6, 0, 0, 0) := by decide +kernel
theorem i_86_19 : pg_at 86 19 = some (2, 5, 0, 0) := by decide +kernel
theorem i_86_20 : pg_at 86 20 = some (1, 5, 0, 0) := by decide +kernel
theorem i_86_21 : pg_at 86 21 = some (1, 4, 0, 0) := by decide +kernel
theorem i_86_22 : pg_at 86 22 = some (18, 33, 3, 0) := by decide +kernel
theorem i_86_23 : pg_at 86 23 = some (3, 0, 0, 0) := by decide +kernel
theorem i_86_24 : pg_at 86 24 = some (1, 5, 0, 0) := by decide +kernel
theorem i_86_25 : pg_at 86 25 = some (0, 0, 0, 6) := by decide +kernel
theorem i_86_26 : pg_at 86 26 = some (7, 0, 0, 0) := by decide +kernel
theorem i_86_27 : pg_at 86 27 = some (3, 0, 0, 0) := by decide +kernel
theorem i_86_28 : pg_at 86 28 = some (1, 5, 0, 0) := by decide +kernel
theorem i_86_29 : pg_at 86 29 = some (27, 0, 0, 0) := by decide +kernel
theorem i_86_30 : pg_at 86 30 = some (28, 0, 0, 0) := by decide +kernel
theorem i_86_31 : pg_at 86 31 = some (5, 5, 0, 1) := by decide +kernel
theorem i_86_32 : pg_at 86 32 = some (16, 20, 0, 0) := by decide +kernel
theorem i_86_33 : pg_at 86 33 = some (3, 1, 0, 0) := by decide +kernel
theorem i_86_34 : pg_at 86 34 = some (0, 0, 0, 1) := by decide +kernel
theorem i_86_35 : pg_at 86 35 = some (1, 2, 0, 0) := by decide +kernel
theorem i_86_36 : pg_at 86 36 = some (0, 0, 0, 3) := by decide +kernel
theorem i_86_37 : pg_at 86 37 = some (10, 0, 0, 0) := by decide +kernel
theorem i_86_38 : pg_at 86 38 = some (6, 0, 0, 0) := by decide +kernel
theorem i_86_39 : pg_at 86 39 = some (14, 0, 0, 0) := by decide +kernel
theorem i_86_40 : pg_at 86 40 = some (27, 0, 0, 0) := by decide +kernel
theorem i_86_41 : pg_at 86 41 = some (0, 0, 0, 1) := by decide +kernel
theorem i_86_42 : pg_at 86 42 = some (7, 0, 0, 0) := by decide +kernel
theorem i_86_43 : pg_at 86 43 = some (28, 0, 0, 0) := by decide +kernel
theorem i_86_44 : pg_at 86 44 = some (47, 0, 0, 0) := by decide +kernel
theorem mf_86 : pg_na 86 = 4 ∧ pg_ml 86 = 6 ∧ pg_cst 86 = 0 ∧ pg_cl 86 = 99 := by decide +kernel
theorem hx_86 : pg_hx 86 = [] := by decide +kernel
theorem i_87_0 : pg_at 87 0 = some (0, 0, 0, 0) := by decide +kernel
theorem i_87_1 : pg_at 87 1 = some (2, 3, 0, 0) := by decide +kernel
theorem i_87_2 : pg_at 87 2 = some (0, 0, 0, 0) := by decide +kernel
theorem i_87_3 : pg_at 87 3 = some (2, 4, 0, 0) := by decide +kernel
theorem i_87_4 : pg_at 87 4 = some (1, 4, 0, 0) := by decide +kernel
theorem i_87_5 : pg_at 87 5 = some (3, 2, 0, 0) := by decide +kernel
theorem i_87_6 : pg_at 87 6 = some (3, 2, 0, 0) := by decide +kernel
theorem i_87_7 : pg_at 87 7 = some (0, 0, 0, 0) := by decide +kernel
theorem i_87_8 : pg_at 87 8 = some (27, 0, 0, 0) := by decide +kernel
theorem i_87_9 : pg_at 87 9 = some (40, 79, 0, 9) := by decide +kernel
theorem i_87_10 : pg_at 87 10 = some (18, 63, 3, 0) := by decide +kernel
theorem i_87_11 : pg_at 87 11 = some (3, 2, 0, 0) := by decide +kernel
theorem i_87_12 : pg_at 87 12 = some (3, 2, 0, 0) := by decide +kernel
theorem i_87_13 : pg_at 87 13 = some (0, 0, 0, 0) := by decide +kernel
theorem i_87_14 : pg_at 87 14 = some (27, 0, 0, 0) := by decide +kernel
theorem i_87_15 : pg_at 87 15 = some (40, 78, 0, 15) := by decide +kernel
theorem i_87_16 : pg_at 87 16 = some (0, 0, 0, 6) := by decide +kernel
theorem i_87_17 : pg_at 87 17 = some (1, 4, 0, 0) := by decide +kernel
theorem i_87_18 : pg_at 87 18 = some (8, 0, 0, 0) := by decide +kernel
theorem i_87_19 : pg_at 87 19 = some (6, 0, 0, 0) := by decide +kernel
theorem i_87_20 : pg_at 87 20 = some (2, 5, 0, 0) := by decide +kernel
theorem i_87_21 : pg_at 87 21 = some (1, 3, 0, 0) := by decide +kernel
theorem i_87_22 : pg_at 87 22 = some (3, 0, 0, 0) := by decide +kernel
theorem i_87_23 : pg_at 87 23 = some (3, 1, 0, 0) := by decide +kernel
theorem i_87_24 : pg_at 87 24 = some (1, 5, 0, 0) := by decide +kernel
theorem i_87_25 : pg_at 87 25 = some (27, 0, 0, 0) := by decide +kernel
theorem i_87_26 : pg_at 87 26 = some (3, 2, 0, 0) := by decide +kernel
theorem i_87_27 : pg_at 87 27 = some (0, 0, 0, 0) := by decide +kernel
theorem i_87_28 : pg_at 87 28 = some (27, 0, 0, 0) := by decide +kernel
theorem i_87_29 : pg_at 87 29 = some (40, 80, 0, 23) := by decide +kernel
theorem i_87_30 : pg_at 87 30 = some (17, 37, 0, 0) := by decide +kernel
theorem i_87_31 : pg_at 87 31 = some (0, 0, 0, 1) := by decide +kernel
theorem i_87_32 : pg_at 87 32 = some (0, 0, 0, 2) := by decide +kernel
theorem i_87_33 : pg_at 87 33 = some (1, 4, 0, 0) := by decide +kernel
theorem i_87_34 : pg_at 87 34 = some (8, 0, 0, 0) := by decide +kernel
theorem i_87_35 : pg_at 87 35 = some (56, 0, 0, 0) := by decide +kernel
theorem i_87_36 : pg_at 87 36 = some (16, 38, 0, 0) := by decide +kernel
theorem i_87_37 : pg_at 87 37 = some (0, 0, 0, 0) := by decide +kernel
theorem i_87_38 : pg_at 87 38 = some (54, 0, 0, 0) := by decide +kernel
theorem i_87_39 : pg_at 87 39 = some (2, 3, 0, 0) := by decide +kernel
theorem i_87_40 : pg_at 87 40 = some (1, 3, 0, 0) := by decide +kernel
theorem i_87_41 : pg_at 87 41 = some (3, 0, 0, 0) := by decide +kernel
theorem i_87_42 : pg_at 87 42 = some (3, 1, 0, 0) := by decide +kernel
theorem i_87_43 : pg_at 87 43 = some (1, 5, 0, 0) := by decide +kernel
theorem i_87_44 : pg_at 87 44 = some (0, 0, 0, 1) := by decide +kernel
theorem i_87_45 : pg_at 87 45 = some (6, 0, 0, 0) := by decide +kernel
theorem i_87_46 : pg_at 87 46 = some (27, 0, 0, 0) := by decide +kernel
theorem i_87_47 : pg_at 87 47 = some (3, 2, 0, 0) := by decide +kernel
theorem i_87_48 : pg_at 87 48 = some (0, 0, 0, 0) := by decide +kernel
theorem i_87_49 : pg_at 87 49 = some (27, 0, 0, 0) := by decide +kernel
theorem i_87_50 : pg_at 87 50 = some (40, 80, 0, 23) := by decide +kernel
theorem i_87_51 : pg_at 87 51 = some (17, 58, 0, 0) := by decide +kernel
theorem i_87_52 : pg_at 87 52 = some (0, 0, 0, 2) := by decide +kernel
theorem i_87_53 : pg_at 87 53 = some (0, 0, 0, 2) := by decide +kernel
theorem i_87_54 : pg_at 87 54 = some (1, 4, 0, 0) := by decide +kernel
theorem i_87_55 : pg_at 87 55 = some (8, 0, 0, 0) := by decide +kernel
theorem i_87_56 : pg_at 87 56 = some (56, 0, 0, 0) := by decide +kernel
theorem i_87_57 : pg_at 87 57 = some (16, 59, 0, 0) := by decide +kernel
theorem i_87_58 : pg_at 87 58 = some (0, 0, 0, 0) := by decide +kernel
theorem i_87_59 : pg_at 87 59 = some (54, 0, 0, 0) := by decide +kernel
theorem i_87_60 : pg_at 87 60 = some (2, 3, 0, 0) := by decide +kernel
theorem i_87_61 : pg_at 87 61 = some (5, 4, 0, 1) := by decide +kernel
theorem i_87_62 : pg_at 87 62 = some (16, 4, 0, 0) := by decide +kernel
theorem i_87_63 : pg_at 87 63 = some (1, 3, 0, 0) := by decide +kernel
theorem i_87_64 : pg_at 87 64 = some (45, 0, 0, 0) := by decide +kernel
theorem mf_87 : pg_na 87 = 3 ∧ pg_ml 87 = 6 ∧ pg_cst 87 = 0 ∧ pg_cl 87 = 99 := by decide +kernel
theorem rt_87 : pg_rt 87 ≠ some .boolean := by decide +kernel
theorem hx_87 : pg_hx 87 = [] := by decide +kernel
theorem i_88_0 : pg_at 88 0 = some (0, 0, 0, 0) := by decide +kernel
theorem i_88_1 : pg_at 88 1 = some (2, 1, 0, 0) := by decide +kernel
theorem i_88_2 : pg_at 88 2 = some (0, 0, 0, 0) := by decide +kernel
theorem i_88_3 : pg_at 88 3 = some (2, 2, 0, 0) := by decide +kernel
theorem i_88_4 : pg_at 88 4 = some (1, 2, 0, 0) := by decide +kernel
theorem i_88_5 : pg_at 88 5 = some (0, 0, 0, 6) := by decide +kernel
theorem i_88_6 : pg_at 88 6 = some (18, 17, 3, 0) := by decide +kernel
theorem i_88_7 : pg_at 88 7 = some (1, 1, 0, 0) := by decide +kernel
theorem i_88_8 : pg_at 88 8 = some (1, 0, 0, 0) := by decide +kernel
theorem i_88_9 : pg_at 88 9 = some (1, 2, 0, 0) := by decide +kernel
theorem i_88_10 : pg_at 88 10 = some (57, 0, 0, 0) := by decide +kernel
theorem i_88_11 : pg_at 88 11 = some (0, 0, 0, 1) := by decide +kernel
theorem i_88_12 : pg_at 88 12 = some (12, 0, 0, 0) := by decide +kernel
theorem i_88_13 : pg_at 88 13 = some (6, 0, 0, 0) := by decide +kernel
theorem i_88_14 : pg_at 88 14 = some (2, 1, 0, 0) := by decide +kernel
theorem i_88_15 : pg_at 88 15 = some (5, 2, 0, 1) := by decide +kernel
theorem i_88_16 : pg_at 88 16 = some (16, 4, 0, 0) := by decide +kernel
theorem i_88_17 : pg_at 88 17 = some (1, 1, 0, 0) := by decide +kernel
theorem i_88_18 : pg_at 88 18 = some (45, 0, 0, 0) := by decide +kernel
theorem mf_88 : pg_na 88 = 1 ∧ pg_ml 88 = 3 ∧ pg_cst 88 = 0 ∧ pg_cl 88 = 99 := by decide +kernel
theorem rt_88 : pg_rt 88 ≠ some .boolean := by decide +kernel
theorem hx_88 : pg_hx 88 = [] := by decide +kernel
theorem i_89_0 : pg_at 89 0 = some (0, 0, 0, 0) := by decide +kernel
theorem i_89_1 : pg_at 89 1 = some (2, 7, 0, 0) := by decide +kernel
theorem i_89_2 : pg_at 89 2 = some (0, 0, 0, 0) := by decide +kernel
theorem i_89_3 : pg_at 89 3 = some (2, 8, 0, 0) := by decide +kernel
theorem i_89_4 : pg_at 89 4 = some (0, 0, 0, 0) := by decide +kernel
theorem i_89_5 : pg_at 89 5 = some (2, 9, 0, 0) := by decide +kernel
theorem i_89_6 : pg_at 89 6 = some (1, 9, 0, 0) := by decide +kernel
theorem i_89_7 : pg_at 89 7 = some (0, 0, 0, 6) := by decide +kernel
theorem i_89_8 : pg_at 89 8 = some (18, 75, 3, 0) := by decide +kernel
theorem i_89_9 : pg_at 89 9 = some (1, 6, 0, 0) := by decide +kernel
theorem i_89_10 : pg_at 89 10 = some (0, 0, 0, 3) := by decide +kernel
theorem i_89_11 : pg_at 89 11 = some (1, 9, 0, 0) := by decide +kernel
theorem i_89_12 : pg_at 89 12 = some (8, 0, 0, 0) := by decide +kernel
theorem i_89_13 : pg_at 89 13 = some (57, 0, 0, 0) := by decide +kernel
theorem i_89_14 : pg_at 89 14 = some (0, 0, 0, 7) := by decide +kernel
theorem i_89_15 : pg_at 89 15 = some (12, 0, 0, 0) := by decide +kernel
theorem i_89_16 : pg_at 89 16 = some (2, 10, 0, 0) := by decide +kernel
theorem i_89_17 : pg_at 89 17 = some (1, 5, 0, 0) := by decide +kernel
theorem i_89_18 : pg_at 89 18 = some (1, 9, 0, 0) := by decide +kernel
theorem i_89_19 : pg_at 89 19 = some (57, 0, 0, 0) := by decide +kernel
theorem i_89_20 : pg_at 89 20 = some (0, 0, 0, 1) := by decide +kernel
theorem i_89_21 : pg_at 89 21 = some (12, 0, 0, 0) := by decide +kernel
theorem i_89_22 : pg_at 89 22 = some (0, 0, 0, 1) := by decide +kernel
theorem i_89_23 : pg_at 89 23 = some (18, 73, 1, 0) := by decide +kernel
theorem i_89_24 : pg_at 89 24 = some (1, 10, 0, 0) := by decide +kernel
theorem i_89_25 : pg_at 89 25 = some (0, 0, 0, 7) := by decide +kernel
theorem i_89_26 : pg_at 89 26 = some (18, 73, 3, 0) := by decide +kernel
theorem i_89_27 : pg_at 89 27 = some (3, 0, 0, 0) := by decide +kernel
theorem i_89_28 : pg_at 89 28 = some (1, 10, 0, 0) := by decide +kernel
theorem i_89_29 : pg_at 89 29 = some (3, 4, 0, 0) := by decide +kernel
theorem i_89_30 : pg_at 89 30 = some (0, 0, 0, 0) := by decide +kernel
theorem i_89_31 : pg_at 89 31 = some (27, 0, 0, 0) := by decide +kernel
theorem i_89_32 : pg_at 89 32 = some (40, 80, 0, 23) := by decide +kernel
theorem i_89_33 : pg_at 89 33 = some (17, 49, 1, 0) := by decide +kernel
theorem i_89_34 : pg_at 89 34 = some (3, 3, 0, 0) := by decide +kernel
theorem i_89_35 : pg_at 89 35 = some (3, 4, 0, 0) := by decide +kernel
theorem i_89_36 : pg_at 89 36 = some (3, 4, 0, 0) := by decide +kernel
theorem i_89_37 : pg_at 89 37 = some (0, 0, 0, 0) := by decide +kernel
theorem i_89_38 : pg_at 89 38 = some (27, 0, 0, 0) := by decide +kernel
theorem i_89_39 : pg_at 89 39 = some (1, 10, 0, 0) := by decide +kernel
theorem i_89_40 : pg_at 89 40 = some (40, 83, 0, 19) := by decide +kernel
theorem i_89_41 : pg_at 89 41 = some (17, 49, 1, 0) := by decide +kernel
theorem i_89_42 : pg_at 89 42 = some (1, 8, 0, 0) := by decide +kernel
theorem i_89_43 : pg_at 89 43 = some (1, 10, 0, 0) := by decide +kernel
theorem i_89_44 : pg_at 89 44 = some (57, 0, 0, 0) := by decide +kernel
theorem i_89_45 : pg_at 89 45 = some (0, 0, 0, 1) := by decide +kernel
theorem i_89_46 : pg_at 89 46 = some (12, 0, 0, 0) := by decide +kernel
theorem i_89_47 : pg_at 89 47 = some (0, 0, 0, 1) := by decide +kernel
theorem i_89_48 : pg_at 89 48 = some (18, 51, 1, 0) := by decide +kernel
theorem i_89_49 : pg_at 89 49 = some (0, 0, 0, (-1)) := by decide +kernel
theorem i_89_50 : pg_at 89 50 = some (45, 0, 0, 0) := by decide +kernel
theorem i_89_51 : pg_at 89 51 = some (1, 8, 0, 0) := by decide +kernel
theorem i_89_52 : pg_at 89 52 = some (0, 0, 0, 1) := by decide +kernel
theorem i_89_53 : pg_at 89 53 = some (1, 10, 0, 0) := by decide +kernel
theorem i_89_54 : pg_at 89 54 = some (56, 0, 0, 0) := by decide +kernel
theorem i_89_55 : pg_at 89 55 = some (54, 0, 0, 0) := by decide +kernel
theorem i_89_56 : pg_at 89 56 = some (2, 8, 0, 0) := by decide +kernel
theorem i_89_57 : pg_at 89 57 = some (1, 7, 0, 0) := by decide +kernel
theorem i_89_58 : pg_at 89 58 = some (3, 0, 0, 0) := by decide +kernel
theorem i_89_59 : pg_at 89 59 = some (3, 1, 0, 0) := by decide +kernel
theorem i_89_60 : pg_at 89 60 = some (3, 4, 0, 0) := by decide +kernel
theorem i_89_61 : pg_at 89 61 = some (0, 0, 0, 4) := by decide +kernel
theorem i_89_62 : pg_at 89 62 = some (3, 4, 0, 0) := by decide +kernel
theorem i_89_63 : pg_at 89 63 = some (0, 0, 0, 0) := by decide +kernel
theorem i_89_64 : pg_at 89 64 = some (27, 0, 0, 0) := by decide +kernel
theorem i_89_65 : pg_at 89 65 = some (0, 0, 0, 3) := by decide +kernel
theorem i_89_66 : pg_at 89 66 = some (10, 0, 0, 0) := by decide +kernel
theorem i_89_67 : pg_at 89 67 = some (6, 0, 0, 0) := by decide +kernel
theorem i_89_68 : pg_at 89 68 = some (27, 0, 0, 0) := by decide +kernel
theorem i_89_69 : pg_at 89 69 = some (1, 10, 0, 0) := by decide +kernel
theorem i_89_70 : pg_at 89 70 = some (40, 81, 0, 37) := by decide +kernel
theorem i_89_71 : pg_at 89 71 = some (6, 0, 0, 0) := by decide +kernel
theorem i_89_72 : pg_at 89 72 = some (2, 7, 0, 0) := by decide +kernel
theorem i_89_73 : pg_at 89 73 = some (5, 9, 0, 1) := by decide +kernel
theorem i_89_74 : pg_at 89 74 = some (16, 6, 0, 0) := by decide +kernel
theorem i_89_75 : pg_at 89 75 = some (0, 0, 0, 0) := by decide +kernel
theorem i_89_76 : pg_at 89 76 = some (2, 9, 0, 0) := by decide +kernel
theorem i_89_77 : pg_at 89 77 = some (1, 9, 0, 0) := by decide +kernel
theorem i_89_78 : pg_at 89 78 = some (0, 0, 0, 3) := by decide +kernel
theorem i_89_79 : pg_at 89 79 = some (18, 226, 3, 0) := by decide +kernel
theorem i_89_80 : pg_at 89 80 = some (3, 4, 0, 0) := by decide +kernel
theorem i_89_81 : pg_at 89 81 = some (3, 4, 0, 0) := by decide +kernel
theorem i_89_82 : pg_at 89 82 = some (0, 0, 0, 0) := by decide +kernel
theorem i_89_83 : pg_at 89 83 = some (27, 0, 0, 0) := by decide +kernel
theorem i_89_84 : pg_at 89 84 = some (40, 78, 0, 15) := by decide +kernel
theorem i_89_85 : pg_at 89 85 = some (0, 0, 0, 6) := by decide +kernel
theorem i_89_86 : pg_at 89 86 = some (1, 9, 0, 0) := by decide +kernel
theorem i_89_87 : pg_at 89 87 = some (8, 0, 0, 0) := by decide +kernel
theorem i_89_88 : pg_at 89 88 = some (6, 0, 0, 0) := by decide +kernel
theorem i_89_89 : pg_at 89 89 = some (2, 10, 0, 0) := by decide +kernel
theorem i_89_90 : pg_at 89 90 = some (1, 5, 0, 0) := by decide +kernel
theorem i_89_91 : pg_at 89 91 = some (0, 0, 0, 2) := by decide +kernel
theorem i_89_92 : pg_at 89 92 = some (1, 9, 0, 0) := by decide +kernel
theorem i_89_93 : pg_at 89 93 = some (8, 0, 0, 0) := by decide +kernel
theorem i_89_94 : pg_at 89 94 = some (57, 0, 0, 0) := by decide +kernel
theorem i_89_95 : pg_at 89 95 = some (0, 0, 0, 1) := by decide +kernel
theorem i_89_96 : pg_at 89 96 = some (12, 0, 0, 0) := by decide +kernel
theorem i_89_97 : pg_at 89 97 = some (0, 0, 0, 1) := by decide +kernel
theorem i_89_98 : pg_at 89 98 = some (18, 107, 1, 0) := by decide +kernel
theorem i_89_99 : pg_at 89 99 = some (1, 6, 0, 0) := by decide +kernel
theorem i_89_100 : pg_at 89 100 = some (0, 0, 0, 6) := by decide +kernel
theorem i_89_101 : pg_at 89 101 = some (1, 9, 0, 0) := by decide +kernel
theorem i_89_102 : pg_at 89 102 = some (8, 0, 0, 0) := by decide +kernel
theorem i_89_103 : pg_at 89 103 = some (57, 0, 0, 0) := by decide +kernel
theorem i_89_104 : pg_at 89 104 = some (0, 0, 0, 7) := by decide +kernel
theorem i_89_105 : pg_at 89 105 = some (12, 0, 0, 0) := by decide +kernel
theorem i_89_106 : pg_at 89 106 = some (16, 110, 0, 0) := by decide +kernel
theorem i_89_107 : pg_at 89 107 = some (3, 3, 0, 0) := by decide +kernel
theorem i_89_108 : pg_at 89 108 = some (1, 10, 0, 0) := by decide +kernel
theorem i_89_109 : pg_at 89 109 = some (27, 0, 0, 0) := by decide +kernel
theorem i_89_110 : pg_at 89 110 = some (2, 11, 0, 0) := by decide +kernel
theorem i_89_111 : pg_at 89 111 = some (1, 5, 0, 0) := by decide +kernel
theorem i_89_112 : pg_at 89 112 = some (0, 0, 0, 2) := by decide +kernel
theorem i_89_113 : pg_at 89 113 = some (1, 9, 0, 0) := by decide +kernel
theorem i_89_114 : pg_at 89 114 = some (8, 0, 0, 0) := by decide +kernel
theorem i_89_115 : pg_at 89 115 = some (0, 0, 0, 1) := by decide +kernel
theorem i_89_116 : pg_at 89 116 = some (6, 0, 0, 0) := by decide +kernel
theorem i_89_117 : pg_at 89 117 = some (57, 0, 0, 0) := by decide +kernel
theorem i_89_118 : pg_at 89 118 = some (0, 0, 0, 1) := by decide +kernel
theorem i_89_119 : pg_at 89 119 = some (12, 0, 0, 0) := by decide +kernel
theorem i_89_120 : pg_at 89 120 = some (0, 0, 0, 1) := by decide +kernel
theorem i_89_121 : pg_at 89 121 = some (18, 132, 1, 0) := by decide +kernel
theorem i_89_122 : pg_at 89 122 = some (1, 6, 0, 0) := by decide +kernel
theorem i_89_123 : pg_at 89 123 = some (0, 0, 0, 6) := by decide +kernel
theorem i_89_124 : pg_at 89 124 = some (1, 9, 0, 0) := by decide +kernel
theorem i_89_125 : pg_at 89 125 = some (8, 0, 0, 0) := by decide +kernel
theorem i_89_126 : pg_at 89 126 = some (0, 0, 0, 3) := by decide +kernel
theorem i_89_127 : pg_at 89 127 = some (6, 0, 0, 0) := by decide +kernel
theorem i_89_128 : pg_at 89 128 = some (57, 0, 0, 0) := by decide +kernel
theorem i_89_129 : pg_at 89 129 = some (0, 0, 0, 7) := by decide +kernel
theorem i_89_130 : pg_at 89 130 = some (12, 0, 0, 0) := by decide +kernel
theorem i_89_131 : pg_at 89 131 = some (16, 137, 0, 0) := by decide +kernel
theorem i_89_132 : pg_at 89 132 = some (3, 3, 0, 0) := by decide +kernel
theorem i_89_133 : pg_at 89 133 = some (1, 10, 0, 0) := by decide +kernel
theorem i_89_134 : pg_at 89 134 = some (0, 0, 0, 1) := by decide +kernel
theorem i_89_135 : pg_at 89 135 = some (6, 0, 0, 0) := by decide +kernel
theorem i_89_136 : pg_at 89 136 = some (27, 0, 0, 0) := by decide +kernel
theorem i_89_137 : pg_at 89 137 = some (2, 12, 0, 0) := by decide +kernel
theorem i_89_138 : pg_at 89 138 = some (1, 9, 0, 0) := by decide +kernel
theorem i_89_139 : pg_at 89 139 = some (3, 4, 0, 0) := by decide +kernel
theorem i_89_140 : pg_at 89 140 = some (3, 4, 0, 0) := by decide +kernel
theorem i_89_141 : pg_at 89 141 = some (0, 0, 0, 0) := by decide +kernel
theorem i_89_142 : pg_at 89 142 = some (27, 0, 0, 0) := by decide +kernel
theorem i_89_143 : pg_at 89 143 = some (40, 79, 0, 9) := by decide +kernel
theorem i_89_144 : pg_at 89 144 = some (18, 155, 3, 0) := by decide +kernel
theorem i_89_145 : pg_at 89 145 = some (1, 5, 0, 0) := by decide +kernel
theorem i_89_146 : pg_at 89 146 = some (0, 0, 0, 2) := by decide +kernel
theorem i_89_147 : pg_at 89 147 = some (1, 9, 0, 0) := by decide +kernel
theorem i_89_148 : pg_at 89 148 = some (8, 0, 0, 0) := by decide +kernel
theorem i_89_149 : pg_at 89 149 = some (57, 0, 0, 0) := by decide +kernel
theorem i_89_150 : pg_at 89 150 = some (0, 0, 0, 3) := by decide +kernel
theorem i_89_151 : pg_at 89 151 = some (12, 0, 0, 0) := by decide +kernel
theorem i_89_152 : pg_at 89 152 = some (17, 155, 5, 0) := by decide +kernel
theorem i_89_153 : pg_at 89 153 = some (0, 0, 0, 1) := by decide +kernel
theorem i_89_154 : pg_at 89 154 = some (16, 156, 0, 0) := by decide +kernel
theorem i_89_155 : pg_at 89 155 = some (0, 0, 0, 0) := by decide +kernel
theorem i_89_156 : pg_at 89 156 = some (2, 13, 0, 0) := by decide +kernel
theorem i_89_157 : pg_at 89 157 = some (1, 5, 0, 0) := by decide +kernel
theorem i_89_158 : pg_at 89 158 = some (0, 0, 0, 2) := by decide +kernel
theorem i_89_159 : pg_at 89 159 = some (1, 9, 0, 0) := by decide +kernel
theorem i_89_160 : pg_at 89 160 = some (8, 0, 0, 0) := by decide +kernel
theorem i_89_161 : pg_at 89 161 = some (57, 0, 0, 0) := by decide +kernel
theorem i_89_162 : pg_at 89 162 = some (0, 0, 0, 3) := by decide +kernel
theorem i_89_163 : pg_at 89 163 = some (12, 0, 0, 0) := by decide +kernel
theorem i_89_164 : pg_at 89 164 = some (0, 0, 0, 3) := by decide +kernel
theorem i_89_165 : pg_at 89 165 = some (18, 168, 1, 0) := by decide +kernel
theorem i_89_166 : pg_at 89 166 = some (0, 0, 0, 1) := by decide +kernel
theorem i_89_167 : pg_at 89 167 = some (16, 169, 0, 0) := by decide +kernel
theorem i_89_168 : pg_at 89 168 = some (0, 0, 0, 0) := by decide +kernel
theorem i_89_169 : pg_at 89 169 = some (2, 14, 0, 0) := by decide +kernel
theorem i_89_170 : pg_at 89 170 = some (1, 13, 0, 0) := by decide +kernel
theorem i_89_171 : pg_at 89 171 = some (17, 189, 0, 0) := by decide +kernel
theorem i_89_172 : pg_at 89 172 = some (1, 14, 0, 0) := by decide +kernel
theorem i_89_173 : pg_at 89 173 = some (17, 189, 0, 0) := by decide +kernel
theorem i_89_174 : pg_at 89 174 = some (1, 11, 0, 0) := by decide +kernel
theorem i_89_175 : pg_at 89 175 = some (0, 0, 0, 7) := by decide +kernel
theorem i_89_176 : pg_at 89 176 = some (18, 179, 1, 0) := by decide +kernel
theorem i_89_177 : pg_at 89 177 = some (0, 0, 0, 1) := by decide +kernel
theorem i_89_178 : pg_at 89 178 = some (16, 180, 0, 0) := by decide +kernel
theorem i_89_179 : pg_at 89 179 = some (0, 0, 0, 0) := by decide +kernel
theorem i_89_180 : pg_at 89 180 = some (1, 12, 0, 0) := by decide +kernel
theorem i_89_181 : pg_at 89 181 = some (0, 0, 0, 7) := by decide +kernel
theorem i_89_182 : pg_at 89 182 = some (18, 185, 1, 0) := by decide +kernel
theorem i_89_183 : pg_at 89 183 = some (0, 0, 0, 1) := by decide +kernel
theorem i_89_184 : pg_at 89 184 = some (16, 186, 0, 0) := by decide +kernel
theorem i_89_185 : pg_at 89 185 = some (0, 0, 0, 0) := by decide +kernel
theorem i_89_186 : pg_at 89 186 = some (18, 189, 0, 0) := by decide +kernel
theorem i_89_187 : pg_at 89 187 = some (0, 0, 0, (-1)) := by decide +kernel
theorem i_89_188 : pg_at 89 188 = some (45, 0, 0, 0) := by decide +kernel
theorem i_89_189 : pg_at 89 189 = some (1, 13, 0, 0) := by decide +kernel
theorem i_89_190 : pg_at 89 190 = some (17, 224, 0, 0) := by decide +kernel
theorem i_89_191 : pg_at 89 191 = some (1, 11, 0, 0) := by decide +kernel
theorem i_89_192 : pg_at 89 192 = some (0, 0, 0, 7) := by decide +kernel
theorem i_89_193 : pg_at 89 193 = some (18, 224, 3, 0) := by decide +kernel
theorem i_89_194 : pg_at 89 194 = some (1, 12, 0, 0) := by decide +kernel
theorem i_89_195 : pg_at 89 195 = some (0, 0, 0, 7) := by decide +kernel
theorem i_89_196 : pg_at 89 196 = some (18, 224, 3, 0) := by decide +kernel
theorem i_89_197 : pg_at 89 197 = some (3, 0, 0, 0) := by decide +kernel
theorem i_89_198 : pg_at 89 198 = some (3, 2, 0, 0) := by decide +kernel
theorem i_89_199 : pg_at 89 199 = some (3, 3, 0, 0) := by decide +kernel
theorem i_89_200 : pg_at 89 200 = some (1, 10, 0, 0) := by decide +kernel
theorem i_89_201 : pg_at 89 201 = some (0, 0, 0, 2) := by decide +kernel
theorem i_89_202 : pg_at 89 202 = some (6, 0, 0, 0) := by decide +kernel
theorem i_89_203 : pg_at 89 203 = some (27, 0, 0, 0) := by decide +kernel
theorem i_89_204 : pg_at 89 204 = some (17, 207, 1, 0) := by decide +kernel
theorem i_89_205 : pg_at 89 205 = some (1, 12, 0, 0) := by decide +kernel
theorem i_89_206 : pg_at 89 206 = some (16, 208, 0, 0) := by decide +kernel
theorem i_89_207 : pg_at 89 207 = some (1, 11, 0, 0) := by decide +kernel
theorem i_89_208 : pg_at 89 208 = some (3, 3, 0, 0) := by decide +kernel
theorem i_89_209 : pg_at 89 209 = some (1, 10, 0, 0) := by decide +kernel
theorem i_89_210 : pg_at 89 210 = some (0, 0, 0, 2) := by decide +kernel
theorem i_89_211 : pg_at 89 211 = some (6, 0, 0, 0) := by decide +kernel
theorem i_89_212 : pg_at 89 212 = some (27, 0, 0, 0) := by decide +kernel
theorem i_89_213 : pg_at 89 213 = some (17, 216, 1, 0) := by decide +kernel
theorem i_89_214 : pg_at 89 214 = some (1, 11, 0, 0) := by decide +kernel
theorem i_89_215 : pg_at 89 215 = some (16, 217, 0, 0) := by decide +kernel
theorem i_89_216 : pg_at 89 216 = some (1, 12, 0, 0) := by decide +kernel
theorem i_89_217 : pg_at 89 217 = some (3, 4, 0, 0) := by decide +kernel
theorem i_89_218 : pg_at 89 218 = some (0, 0, 0, 0) := by decide +kernel
theorem i_89_219 : pg_at 89 219 = some (27, 0, 0, 0) := by decide +kernel
theorem i_89_220 : pg_at 89 220 = some (40, 82, 0, 27) := by decide +kernel
theorem i_89_221 : pg_at 89 221 = some (17, 224, 0, 0) := by decide +kernel
theorem i_89_222 : pg_at 89 222 = some (0, 0, 0, (-1)) := by decide +kernel
theorem i_89_223 : pg_at 89 223 = some (45, 0, 0, 0) := by decide +kernel
theorem i_89_224 : pg_at 89 224 = some (5, 9, 0, 1) := by decide +kernel
theorem i_89_225 : pg_at 89 225 = some (16, 77, 0, 0) := by decide +kernel
theorem i_89_226 : pg_at 89 226 = some (1, 7, 0, 0) := by decide +kernel
theorem i_89_227 : pg_at 89 227 = some (45, 0, 0, 0) := by decide +kernel
theorem mf_89 : pg_na 89 = 7 ∧ pg_ml 89 = 15 ∧ pg_cst 89 = 0 ∧ pg_cl 89 = 99 := by decide +kernel
theorem rt_89 : pg_rt 89 ≠ some .boolean := by decide +kernel
theorem hx_89 : pg_hx 89 = [] := by decide +kernel
theorem i_90_0 : pg_at 90 0 = some (0, 0, 0, 0) := by decide +kernel
theorem i_90_1 : pg_at 90 1 = some (2, 2, 0, 0) := by decide +kernel
theorem i_90_2 : pg_at 90 2 = some (1, 2, 0, 0) := by decide +kernel
theorem i_90_3 : pg_at 90 3 = some (0, 0, 0, 6) := by decide +kernel
theorem i_90_4 : pg_at 90 4 = some (18, 31, 3, 0) := by decide +kernel
theorem i_90_5 : pg_at 90 5 = some (1, 0, 0, 0) := by decide +kernel
theorem i_90_6 : pg_at 90 6 = some (0, 0, 0, 3) := by decide +kernel
theorem i_90_7 : pg_at 90 7 = some (1, 2, 0, 0) := by decide +kernel
theorem i_90_8 : pg_at 90 8 = some (8, 0, 0, 0) := by decide +kernel
theorem i_90_9 : pg_at 90 9 = some (57, 0, 0, 0) := by decide +kernel
theorem i_90_10 : pg_at 90 10 = some (0, 0, 0, 7) := by decide +kernel
theorem i_90_11 : pg_at 90 11 = some (12, 0, 0, 0) := by decide +kernel
theorem i_90_12 : pg_at 90 12 = some (1, 1, 0, 0) := by decide +kernel
theorem i_90_13 : pg_at 90 13 = some (0, 0, 0, 3) := by decide +kernel
theorem i_90_14 : pg_at 90 14 = some (1, 2, 0, 0) := by decide +kernel
theorem i_90_15 : pg_at 90 15 = some (8, 0, 0, 0) := by decide +kernel
theorem i_90_16 : pg_at 90 16 = some (57, 0, 0, 0) := by decide +kernel
theorem i_90_17 : pg_at 90 17 = some (0, 0, 0, 7) := by decide +kernel
theorem i_90_18 : pg_at 90 18 = some (12, 0, 0, 0) := by decide +kernel
theorem i_90_19 : pg_at 90 19 = some (7, 0, 0, 0) := by decide +kernel
theorem i_90_20 : pg_at 90 20 = some (2, 3, 0, 0) := by decide +kernel
theorem i_90_21 : pg_at 90 21 = some (1, 3, 0, 0) := by decide +kernel
theorem i_90_22 : pg_at 90 22 = some (17, 29, 0, 0) := by decide +kernel
theorem i_90_23 : pg_at 90 23 = some (1, 3, 0, 0) := by decide +kernel
theorem i_90_24 : pg_at 90 24 = some (17, 27, 3, 0) := by decide +kernel
theorem i_90_25 : pg_at 90 25 = some (0, 0, 0, 1) := by decide +kernel
theorem i_90_26 : pg_at 90 26 = some (16, 28, 0, 0) := by decide +kernel
theorem i_90_27 : pg_at 90 27 = some (0, 0, 0, 0) := by decide +kernel
theorem i_90_28 : pg_at 90 28 = some (45, 0, 0, 0) := by decide +kernel
theorem i_90_29 : pg_at 90 29 = some (5, 2, 0, 1) := by decide +kernel
theorem i_90_30 : pg_at 90 30 = some (16, 2, 0, 0) := by decide +kernel
theorem i_90_31 : pg_at 90 31 = some (0, 0, 0, 0) := by decide +kernel
theorem i_90_32 : pg_at 90 32 = some (45, 0, 0, 0) := by decide +kernel
theorem mf_90 : pg_na 90 = 2 ∧ pg_ml 90 = 4 ∧ pg_cst 90 = 0 ∧ pg_cl 90 = 99 := by decide +kernel
theorem rt_90 : pg_rt 90 = some .boolean := by decide +kernel
theorem hx_90 : pg_hx 90 = [] := by decide +kernel
theorem i_91_0 : pg_at 91 0 = some (0, 0, 41, 262143) := by decide +kernel
theorem i_91_1 : pg_at 91 1 = some (2, 6, 0, 0) := by decide +kernel
theorem i_91_2 : pg_at 91 2 = some (0, 0, 0, 0) := by decide +kernel
theorem i_91_3 : pg_at 91 3 = some (2, 7, 0, 0) := by decide +kernel
theorem i_91_4 : pg_at 91 4 = some (0, 0, 0, 1) := by decide +kernel
theorem i_91_5 : pg_at 91 5 = some (2, 8, 0, 0) := by decide +kernel
theorem i_91_6 : pg_at 91 6 = some (0, 0, 0, 0) := by decide +kernel
theorem i_91_7 : pg_at 91 7 = some (2, 9, 0, 0) := by decide +kernel
theorem i_91_8 : pg_at 91 8 = some (1, 9, 0, 0) := by decide +kernel
theorem i_91_9 : pg_at 91 9 = some (1, 5, 0, 0) := by decide +kernel
theorem i_91_10 : pg_at 91 10 = some (40, 88, 0, 42) := by decide +kernel
theorem i_91_11 : pg_at 91 11 = some (18, 18, 3, 0) := by decide +kernel
theorem i_91_12 : pg_at 91 12 = some (1, 8, 0, 0) := by decide +kernel
theorem i_91_13 : pg_at 91 13 = some (0, 0, 0, 8) := by decide +kernel
theorem i_91_14 : pg_at 91 14 = some (8, 0, 0, 0) := by decide +kernel
theorem i_91_15 : pg_at 91 15 = some (2, 8, 0, 0) := by decide +kernel
theorem i_91_16 : pg_at 91 16 = some (5, 9, 0, 1) := by decide +kernel
theorem i_91_17 : pg_at 91 17 = some (16, 8, 0, 0) := by decide +kernel
theorem i_91_18 : pg_at 91 18 = some (1, 8, 0, 0) := by decide +kernel
theorem i_91_19 : pg_at 91 19 = some (0, 0, 0, 1) := by decide +kernel
theorem i_91_20 : pg_at 91 20 = some (7, 0, 0, 0) := by decide +kernel
theorem i_91_21 : pg_at 91 21 = some (2, 9, 0, 0) := by decide +kernel
theorem i_91_22 : pg_at 91 22 = some (1, 9, 0, 0) := by decide +kernel
theorem i_91_23 : pg_at 91 23 = some (17, 93, 2, 0) := by decide +kernel
theorem i_91_24 : pg_at 91 24 = some (1, 9, 0, 0) := by decide +kernel
theorem i_91_25 : pg_at 91 25 = some (2, 10, 0, 0) := by decide +kernel
theorem i_91_26 : pg_at 91 26 = some (0, 0, 0, 0) := by decide +kernel
theorem i_91_27 : pg_at 91 27 = some (2, 11, 0, 0) := by decide +kernel
theorem i_91_28 : pg_at 91 28 = some (0, 0, 0, 0) := by decide +kernel
theorem i_91_29 : pg_at 91 29 = some (2, 12, 0, 0) := by decide +kernel
theorem i_91_30 : pg_at 91 30 = some (1, 12, 0, 0) := by decide +kernel
theorem i_91_31 : pg_at 91 31 = some (0, 0, 0, 6) := by decide +kernel
theorem i_91_32 : pg_at 91 32 = some (18, 68, 3, 0) := by decide +kernel
theorem i_91_33 : pg_at 91 33 = some (1, 5, 0, 0) := by decide +kernel
theorem i_91_34 : pg_at 91 34 = some (1, 12, 0, 0) := by decide +kernel
theorem i_91_35 : pg_at 91 35 = some (57, 0, 0, 0) := by decide +kernel
theorem i_91_36 : pg_at 91 36 = some (0, 0, 0, 1) := by decide +kernel
theorem i_91_37 : pg_at 91 37 = some (12, 0, 0, 0) := by decide +kernel
theorem i_91_38 : pg_at 91 38 = some (0, 0, 0, 1) := by decide +kernel
theorem i_91_39 : pg_at 91 39 = some (18, 42, 1, 0) := by decide +kernel
theorem i_91_40 : pg_at 91 40 = some (0, 0, 0, 1) := by decide +kernel
theorem i_91_41 : pg_at 91 41 = some (16, 43, 0, 0) := by decide +kernel
theorem i_91_42 : pg_at 91 42 = some (0, 0, 0, 0) := by decide +kernel
theorem i_91_43 : pg_at 91 43 = some (2, 13, 0, 0) := by decide +kernel
theorem i_91_44 : pg_at 91 44 = some (1, 11, 0, 0) := by decide +kernel
theorem i_91_45 : pg_at 91 45 = some (1, 13, 0, 0) := by decide +kernel
theorem i_91_46 : pg_at 91 46 = some (17, 51, 0, 0) := by decide +kernel
theorem i_91_47 : pg_at 91 47 = some (1, 10, 0, 0) := by decide +kernel
theorem i_91_48 : pg_at 91 48 = some (0, 0, 0, 7) := by decide +kernel
theorem i_91_49 : pg_at 91 49 = some (12, 0, 0, 0) := by decide +kernel
theorem i_91_50 : pg_at 91 50 = some (16, 52, 0, 0) := by decide +kernel
theorem i_91_51 : pg_at 91 51 = some (0, 0, 0, 7) := by decide +kernel
theorem i_91_52 : pg_at 91 52 = some (0, 0, 0, 3) := by decide +kernel
theorem i_91_53 : pg_at 91 53 = some (1, 12, 0, 0) := by decide +kernel
theorem i_91_54 : pg_at 91 54 = some (8, 0, 0, 0) := by decide +kernel
theorem i_91_55 : pg_at 91 55 = some (56, 0, 0, 0) := by decide +kernel
theorem i_91_56 : pg_at 91 56 = some (54, 0, 0, 0) := by decide +kernel
theorem i_91_57 : pg_at 91 57 = some (2, 11, 0, 0) := by decide +kernel
theorem i_91_58 : pg_at 91 58 = some (1, 13, 0, 0) := by decide +kernel
theorem i_91_59 : pg_at 91 59 = some (17, 64, 0, 0) := by decide +kernel
theorem i_91_60 : pg_at 91 60 = some (1, 10, 0, 0) := by decide +kernel
theorem i_91_61 : pg_at 91 61 = some (0, 0, 0, 3) := by decide +kernel
theorem i_91_62 : pg_at 91 62 = some (57, 0, 0, 0) := by decide +kernel
theorem i_91_63 : pg_at 91 63 = some (16, 65, 0, 0) := by decide +kernel
theorem i_91_64 : pg_at 91 64 = some (1, 10, 0, 0) := by decide +kernel
theorem i_91_65 : pg_at 91 65 = some (2, 10, 0, 0) := by decide +kernel
theorem i_91_66 : pg_at 91 66 = some (5, 12, 0, 1) := by decide +kernel
theorem i_91_67 : pg_at 91 67 = some (16, 30, 0, 0) := by decide +kernel
theorem i_91_68 : pg_at 91 68 = some (3, 0, 0, 0) := by decide +kernel
theorem i_91_69 : pg_at 91 69 = some (3, 1, 0, 0) := by decide +kernel
theorem i_91_70 : pg_at 91 70 = some (3, 2, 0, 0) := by decide +kernel
theorem i_91_71 : pg_at 91 71 = some (3, 3, 0, 0) := by decide +kernel
theorem i_91_72 : pg_at 91 72 = some (3, 4, 0, 0) := by decide +kernel
theorem i_91_73 : pg_at 91 73 = some (1, 5, 0, 0) := by decide +kernel
theorem i_91_74 : pg_at 91 74 = some (1, 11, 0, 0) := by decide +kernel
theorem i_91_75 : pg_at 91 75 = some (40, 89, 0, 46) := by decide +kernel
theorem i_91_76 : pg_at 91 76 = some (2, 12, 0, 0) := by decide +kernel
theorem i_91_77 : pg_at 91 77 = some (1, 12, 0, 0) := by decide +kernel
theorem i_91_78 : pg_at 91 78 = some (1, 7, 0, 0) := by decide +kernel
theorem i_91_79 : pg_at 91 79 = some (18, 87, 4, 0) := by decide +kernel
theorem i_91_80 : pg_at 91 80 = some (1, 12, 0, 0) := by decide +kernel
theorem i_91_81 : pg_at 91 81 = some (1, 7, 0, 0) := by decide +kernel
theorem i_91_82 : pg_at 91 82 = some (18, 91, 1, 0) := by decide +kernel
theorem i_91_83 : pg_at 91 83 = some (1, 11, 0, 0) := by decide +kernel
theorem i_91_84 : pg_at 91 84 = some (1, 6, 0, 0) := by decide +kernel
theorem i_91_85 : pg_at 91 85 = some (40, 90, 0, 50) := by decide +kernel
theorem i_91_86 : pg_at 91 86 = some (17, 91, 0, 0) := by decide +kernel
theorem i_91_87 : pg_at 91 87 = some (1, 12, 0, 0) := by decide +kernel
theorem i_91_88 : pg_at 91 88 = some (2, 7, 0, 0) := by decide +kernel
theorem i_91_89 : pg_at 91 89 = some (1, 11, 0, 0) := by decide +kernel
theorem i_91_90 : pg_at 91 90 = some (2, 6, 0, 0) := by decide +kernel
theorem i_91_91 : pg_at 91 91 = some (5, 9, 0, (-1)) := by decide +kernel
theorem i_91_92 : pg_at 91 92 = some (16, 22, 0, 0) := by decide +kernel
theorem i_91_93 : pg_at 91 93 = some (1, 6, 0, 0) := by decide +kernel
theorem i_91_94 : pg_at 91 94 = some (45, 0, 0, 0) := by decide +kernel
theorem mf_91 : pg_na 91 = 6 ∧ pg_ml 91 = 14 ∧ pg_cst 91 = 0 ∧ pg_cl 91 = 99 := by decide +kernel
theorem rt_91 : pg_rt 91 ≠ some .boolean := by decide +kernel
theorem hx_91 : pg_hx 91 = [] := by decide +kernel
theorem i_92_0 : pg_at 92 0 = some (3, 1, 0, 0) := by decide +kernel
theorem i_92_1 : pg_at 92 1 = some (3, 4, 0, 0) := by decide +kernel
theorem i_92_2 : pg_at 92 2 = some (3, 5, 0, 0) := by decide +kernel
theorem i_92_3 : pg_at 92 3 = some (40, 87, 0, 54) := by decide +kernel
theorem i_92_4 : pg_at 92 4 = some (2, 6, 0, 0) := by decide +kernel
theorem i_92_5 : pg_at 92 5 = some (3, 5, 0, 0) := by decide +kernel
theorem i_92_6 : pg_at 92 6 = some (3, 5, 0, 0) := by decide +kernel
theorem i_92_7 : pg_at 92 7 = some (0, 0, 0, 0) := by decide +kernel
theorem i_92_8 : pg_at 92 8 = some (27, 0, 0, 0) := by decide +kernel
theorem i_92_9 : pg_at 92 9 = some (40, 79, 0, 9) := by decide +kernel
theorem i_92_10 : pg_at 92 10 = some (17, 26, 0, 0) := by decide +kernel
theorem i_92_11 : pg_at 92 11 = some (3, 5, 0, 0) := by decide +kernel
theorem i_92_12 : pg_at 92 12 = some (0, 0, 0, 7) := by decide +kernel
theorem i_92_13 : pg_at 92 13 = some (3, 5, 0, 0) := by decide +kernel
theorem i_92_14 : pg_at 92 14 = some (0, 0, 0, 0) := by decide +kernel
theorem i_92_15 : pg_at 92 15 = some (27, 0, 0, 0) := by decide +kernel
theorem i_92_16 : pg_at 92 16 = some (0, 0, 0, 3) := by decide +kernel
theorem i_92_17 : pg_at 92 17 = some (10, 0, 0, 0) := by decide +kernel
theorem i_92_18 : pg_at 92 18 = some (6, 0, 0, 0) := by decide +kernel
theorem i_92_19 : pg_at 92 19 = some (27, 0, 0, 0) := by decide +kernel
theorem i_92_20 : pg_at 92 20 = some (0, 0, 0, 1) := by decide +kernel
theorem i_92_21 : pg_at 92 21 = some (18, 26, 0, 0) := by decide +kernel
theorem i_92_22 : pg_at 92 22 = some (1, 6, 0, 0) := by decide +kernel
theorem i_92_23 : pg_at 92 23 = some (40, 88, 0, 42) := by decide +kernel
theorem i_92_24 : pg_at 92 24 = some (0, 0, 0, 4) := by decide +kernel
theorem i_92_25 : pg_at 92 25 = some (18, 28, 5, 0) := by decide +kernel
theorem i_92_26 : pg_at 92 26 = some (0, 0, 0, 1) := by decide +kernel
theorem i_92_27 : pg_at 92 27 = some (45, 0, 0, 0) := by decide +kernel
theorem i_92_28 : pg_at 92 28 = some (3, 1, 0, 0) := by decide +kernel
theorem i_92_29 : pg_at 92 29 = some (3, 2, 0, 0) := by decide +kernel
theorem i_92_30 : pg_at 92 30 = some (3, 3, 0, 0) := by decide +kernel
theorem i_92_31 : pg_at 92 31 = some (3, 4, 0, 0) := by decide +kernel
theorem i_92_32 : pg_at 92 32 = some (3, 5, 0, 0) := by decide +kernel
theorem i_92_33 : pg_at 92 33 = some (1, 6, 0, 0) := by decide +kernel
theorem i_92_34 : pg_at 92 34 = some (40, 91, 0, 58) := by decide +kernel
theorem i_92_35 : pg_at 92 35 = some (2, 7, 0, 0) := by decide +kernel
theorem i_92_36 : pg_at 92 36 = some (0, 0, 0, 0) := by decide +kernel
theorem i_92_37 : pg_at 92 37 = some (2, 8, 0, 0) := by decide +kernel
theorem i_92_38 : pg_at 92 38 = some (3, 5, 0, 0) := by decide +kernel
theorem i_92_39 : pg_at 92 39 = some (3, 5, 0, 0) := by decide +kernel
theorem i_92_40 : pg_at 92 40 = some (0, 0, 0, 0) := by decide +kernel
theorem i_92_41 : pg_at 92 41 = some (27, 0, 0, 0) := by decide +kernel
theorem i_92_42 : pg_at 92 42 = some (40, 79, 0, 9) := by decide +kernel
theorem i_92_43 : pg_at 92 43 = some (0, 0, 0, 1) := by decide +kernel
theorem i_92_44 : pg_at 92 44 = some (7, 0, 0, 0) := by decide +kernel
theorem i_92_45 : pg_at 92 45 = some (2, 9, 0, 0) := by decide +kernel
theorem i_92_46 : pg_at 92 46 = some (1, 9, 0, 0) := by decide +kernel
theorem i_92_47 : pg_at 92 47 = some (17, 159, 2, 0) := by decide +kernel
theorem i_92_48 : pg_at 92 48 = some (3, 5, 0, 0) := by decide +kernel
theorem i_92_49 : pg_at 92 49 = some (3, 5, 0, 0) := by decide +kernel
theorem i_92_50 : pg_at 92 50 = some (0, 0, 0, 0) := by decide +kernel
theorem i_92_51 : pg_at 92 51 = some (27, 0, 0, 0) := by decide +kernel
theorem i_92_52 : pg_at 92 52 = some (40, 78, 0, 15) := by decide +kernel
theorem i_92_53 : pg_at 92 53 = some (0, 0, 0, 6) := by decide +kernel
theorem i_92_54 : pg_at 92 54 = some (1, 9, 0, 0) := by decide +kernel
theorem i_92_55 : pg_at 92 55 = some (8, 0, 0, 0) := by decide +kernel
theorem i_92_56 : pg_at 92 56 = some (6, 0, 0, 0) := by decide +kernel
theorem i_92_57 : pg_at 92 57 = some (2, 10, 0, 0) := by decide +kernel
theorem i_92_58 : pg_at 92 58 = some (1, 6, 0, 0) := by decide +kernel
theorem i_92_59 : pg_at 92 59 = some (0, 0, 0, 2) := by decide +kernel
theorem i_92_60 : pg_at 92 60 = some (1, 9, 0, 0) := by decide +kernel
theorem i_92_61 : pg_at 92 61 = some (8, 0, 0, 0) := by decide +kernel
theorem i_92_62 : pg_at 92 62 = some (57, 0, 0, 0) := by decide +kernel
theorem i_92_63 : pg_at 92 63 = some (0, 0, 0, 1) := by decide +kernel
theorem i_92_64 : pg_at 92 64 = some (12, 0, 0, 0) := by decide +kernel
theorem i_92_65 : pg_at 92 65 = some (0, 0, 0, 1) := by decide +kernel
theorem i_92_66 : pg_at 92 66 = some (18, 69, 1, 0) := by decide +kernel
theorem i_92_67 : pg_at 92 67 = some (0, 0, 0, 1) := by decide +kernel
theorem i_92_68 : pg_at 92 68 = some (16, 70, 0, 0) := by decide +kernel
theorem i_92_69 : pg_at 92 69 = some (0, 0, 0, 0) := by decide +kernel
theorem i_92_70 : pg_at 92 70 = some (2, 11, 0, 0) := by decide +kernel
theorem i_92_71 : pg_at 92 71 = some (1, 6, 0, 0) := by decide +kernel
theorem i_92_72 : pg_at 92 72 = some (0, 0, 0, 2) := by decide +kernel
theorem i_92_73 : pg_at 92 73 = some (1, 9, 0, 0) := by decide +kernel
theorem i_92_74 : pg_at 92 74 = some (8, 0, 0, 0) := by decide +kernel
theorem i_92_75 : pg_at 92 75 = some (0, 0, 0, 1) := by decide +kernel
theorem i_92_76 : pg_at 92 76 = some (6, 0, 0, 0) := by decide +kernel
theorem i_92_77 : pg_at 92 77 = some (57, 0, 0, 0) := by decide +kernel
theorem i_92_78 : pg_at 92 78 = some (0, 0, 0, 1) := by decide +kernel
theorem i_92_79 : pg_at 92 79 = some (12, 0, 0, 0) := by decide +kernel
theorem i_92_80 : pg_at 92 80 = some (0, 0, 0, 1) := by decide +kernel
theorem i_92_81 : pg_at 92 81 = some (18, 84, 1, 0) := by decide +kernel
theorem i_92_82 : pg_at 92 82 = some (0, 0, 0, 1) := by decide +kernel
theorem i_92_83 : pg_at 92 83 = some (16, 85, 0, 0) := by decide +kernel
theorem i_92_84 : pg_at 92 84 = some (0, 0, 0, 0) := by decide +kernel
theorem i_92_85 : pg_at 92 85 = some (2, 12, 0, 0) := by decide +kernel
theorem i_92_86 : pg_at 92 86 = some (1, 11, 0, 0) := by decide +kernel
theorem i_92_87 : pg_at 92 87 = some (17, 97, 0, 0) := by decide +kernel
theorem i_92_88 : pg_at 92 88 = some (1, 7, 0, 0) := by decide +kernel
theorem i_92_89 : pg_at 92 89 = some (0, 0, 0, 6) := by decide +kernel
theorem i_92_90 : pg_at 92 90 = some (1, 9, 0, 0) := by decide +kernel
theorem i_92_91 : pg_at 92 91 = some (8, 0, 0, 0) := by decide +kernel
theorem i_92_92 : pg_at 92 92 = some (57, 0, 0, 0) := by decide +kernel
theorem i_92_93 : pg_at 92 93 = some (0, 0, 0, 7) := by decide +kernel
theorem i_92_94 : pg_at 92 94 = some (12, 0, 0, 0) := by decide +kernel
theorem i_92_95 : pg_at 92 95 = some (0, 0, 0, 7) := by decide +kernel
theorem i_92_96 : pg_at 92 96 = some (18, 110, 0, 0) := by decide +kernel
theorem i_92_97 : pg_at 92 97 = some (1, 12, 0, 0) := by decide +kernel
theorem i_92_98 : pg_at 92 98 = some (17, 119, 0, 0) := by decide +kernel
theorem i_92_99 : pg_at 92 99 = some (1, 7, 0, 0) := by decide +kernel
theorem i_92_100 : pg_at 92 100 = some (0, 0, 0, 6) := by decide +kernel
theorem i_92_101 : pg_at 92 101 = some (1, 9, 0, 0) := by decide +kernel
theorem i_92_102 : pg_at 92 102 = some (8, 0, 0, 0) := by decide +kernel
theorem i_92_103 : pg_at 92 103 = some (0, 0, 0, 3) := by decide +kernel
theorem i_92_104 : pg_at 92 104 = some (6, 0, 0, 0) := by decide +kernel
theorem i_92_105 : pg_at 92 105 = some (57, 0, 0, 0) := by decide +kernel
theorem i_92_106 : pg_at 92 106 = some (0, 0, 0, 7) := by decide +kernel
theorem i_92_107 : pg_at 92 107 = some (12, 0, 0, 0) := by decide +kernel
theorem i_92_108 : pg_at 92 108 = some (0, 0, 0, 7) := by decide +kernel
theorem i_92_109 : pg_at 92 109 = some (18, 119, 1, 0) := by decide +kernel
theorem i_92_110 : pg_at 92 110 = some (3, 4, 0, 0) := by decide +kernel
theorem i_92_111 : pg_at 92 111 = some (3, 5, 0, 0) := by decide +kernel
theorem i_92_112 : pg_at 92 112 = some (3, 5, 0, 0) := by decide +kernel
theorem i_92_113 : pg_at 92 113 = some (0, 0, 0, 0) := by decide +kernel
theorem i_92_114 : pg_at 92 114 = some (27, 0, 0, 0) := by decide +kernel
theorem i_92_115 : pg_at 92 115 = some (1, 9, 0, 0) := by decide +kernel
theorem i_92_116 : pg_at 92 116 = some (40, 86, 0, 62) := by decide +kernel
theorem i_92_117 : pg_at 92 117 = some (5, 8, 0, 1) := by decide +kernel
theorem i_92_118 : pg_at 92 118 = some (16, 157, 0, 0) := by decide +kernel
theorem i_92_119 : pg_at 92 119 = some (3, 4, 0, 0) := by decide +kernel
theorem i_92_120 : pg_at 92 120 = some (1, 10, 0, 0) := by decide +kernel
theorem i_92_121 : pg_at 92 121 = some (1, 11, 0, 0) := by decide +kernel
theorem i_92_122 : pg_at 92 122 = some (17, 131, 0, 0) := by decide +kernel
theorem i_92_123 : pg_at 92 123 = some (1, 7, 0, 0) := by decide +kernel
theorem i_92_124 : pg_at 92 124 = some (0, 0, 0, 6) := by decide +kernel
theorem i_92_125 : pg_at 92 125 = some (1, 9, 0, 0) := by decide +kernel
theorem i_92_126 : pg_at 92 126 = some (8, 0, 0, 0) := by decide +kernel
theorem i_92_127 : pg_at 92 127 = some (57, 0, 0, 0) := by decide +kernel
theorem i_92_128 : pg_at 92 128 = some (0, 0, 0, 7) := by decide +kernel
theorem i_92_129 : pg_at 92 129 = some (12, 0, 0, 0) := by decide +kernel
theorem i_92_130 : pg_at 92 130 = some (16, 134, 0, 0) := by decide +kernel
theorem i_92_131 : pg_at 92 131 = some (3, 4, 0, 0) := by decide +kernel
theorem i_92_132 : pg_at 92 132 = some (1, 10, 0, 0) := by decide +kernel
theorem i_92_133 : pg_at 92 133 = some (27, 0, 0, 0) := by decide +kernel
theorem i_92_134 : pg_at 92 134 = some (28, 0, 0, 0) := by decide +kernel
theorem i_92_135 : pg_at 92 135 = some (3, 4, 0, 0) := by decide +kernel
theorem i_92_136 : pg_at 92 136 = some (1, 10, 0, 0) := by decide +kernel
theorem i_92_137 : pg_at 92 137 = some (0, 0, 0, 1) := by decide +kernel
theorem i_92_138 : pg_at 92 138 = some (6, 0, 0, 0) := by decide +kernel
theorem i_92_139 : pg_at 92 139 = some (1, 12, 0, 0) := by decide +kernel
theorem i_92_140 : pg_at 92 140 = some (17, 151, 0, 0) := by decide +kernel
theorem i_92_141 : pg_at 92 141 = some (1, 7, 0, 0) := by decide +kernel
theorem i_92_142 : pg_at 92 142 = some (0, 0, 0, 6) := by decide +kernel
theorem i_92_143 : pg_at 92 143 = some (1, 9, 0, 0) := by decide +kernel
theorem i_92_144 : pg_at 92 144 = some (8, 0, 0, 0) := by decide +kernel
theorem i_92_145 : pg_at 92 145 = some (0, 0, 0, 3) := by decide +kernel
theorem i_92_146 : pg_at 92 146 = some (6, 0, 0, 0) := by decide +kernel
theorem i_92_147 : pg_at 92 147 = some (57, 0, 0, 0) := by decide +kernel
theorem i_92_148 : pg_at 92 148 = some (0, 0, 0, 7) := by decide +kernel
theorem i_92_149 : pg_at 92 149 = some (12, 0, 0, 0) := by decide +kernel
theorem i_92_150 : pg_at 92 150 = some (16, 156, 0, 0) := by decide +kernel
theorem i_92_151 : pg_at 92 151 = some (3, 4, 0, 0) := by decide +kernel
theorem i_92_152 : pg_at 92 152 = some (1, 10, 0, 0) := by decide +kernel
theorem i_92_153 : pg_at 92 153 = some (0, 0, 0, 1) := by decide +kernel
theorem i_92_154 : pg_at 92 154 = some (6, 0, 0, 0) := by decide +kernel
theorem i_92_155 : pg_at 92 155 = some (27, 0, 0, 0) := by decide +kernel
theorem i_92_156 : pg_at 92 156 = some (28, 0, 0, 0) := by decide +kernel
theorem i_92_157 : pg_at 92 157 = some (5, 9, 0, (-1)) := by decide +kernel
theorem i_92_158 : pg_at 92 158 = some (16, 46, 0, 0) := by decide +kernel
theorem i_92_159 : pg_at 92 159 = some (3, 0, 0, 0) := by decide +kernel
theorem i_92_160 : pg_at 92 160 = some (41, 42, 0, 66) := by decide +kernel
theorem i_92_161 : pg_at 92 161 = some (1, 8, 0, 0) := by decide +kernel
theorem i_92_162 : pg_at 92 162 = some (18, 165, 1, 0) := by decide +kernel
theorem i_92_163 : pg_at 92 163 = some (0, 0, 0, 1) := by decide +kernel
theorem i_92_164 : pg_at 92 164 = some (16, 166, 0, 0) := by decide +kernel
theorem i_92_165 : pg_at 92 165 = some (0, 0, 0, 0) := by decide +kernel
theorem i_92_166 : pg_at 92 166 = some (45, 0, 0, 0) := by decide +kernel
theorem mf_92 : pg_na 92 = 6 ∧ pg_ml 92 = 13 ∧ pg_cst 92 = 7 ∧ pg_cl 92 = 99 := by decide +kernel
theorem rt_92 : pg_rt 92 = some .boolean := by decide +kernel
theorem hx_92 : pg_hx 92 = [] := by decide +kernel
theorem i_93_0 : pg_at 93 0 = some (3, 0, 0, 0) := by decide +kernel
theorem i_93_1 : pg_at 93 1 = some (0, 0, 0, 7) := by decide +kernel
theorem i_93_2 : pg_at 93 2 = some (1, 1, 0, 0) := by decide +kernel
theorem i_93_3 : pg_at 93 3 = some (8, 0, 0, 0) := by decide +kernel
theorem i_93_4 : pg_at 93 4 = some (1, 2, 0, 0) := by decide +kernel
theorem i_93_5 : pg_at 93 5 = some (6, 0, 0, 0) := by decide +kernel
theorem i_93_6 : pg_at 93 6 = some (27, 0, 0, 0) := by decide +kernel
theorem i_93_7 : pg_at 93 7 = some (1, 3, 0, 0) := by decide +kernel
theorem i_93_8 : pg_at 93 8 = some (6, 0, 0, 0) := by decide +kernel
theorem i_93_9 : pg_at 93 9 = some (2, 4, 0, 0) := by decide +kernel
theorem i_93_10 : pg_at 93 10 = some (3, 0, 0, 0) := by decide +kernel
theorem i_93_11 : pg_at 93 11 = some (0, 0, 0, 7) := by decide +kernel
theorem i_93_12 : pg_at 93 12 = some (1, 1, 0, 0) := by decide +kernel
theorem i_93_13 : pg_at 93 13 = some (8, 0, 0, 0) := by decide +kernel
theorem i_93_14 : pg_at 93 14 = some (1, 2, 0, 0) := by decide +kernel
theorem i_93_15 : pg_at 93 15 = some (6, 0, 0, 0) := by decide +kernel
theorem i_93_16 : pg_at 93 16 = some (1, 4, 0, 0) := by decide +kernel
theorem i_93_17 : pg_at 93 17 = some (0, 0, 0, (-99)) := by decide +kernel
theorem i_93_18 : pg_at 93 18 = some (18, 21, 3, 0) := by decide +kernel
theorem i_93_19 : pg_at 93 19 = some (0, 0, 0, (-99)) := by decide +kernel
theorem i_93_20 : pg_at 93 20 = some (16, 27, 0, 0) := by decide +kernel
theorem i_93_21 : pg_at 93 21 = some (1, 4, 0, 0) := by decide +kernel
theorem i_93_22 : pg_at 93 22 = some (0, 0, 0, 99) := by decide +kernel
theorem i_93_23 : pg_at 93 23 = some (18, 26, 5, 0) := by decide +kernel
theorem i_93_24 : pg_at 93 24 = some (0, 0, 0, 99) := by decide +kernel
theorem i_93_25 : pg_at 93 25 = some (16, 27, 0, 0) := by decide +kernel
theorem i_93_26 : pg_at 93 26 = some (1, 4, 0, 0) := by decide +kernel
theorem i_93_27 : pg_at 93 27 = some (28, 0, 0, 0) := by decide +kernel
theorem i_93_28 : pg_at 93 28 = some (47, 0, 0, 0) := by decide +kernel
theorem mf_93 : pg_na 93 = 4 ∧ pg_ml 93 = 5 ∧ pg_cst 93 = 0 ∧ pg_cl 93 = 99 := by decide +kernel
theorem hx_93 : pg_hx 93 = [] := by decide +kernel
theorem i_94_0 : pg_at 94 0 = some (3, 0, 0, 0) := by decide +kernel
theorem i_94_1 : pg_at 94 1 = some (0, 0, 0, 9) := by decide +kernel
theorem i_94_2 : pg_at 94 2 = some (1, 2, 0, 0) := by decide +kernel
theorem i_94_3 : pg_at 94 3 = some (8, 0, 0, 0) := by decide +kernel
theorem i_94_4 : pg_at 94 4 = some (0, 0, 0, 2) := by decide +kernel
theorem i_94_5 : pg_at 94 5 = some (6, 0, 0, 0) := by decide +kernel
theorem i_94_6 : pg_at 94 6 = some (27, 0, 0, 0) := by decide +kernel
theorem i_94_7 : pg_at 94 7 = some (0, 0, 0, 1) := by decide +kernel
theorem i_94_8 : pg_at 94 8 = some (18, 11, 1, 0) := by decide +kernel
theorem i_94_9 : pg_at 94 9 = some (0, 0, 0, 1) := by decide +kernel
theorem i_94_10 : pg_at 94 10 = some (16, 12, 0, 0) := by decide +kernel
theorem i_94_11 : pg_at 94 11 = some (0, 0, 0, (-1)) := by decide +kernel
theorem i_94_12 : pg_at 94 12 = some (2, 3, 0, 0) := by decide +kernel
theorem i_94_13 : pg_at 94 13 = some (0, 0, 0, 0) := by decide +kernel
theorem i_94_14 : pg_at 94 14 = some (2, 4, 0, 0) := by decide +kernel
theorem i_94_15 : pg_at 94 15 = some (0, 0, 0, 0) := by decide +kernel
theorem i_94_16 : pg_at 94 16 = some (2, 5, 0, 0) := by decide +kernel
theorem i_94_17 : pg_at 94 17 = some (1, 5, 0, 0) := by decide +kernel
theorem i_94_18 : pg_at 94 18 = some (0, 0, 0, 4) := by decide +kernel
theorem i_94_19 : pg_at 94 19 = some (18, 39, 3, 0) := by decide +kernel
theorem i_94_20 : pg_at 94 20 = some (1, 4, 0, 0) := by decide +kernel
theorem i_94_21 : pg_at 94 21 = some (1, 3, 0, 0) := by decide +kernel
theorem i_94_22 : pg_at 94 22 = some (3, 1, 0, 0) := by decide +kernel
theorem i_94_23 : pg_at 94 23 = some (0, 0, 0, 7) := by decide +kernel
theorem i_94_24 : pg_at 94 24 = some (1, 5, 0, 0) := by decide +kernel
theorem i_94_25 : pg_at 94 25 = some (8, 0, 0, 0) := by decide +kernel
theorem i_94_26 : pg_at 94 26 = some (1, 2, 0, 0) := by decide +kernel
theorem i_94_27 : pg_at 94 27 = some (6, 0, 0, 0) := by decide +kernel
theorem i_94_28 : pg_at 94 28 = some (27, 0, 0, 0) := by decide +kernel
theorem i_94_29 : pg_at 94 29 = some (8, 0, 0, 0) := by decide +kernel
theorem i_94_30 : pg_at 94 30 = some (0, 0, 0, 50) := by decide +kernel
theorem i_94_31 : pg_at 94 31 = some (18, 34, 2, 0) := by decide +kernel
theorem i_94_32 : pg_at 94 32 = some (0, 0, 0, 1) := by decide +kernel
theorem i_94_33 : pg_at 94 33 = some (16, 35, 0, 0) := by decide +kernel
theorem i_94_34 : pg_at 94 34 = some (0, 0, 0, 0) := by decide +kernel
theorem i_94_35 : pg_at 94 35 = some (6, 0, 0, 0) := by decide +kernel
theorem i_94_36 : pg_at 94 36 = some (2, 4, 0, 0) := by decide +kernel
theorem i_94_37 : pg_at 94 37 = some (5, 5, 0, 1) := by decide +kernel
theorem i_94_38 : pg_at 94 38 = some (16, 17, 0, 0) := by decide +kernel
theorem i_94_39 : pg_at 94 39 = some (3, 0, 0, 0) := by decide +kernel
theorem i_94_40 : pg_at 94 40 = some (0, 0, 0, 9) := by decide +kernel
theorem i_94_41 : pg_at 94 41 = some (1, 2, 0, 0) := by decide +kernel
theorem i_94_42 : pg_at 94 42 = some (8, 0, 0, 0) := by decide +kernel
theorem i_94_43 : pg_at 94 43 = some (0, 0, 0, 2) := by decide +kernel
theorem i_94_44 : pg_at 94 44 = some (6, 0, 0, 0) := by decide +kernel
theorem i_94_45 : pg_at 94 45 = some (1, 4, 0, 0) := by decide +kernel
theorem i_94_46 : pg_at 94 46 = some (0, 0, 0, 1) := by decide +kernel
theorem i_94_47 : pg_at 94 47 = some (18, 58, 5, 0) := by decide +kernel
theorem i_94_48 : pg_at 94 48 = some (0, 0, 0, 1) := by decide +kernel
theorem i_94_49 : pg_at 94 49 = some (3, 0, 0, 0) := by decide +kernel
theorem i_94_50 : pg_at 94 50 = some (0, 0, 0, 9) := by decide +kernel
theorem i_94_51 : pg_at 94 51 = some (1, 2, 0, 0) := by decide +kernel
theorem i_94_52 : pg_at 94 52 = some (8, 0, 0, 0) := by decide +kernel
theorem i_94_53 : pg_at 94 53 = some (0, 0, 0, 2) := by decide +kernel
theorem i_94_54 : pg_at 94 54 = some (6, 0, 0, 0) := by decide +kernel
theorem i_94_55 : pg_at 94 55 = some (27, 0, 0, 0) := by decide +kernel
theorem i_94_56 : pg_at 94 56 = some (7, 0, 0, 0) := by decide +kernel
theorem i_94_57 : pg_at 94 57 = some (16, 65, 0, 0) := by decide +kernel
theorem i_94_58 : pg_at 94 58 = some (3, 0, 0, 0) := by decide +kernel
theorem i_94_59 : pg_at 94 59 = some (0, 0, 0, 9) := by decide +kernel
theorem i_94_60 : pg_at 94 60 = some (1, 2, 0, 0) := by decide +kernel
theorem i_94_61 : pg_at 94 61 = some (8, 0, 0, 0) := by decide +kernel
theorem i_94_62 : pg_at 94 62 = some (0, 0, 0, 2) := by decide +kernel
theorem i_94_63 : pg_at 94 63 = some (6, 0, 0, 0) := by decide +kernel
theorem i_94_64 : pg_at 94 64 = some (27, 0, 0, 0) := by decide +kernel
theorem i_94_65 : pg_at 94 65 = some (28, 0, 0, 0) := by decide +kernel
theorem i_94_66 : pg_at 94 66 = some (47, 0, 0, 0) := by decide +kernel
theorem mf_94 : pg_na 94 = 3 ∧ pg_ml 94 = 6 ∧ pg_cst 94 = 0 ∧ pg_cl 94 = 99 := by decide +kernel
theorem hx_94 : pg_hx 94 = [] := by decide +kernel
theorem i_95_0 : pg_at 95 0 = some (3, 4, 0, 0) := by decide +kernel
theorem i_95_1 : pg_at 95 1 = some (3, 4, 0, 0) := by decide +kernel
theorem i_95_2 : pg_at 95 2 = some (0, 0, 0, 0) := by decide +kernel
theorem i_95_3 : pg_at 95 3 = some (27, 0, 0, 0) := by decide +kernel
theorem i_95_4 : pg_at 95 4 = some (40, 78, 0, 15) := by decide +kernel
theorem i_95_5 : pg_at 95 5 = some (0, 0, 0, 6) := by decide +kernel
theorem i_95_6 : pg_at 95 6 = some (1, 5, 0, 0) := by decide +kernel
theorem i_95_7 : pg_at 95 7 = some (8, 0, 0, 0) := by decide +kernel
theorem i_95_8 : pg_at 95 8 = some (6, 0, 0, 0) := by decide +kernel
theorem i_95_9 : pg_at 95 9 = some (2, 6, 0, 0) := by decide +kernel
theorem i_95_10 : pg_at 95 10 = some (3, 4, 0, 0) := by decide +kernel
theorem i_95_11 : pg_at 95 11 = some (0, 0, 0, 4) := by decide +kernel
theorem i_95_12 : pg_at 95 12 = some (3, 4, 0, 0) := by decide +kernel
theorem i_95_13 : pg_at 95 13 = some (0, 0, 0, 0) := by decide +kernel
theorem i_95_14 : pg_at 95 14 = some (27, 0, 0, 0) := by decide +kernel
theorem i_95_15 : pg_at 95 15 = some (0, 0, 0, 3) := by decide +kernel
theorem i_95_16 : pg_at 95 16 = some (10, 0, 0, 0) := by decide +kernel
theorem i_95_17 : pg_at 95 17 = some (6, 0, 0, 0) := by decide +kernel
theorem i_95_18 : pg_at 95 18 = some (27, 0, 0, 0) := by decide +kernel
theorem i_95_19 : pg_at 95 19 = some (2, 7, 0, 0) := by decide +kernel
theorem i_95_20 : pg_at 95 20 = some (3, 3, 0, 0) := by decide +kernel
theorem i_95_21 : pg_at 95 21 = some (1, 6, 0, 0) := by decide +kernel
theorem i_95_22 : pg_at 95 22 = some (3, 3, 0, 0) := by decide +kernel
theorem i_95_23 : pg_at 95 23 = some (1, 6, 0, 0) := by decide +kernel
theorem i_95_24 : pg_at 95 24 = some (0, 0, 0, 2) := by decide +kernel
theorem i_95_25 : pg_at 95 25 = some (6, 0, 0, 0) := by decide +kernel
theorem i_95_26 : pg_at 95 26 = some (27, 0, 0, 0) := by decide +kernel
theorem i_95_27 : pg_at 95 27 = some (6, 0, 0, 0) := by decide +kernel
theorem i_95_28 : pg_at 95 28 = some (27, 0, 0, 0) := by decide +kernel
theorem i_95_29 : pg_at 95 29 = some (2, 8, 0, 0) := by decide +kernel
theorem i_95_30 : pg_at 95 30 = some (3, 3, 0, 0) := by decide +kernel
theorem i_95_31 : pg_at 95 31 = some (1, 6, 0, 0) := by decide +kernel
theorem i_95_32 : pg_at 95 32 = some (0, 0, 0, 1) := by decide +kernel
theorem i_95_33 : pg_at 95 33 = some (6, 0, 0, 0) := by decide +kernel
theorem i_95_34 : pg_at 95 34 = some (3, 3, 0, 0) := by decide +kernel
theorem i_95_35 : pg_at 95 35 = some (1, 6, 0, 0) := by decide +kernel
theorem i_95_36 : pg_at 95 36 = some (0, 0, 0, 2) := by decide +kernel
theorem i_95_37 : pg_at 95 37 = some (6, 0, 0, 0) := by decide +kernel
theorem i_95_38 : pg_at 95 38 = some (27, 0, 0, 0) := by decide +kernel
theorem i_95_39 : pg_at 95 39 = some (7, 0, 0, 0) := by decide +kernel
theorem i_95_40 : pg_at 95 40 = some (27, 0, 0, 0) := by decide +kernel
theorem i_95_41 : pg_at 95 41 = some (2, 9, 0, 0) := by decide +kernel
theorem i_95_42 : pg_at 95 42 = some (3, 0, 0, 0) := by decide +kernel
theorem i_95_43 : pg_at 95 43 = some (3, 1, 0, 0) := by decide +kernel
theorem i_95_44 : pg_at 95 44 = some (1, 7, 0, 0) := by decide +kernel
theorem i_95_45 : pg_at 95 45 = some (1, 8, 0, 0) := by decide +kernel
theorem i_95_46 : pg_at 95 46 = some (40, 81, 0, 37) := by decide +kernel
theorem i_95_47 : pg_at 95 47 = some (3, 0, 0, 0) := by decide +kernel
theorem i_95_48 : pg_at 95 48 = some (3, 1, 0, 0) := by decide +kernel
theorem i_95_49 : pg_at 95 49 = some (1, 7, 0, 0) := by decide +kernel
theorem i_95_50 : pg_at 95 50 = some (1, 9, 0, 0) := by decide +kernel
theorem i_95_51 : pg_at 95 51 = some (40, 81, 0, 37) := by decide +kernel
theorem i_95_52 : pg_at 95 52 = some (6, 0, 0, 0) := by decide +kernel
theorem i_95_53 : pg_at 95 53 = some (2, 10, 0, 0) := by decide +kernel
theorem i_95_54 : pg_at 95 54 = some (3, 0, 0, 0) := by decide +kernel
theorem i_95_55 : pg_at 95 55 = some (0, 0, 0, 9) := by decide +kernel
theorem i_95_56 : pg_at 95 56 = some (1, 8, 0, 0) := by decide +kernel
theorem i_95_57 : pg_at 95 57 = some (8, 0, 0, 0) := by decide +kernel
theorem i_95_58 : pg_at 95 58 = some (0, 0, 0, 2) := by decide +kernel
theorem i_95_59 : pg_at 95 59 = some (6, 0, 0, 0) := by decide +kernel
theorem i_95_60 : pg_at 95 60 = some (27, 0, 0, 0) := by decide +kernel
theorem i_95_61 : pg_at 95 61 = some (3, 0, 0, 0) := by decide +kernel
theorem i_95_62 : pg_at 95 62 = some (0, 0, 0, 9) := by decide +kernel
theorem i_95_63 : pg_at 95 63 = some (1, 9, 0, 0) := by decide +kernel
theorem i_95_64 : pg_at 95 64 = some (8, 0, 0, 0) := by decide +kernel
theorem i_95_65 : pg_at 95 65 = some (0, 0, 0, 2) := by decide +kernel
theorem i_95_66 : pg_at 95 66 = some (6, 0, 0, 0) := by decide +kernel
theorem i_95_67 : pg_at 95 67 = some (27, 0, 0, 0) := by decide +kernel
theorem i_95_68 : pg_at 95 68 = some (18, 71, 1, 0) := by decide +kernel
theorem i_95_69 : pg_at 95 69 = some (0, 0, 0, 1) := by decide +kernel
theorem i_95_70 : pg_at 95 70 = some (16, 72, 0, 0) := by decide +kernel
theorem i_95_71 : pg_at 95 71 = some (0, 0, 0, 0) := by decide +kernel
theorem i_95_72 : pg_at 95 72 = some (2, 11, 0, 0) := by decide +kernel
theorem i_95_73 : pg_at 95 73 = some (3, 3, 0, 0) := by decide +kernel
theorem i_95_74 : pg_at 95 74 = some (1, 6, 0, 0) := by decide +kernel
theorem i_95_75 : pg_at 95 75 = some (0, 0, 0, 5) := by decide +kernel
theorem i_95_76 : pg_at 95 76 = some (6, 0, 0, 0) := by decide +kernel
theorem i_95_77 : pg_at 95 77 = some (27, 0, 0, 0) := by decide +kernel
theorem i_95_78 : pg_at 95 78 = some (0, 0, 0, 1) := by decide +kernel
theorem i_95_79 : pg_at 95 79 = some (18, 103, 1, 0) := by decide +kernel
theorem i_95_80 : pg_at 95 80 = some (3, 0, 0, 0) := by decide +kernel
theorem i_95_81 : pg_at 95 81 = some (0, 0, 0, 9) := by decide +kernel
theorem i_95_82 : pg_at 95 82 = some (1, 8, 0, 0) := by decide +kernel
theorem i_95_83 : pg_at 95 83 = some (8, 0, 0, 0) := by decide +kernel
theorem i_95_84 : pg_at 95 84 = some (0, 0, 0, 7) := by decide +kernel
theorem i_95_85 : pg_at 95 85 = some (6, 0, 0, 0) := by decide +kernel
theorem i_95_86 : pg_at 95 86 = some (14, 0, 0, 0) := by decide +kernel
theorem i_95_87 : pg_at 95 87 = some (27, 0, 0, 0) := by decide +kernel
theorem i_95_88 : pg_at 95 88 = some (0, 0, 0, 1) := by decide +kernel
theorem i_95_89 : pg_at 95 89 = some (6, 0, 0, 0) := by decide +kernel
theorem i_95_90 : pg_at 95 90 = some (28, 0, 0, 0) := by decide +kernel
theorem i_95_91 : pg_at 95 91 = some (3, 0, 0, 0) := by decide +kernel
theorem i_95_92 : pg_at 95 92 = some (0, 0, 0, 9) := by decide +kernel
theorem i_95_93 : pg_at 95 93 = some (1, 9, 0, 0) := by decide +kernel
theorem i_95_94 : pg_at 95 94 = some (8, 0, 0, 0) := by decide +kernel
theorem i_95_95 : pg_at 95 95 = some (0, 0, 0, 7) := by decide +kernel
theorem i_95_96 : pg_at 95 96 = some (6, 0, 0, 0) := by decide +kernel
theorem i_95_97 : pg_at 95 97 = some (14, 0, 0, 0) := by decide +kernel
theorem i_95_98 : pg_at 95 98 = some (27, 0, 0, 0) := by decide +kernel
theorem i_95_99 : pg_at 95 99 = some (0, 0, 0, 1) := by decide +kernel
theorem i_95_100 : pg_at 95 100 = some (6, 0, 0, 0) := by decide +kernel
theorem i_95_101 : pg_at 95 101 = some (28, 0, 0, 0) := by decide +kernel
theorem i_95_102 : pg_at 95 102 = some (16, 197, 0, 0) := by decide +kernel
theorem i_95_103 : pg_at 95 103 = some (3, 2, 0, 0) := by decide +kernel
theorem i_95_104 : pg_at 95 104 = some (0, 0, 0, 7) := by decide +kernel
theorem i_95_105 : pg_at 95 105 = some (1, 8, 0, 0) := by decide +kernel
theorem i_95_106 : pg_at 95 106 = some (8, 0, 0, 0) := by decide +kernel
theorem i_95_107 : pg_at 95 107 = some (1, 9, 0, 0) := by decide +kernel
theorem i_95_108 : pg_at 95 108 = some (6, 0, 0, 0) := by decide +kernel
theorem i_95_109 : pg_at 95 109 = some (14, 0, 0, 0) := by decide +kernel
theorem i_95_110 : pg_at 95 110 = some (27, 0, 0, 0) := by decide +kernel
theorem i_95_111 : pg_at 95 111 = some (0, 0, 0, 1) := by decide +kernel
theorem i_95_112 : pg_at 95 112 = some (6, 0, 0, 0) := by decide +kernel
theorem i_95_113 : pg_at 95 113 = some (28, 0, 0, 0) := by decide +kernel
theorem i_95_114 : pg_at 95 114 = some (3, 0, 0, 0) := by decide +kernel
theorem i_95_115 : pg_at 95 115 = some (0, 0, 0, 9) := by decide +kernel
theorem i_95_116 : pg_at 95 116 = some (1, 9, 0, 0) := by decide +kernel
theorem i_95_117 : pg_at 95 117 = some (8, 0, 0, 0) := by decide +kernel
theorem i_95_118 : pg_at 95 118 = some (0, 0, 0, 6) := by decide +kernel
theorem i_95_119 : pg_at 95 119 = some (6, 0, 0, 0) := by decide +kernel
theorem i_95_120 : pg_at 95 120 = some (14, 0, 0, 0) := by decide +kernel
theorem i_95_121 : pg_at 95 121 = some (27, 0, 0, 0) := by decide +kernel
theorem i_95_122 : pg_at 95 122 = some (0, 0, 0, 1) := by decide +kernel
theorem i_95_123 : pg_at 95 123 = some (6, 0, 0, 0) := by decide +kernel
theorem i_95_124 : pg_at 95 124 = some (28, 0, 0, 0) := by decide +kernel
theorem i_95_125 : pg_at 95 125 = some (3, 1, 0, 0) := by decide +kernel
theorem i_95_126 : pg_at 95 126 = some (1, 7, 0, 0) := by decide +kernel
theorem i_95_127 : pg_at 95 127 = some (1, 8, 0, 0) := by decide +kernel
theorem i_95_128 : pg_at 95 128 = some (1, 11, 0, 0) := by decide +kernel
theorem i_95_129 : pg_at 95 129 = some (17, 132, 0, 0) := by decide +kernel
theorem i_95_130 : pg_at 95 130 = some (0, 0, 0, 3) := by decide +kernel
theorem i_95_131 : pg_at 95 131 = some (16, 143, 0, 0) := by decide +kernel
theorem i_95_132 : pg_at 95 132 = some (3, 0, 0, 0) := by decide +kernel
theorem i_95_133 : pg_at 95 133 = some (0, 0, 0, 9) := by decide +kernel
theorem i_95_134 : pg_at 95 134 = some (1, 8, 0, 0) := by decide +kernel
theorem i_95_135 : pg_at 95 135 = some (8, 0, 0, 0) := by decide +kernel
theorem i_95_136 : pg_at 95 136 = some (0, 0, 0, 2) := by decide +kernel
theorem i_95_137 : pg_at 95 137 = some (6, 0, 0, 0) := by decide +kernel
theorem i_95_138 : pg_at 95 138 = some (27, 0, 0, 0) := by decide +kernel
theorem i_95_139 : pg_at 95 139 = some (17, 142, 1, 0) := by decide +kernel
theorem i_95_140 : pg_at 95 140 = some (0, 0, 0, 6) := by decide +kernel
theorem i_95_141 : pg_at 95 141 = some (16, 143, 0, 0) := by decide +kernel
theorem i_95_142 : pg_at 95 142 = some (0, 0, 0, (-6)) := by decide +kernel
theorem i_95_143 : pg_at 95 143 = some (40, 93, 0, 70) := by decide +kernel
theorem i_95_144 : pg_at 95 144 = some (3, 1, 0, 0) := by decide +kernel
theorem i_95_145 : pg_at 95 145 = some (1, 7, 0, 0) := by decide +kernel
theorem i_95_146 : pg_at 95 146 = some (1, 9, 0, 0) := by decide +kernel
theorem i_95_147 : pg_at 95 147 = some (1, 11, 0, 0) := by decide +kernel
theorem i_95_148 : pg_at 95 148 = some (17, 151, 0, 0) := by decide +kernel
theorem i_95_149 : pg_at 95 149 = some (0, 0, 0, (-1)) := by decide +kernel
theorem i_95_150 : pg_at 95 150 = some (16, 162, 0, 0) := by decide +kernel
theorem i_95_151 : pg_at 95 151 = some (3, 0, 0, 0) := by decide +kernel
theorem i_95_152 : pg_at 95 152 = some (0, 0, 0, 9) := by decide +kernel
theorem i_95_153 : pg_at 95 153 = some (1, 9, 0, 0) := by decide +kernel
theorem i_95_154 : pg_at 95 154 = some (8, 0, 0, 0) := by decide +kernel
theorem i_95_155 : pg_at 95 155 = some (0, 0, 0, 2) := by decide +kernel
theorem i_95_156 : pg_at 95 156 = some (6, 0, 0, 0) := by decide +kernel
theorem i_95_157 : pg_at 95 157 = some (27, 0, 0, 0) := by decide +kernel
theorem i_95_158 : pg_at 95 158 = some (17, 161, 1, 0) := by decide +kernel
theorem i_95_159 : pg_at 95 159 = some (0, 0, 0, 2) := by decide +kernel
theorem i_95_160 : pg_at 95 160 = some (16, 162, 0, 0) := by decide +kernel
theorem i_95_161 : pg_at 95 161 = some (0, 0, 0, (-2)) := by decide +kernel
theorem i_95_162 : pg_at 95 162 = some (40, 93, 0, 70) := by decide +kernel
theorem i_95_163 : pg_at 95 163 = some (3, 3, 0, 0) := by decide +kernel
theorem i_95_164 : pg_at 95 164 = some (1, 6, 0, 0) := by decide +kernel
theorem i_95_165 : pg_at 95 165 = some (0, 0, 0, 4) := by decide +kernel
theorem i_95_166 : pg_at 95 166 = some (6, 0, 0, 0) := by decide +kernel
theorem i_95_167 : pg_at 95 167 = some (27, 0, 0, 0) := by decide +kernel
theorem i_95_168 : pg_at 95 168 = some (0, 0, 0, 1) := by decide +kernel
theorem i_95_169 : pg_at 95 169 = some (7, 0, 0, 0) := by decide +kernel
theorem i_95_170 : pg_at 95 170 = some (2, 12, 0, 0) := by decide +kernel
theorem i_95_171 : pg_at 95 171 = some (1, 12, 0, 0) := by decide +kernel
theorem i_95_172 : pg_at 95 172 = some (17, 175, 3, 0) := by decide +kernel
theorem i_95_173 : pg_at 95 173 = some (0, 0, 0, (-1)) := by decide +kernel
theorem i_95_174 : pg_at 95 174 = some (16, 182, 0, 0) := by decide +kernel
theorem i_95_175 : pg_at 95 175 = some (3, 4, 0, 0) := by decide +kernel
theorem i_95_176 : pg_at 95 176 = some (0, 0, 0, 10) := by decide +kernel
theorem i_95_177 : pg_at 95 177 = some (1, 12, 0, 0) := by decide +kernel
theorem i_95_178 : pg_at 95 178 = some (6, 0, 0, 0) := by decide +kernel
theorem i_95_179 : pg_at 95 179 = some (27, 0, 0, 0) := by decide +kernel
theorem i_95_180 : pg_at 95 180 = some (0, 0, 0, 1) := by decide +kernel
theorem i_95_181 : pg_at 95 181 = some (7, 0, 0, 0) := by decide +kernel
theorem i_95_182 : pg_at 95 182 = some (2, 13, 0, 0) := by decide +kernel
theorem i_95_183 : pg_at 95 183 = some (1, 12, 0, 0) := by decide +kernel
theorem i_95_184 : pg_at 95 184 = some (17, 197, 2, 0) := by decide +kernel
theorem i_95_185 : pg_at 95 185 = some (1, 13, 0, 0) := by decide +kernel
theorem i_95_186 : pg_at 95 186 = some (1, 8, 0, 0) := by decide +kernel
theorem i_95_187 : pg_at 95 187 = some (18, 197, 0, 0) := by decide +kernel
theorem i_95_188 : pg_at 95 188 = some (1, 13, 0, 0) := by decide +kernel
theorem i_95_189 : pg_at 95 189 = some (17, 193, 2, 0) := by decide +kernel
theorem i_95_190 : pg_at 95 190 = some (1, 13, 0, 0) := by decide +kernel
theorem i_95_191 : pg_at 95 191 = some (1, 9, 0, 0) := by decide +kernel
theorem i_95_192 : pg_at 95 192 = some (18, 197, 1, 0) := by decide +kernel
theorem i_95_193 : pg_at 95 193 = some (3, 4, 0, 0) := by decide +kernel
theorem i_95_194 : pg_at 95 194 = some (1, 12, 0, 0) := by decide +kernel
theorem i_95_195 : pg_at 95 195 = some (1, 8, 0, 0) := by decide +kernel
theorem i_95_196 : pg_at 95 196 = some (40, 84, 0, 74) := by decide +kernel
theorem i_95_197 : pg_at 95 197 = some (3, 0, 0, 0) := by decide +kernel
theorem i_95_198 : pg_at 95 198 = some (0, 0, 0, 9) := by decide +kernel
theorem i_95_199 : pg_at 95 199 = some (1, 8, 0, 0) := by decide +kernel
theorem i_95_200 : pg_at 95 200 = some (8, 0, 0, 0) := by decide +kernel
theorem i_95_201 : pg_at 95 201 = some (0, 0, 0, 3) := by decide +kernel
theorem i_95_202 : pg_at 95 202 = some (6, 0, 0, 0) := by decide +kernel
theorem i_95_203 : pg_at 95 203 = some (14, 0, 0, 0) := by decide +kernel
theorem i_95_204 : pg_at 95 204 = some (27, 0, 0, 0) := by decide +kernel
theorem i_95_205 : pg_at 95 205 = some (3, 3, 0, 0) := by decide +kernel
theorem i_95_206 : pg_at 95 206 = some (1, 6, 0, 0) := by decide +kernel
theorem i_95_207 : pg_at 95 207 = some (0, 0, 0, 3) := by decide +kernel
theorem i_95_208 : pg_at 95 208 = some (6, 0, 0, 0) := by decide +kernel
theorem i_95_209 : pg_at 95 209 = some (27, 0, 0, 0) := by decide +kernel
theorem i_95_210 : pg_at 95 210 = some (6, 0, 0, 0) := by decide +kernel
theorem i_95_211 : pg_at 95 211 = some (28, 0, 0, 0) := by decide +kernel
theorem i_95_212 : pg_at 95 212 = some (3, 0, 0, 0) := by decide +kernel
theorem i_95_213 : pg_at 95 213 = some (0, 0, 0, 9) := by decide +kernel
theorem i_95_214 : pg_at 95 214 = some (1, 9, 0, 0) := by decide +kernel
theorem i_95_215 : pg_at 95 215 = some (8, 0, 0, 0) := by decide +kernel
theorem i_95_216 : pg_at 95 216 = some (0, 0, 0, 3) := by decide +kernel
theorem i_95_217 : pg_at 95 217 = some (6, 0, 0, 0) := by decide +kernel
theorem i_95_218 : pg_at 95 218 = some (14, 0, 0, 0) := by decide +kernel
theorem i_95_219 : pg_at 95 219 = some (27, 0, 0, 0) := by decide +kernel
theorem i_95_220 : pg_at 95 220 = some (3, 3, 0, 0) := by decide +kernel
theorem i_95_221 : pg_at 95 221 = some (1, 6, 0, 0) := by decide +kernel
theorem i_95_222 : pg_at 95 222 = some (0, 0, 0, 3) := by decide +kernel
theorem i_95_223 : pg_at 95 223 = some (6, 0, 0, 0) := by decide +kernel
theorem i_95_224 : pg_at 95 224 = some (27, 0, 0, 0) := by decide +kernel
theorem i_95_225 : pg_at 95 225 = some (6, 0, 0, 0) := by decide +kernel
theorem i_95_226 : pg_at 95 226 = some (28, 0, 0, 0) := by decide +kernel
theorem i_95_227 : pg_at 95 227 = some (3, 0, 0, 0) := by decide +kernel
theorem i_95_228 : pg_at 95 228 = some (3, 1, 0, 0) := by decide +kernel
theorem i_95_229 : pg_at 95 229 = some (1, 8, 0, 0) := by decide +kernel
theorem i_95_230 : pg_at 95 230 = some (40, 94, 0, 78) := by decide +kernel
theorem i_95_231 : pg_at 95 231 = some (3, 0, 0, 0) := by decide +kernel
theorem i_95_232 : pg_at 95 232 = some (3, 1, 0, 0) := by decide +kernel
theorem i_95_233 : pg_at 95 233 = some (1, 9, 0, 0) := by decide +kernel
theorem i_95_234 : pg_at 95 234 = some (40, 94, 0, 78) := by decide +kernel
theorem i_95_235 : pg_at 95 235 = some (3, 4, 0, 0) := by decide +kernel
theorem i_95_236 : pg_at 95 236 = some (0, 0, 0, 14) := by decide +kernel
theorem i_95_237 : pg_at 95 237 = some (1, 7, 0, 0) := by decide +kernel
theorem i_95_238 : pg_at 95 238 = some (6, 0, 0, 0) := by decide +kernel
theorem i_95_239 : pg_at 95 239 = some (14, 0, 0, 0) := by decide +kernel
theorem i_95_240 : pg_at 95 240 = some (27, 0, 0, 0) := by decide +kernel
theorem i_95_241 : pg_at 95 241 = some (1, 10, 0, 0) := by decide +kernel
theorem i_95_242 : pg_at 95 242 = some (6, 0, 0, 0) := by decide +kernel
theorem i_95_243 : pg_at 95 243 = some (28, 0, 0, 0) := by decide +kernel
theorem i_95_244 : pg_at 95 244 = some (1, 10, 0, 0) := by decide +kernel
theorem i_95_245 : pg_at 95 245 = some (45, 0, 0, 0) := by decide +kernel
theorem mf_95 : pg_na 95 = 6 ∧ pg_ml 95 = 14 ∧ pg_cst 95 = 0 ∧ pg_cl 95 = 99 := by decide +kernel
theorem rt_95 : pg_rt 95 ≠ some .boolean := by decide +kernel
theorem hx_95 : pg_hx 95 = [] := by decide +kernel
theorem i_96_0 : pg_at 96 0 = some (1, 7, 0, 0) := by decide +kernel
theorem i_96_1 : pg_at 96 1 = some (0, 0, 0, 7) := by decide +kernel
theorem i_96_2 : pg_at 96 2 = some (10, 0, 0, 0) := by decide +kernel
theorem i_96_3 : pg_at 96 3 = some (2, 8, 0, 0) := by decide +kernel
theorem i_96_4 : pg_at 96 4 = some (1, 7, 0, 0) := by decide +kernel
theorem i_96_5 : pg_at 96 5 = some (0, 0, 0, 7) := by decide +kernel
theorem i_96_6 : pg_at 96 6 = some (9, 0, 0, 0) := by decide +kernel
theorem i_96_7 : pg_at 96 7 = some (0, 0, 0, 7) := by decide +kernel
theorem i_96_8 : pg_at 96 8 = some (10, 0, 0, 0) := by decide +kernel
theorem i_96_9 : pg_at 96 9 = some (2, 9, 0, 0) := by decide +kernel
theorem i_96_10 : pg_at 96 10 = some (1, 7, 0, 0) := by decide +kernel
theorem i_96_11 : pg_at 96 11 = some (0, 0, 0, 49) := by decide +kernel
theorem i_96_12 : pg_at 96 12 = some (9, 0, 0, 0) := by decide +kernel
theorem i_96_13 : pg_at 96 13 = some (0, 0, 0, 4) := by decide +kernel
theorem i_96_14 : pg_at 96 14 = some (10, 0, 0, 0) := by decide +kernel
theorem i_96_15 : pg_at 96 15 = some (2, 10, 0, 0) := by decide +kernel
theorem i_96_16 : pg_at 96 16 = some (3, 6, 0, 0) := by decide +kernel
theorem i_96_17 : pg_at 96 17 = some (0, 0, 0, 0) := by decide +kernel
theorem i_96_18 : pg_at 96 18 = some (27, 0, 0, 0) := by decide +kernel
theorem i_96_19 : pg_at 96 19 = some (1, 7, 0, 0) := by decide +kernel
theorem i_96_20 : pg_at 96 20 = some (0, 0, 0, 196) := by decide +kernel
theorem i_96_21 : pg_at 96 21 = some (9, 0, 0, 0) := by decide +kernel
theorem i_96_22 : pg_at 96 22 = some (0, 0, 0, 3) := by decide +kernel
theorem i_96_23 : pg_at 96 23 = some (10, 0, 0, 0) := by decide +kernel
theorem i_96_24 : pg_at 96 24 = some (6, 0, 0, 0) := by decide +kernel
theorem i_96_25 : pg_at 96 25 = some (2, 11, 0, 0) := by decide +kernel
theorem i_96_26 : pg_at 96 26 = some (1, 7, 0, 0) := by decide +kernel
theorem i_96_27 : pg_at 96 27 = some (0, 0, 0, 588) := by decide +kernel
theorem i_96_28 : pg_at 96 28 = some (9, 0, 0, 0) := by decide +kernel
theorem i_96_29 : pg_at 96 29 = some (0, 0, 0, 2) := by decide +kernel
theorem i_96_30 : pg_at 96 30 = some (10, 0, 0, 0) := by decide +kernel
theorem i_96_31 : pg_at 96 31 = some (2, 12, 0, 0) := by decide +kernel
theorem i_96_32 : pg_at 96 32 = some (0, 0, 0, 0) := by decide +kernel
theorem i_96_33 : pg_at 96 33 = some (2, 13, 0, 0) := by decide +kernel
theorem i_96_34 : pg_at 96 34 = some (0, 0, 0, 0) := by decide +kernel
theorem i_96_35 : pg_at 96 35 = some (2, 14, 0, 0) := by decide +kernel
theorem i_96_36 : pg_at 96 36 = some (1, 14, 0, 0) := by decide +kernel
theorem i_96_37 : pg_at 96 37 = some (0, 0, 0, 7) := by decide +kernel
theorem i_96_38 : pg_at 96 38 = some (18, 51, 3, 0) := by decide +kernel
theorem i_96_39 : pg_at 96 39 = some (1, 13, 0, 0) := by decide +kernel
theorem i_96_40 : pg_at 96 40 = some (3, 4, 0, 0) := by decide +kernel
theorem i_96_41 : pg_at 96 41 = some (0, 0, 0, 7) := by decide +kernel
theorem i_96_42 : pg_at 96 42 = some (1, 8, 0, 0) := by decide +kernel
theorem i_96_43 : pg_at 96 43 = some (8, 0, 0, 0) := by decide +kernel
theorem i_96_44 : pg_at 96 44 = some (1, 14, 0, 0) := by decide +kernel
theorem i_96_45 : pg_at 96 45 = some (6, 0, 0, 0) := by decide +kernel
theorem i_96_46 : pg_at 96 46 = some (27, 0, 0, 0) := by decide +kernel
theorem i_96_47 : pg_at 96 47 = some (6, 0, 0, 0) := by decide +kernel
theorem i_96_48 : pg_at 96 48 = some (2, 13, 0, 0) := by decide +kernel
theorem i_96_49 : pg_at 96 49 = some (5, 14, 0, 1) := by decide +kernel
theorem i_96_50 : pg_at 96 50 = some (16, 36, 0, 0) := by decide +kernel
theorem i_96_51 : pg_at 96 51 = some (3, 0, 0, 0) := by decide +kernel
theorem i_96_52 : pg_at 96 52 = some (41, 46, 0, 82) := by decide +kernel
theorem i_96_53 : pg_at 96 53 = some (3, 6, 0, 0) := by decide +kernel
theorem i_96_54 : pg_at 96 54 = some (0, 0, 0, 0) := by decide +kernel
theorem i_96_55 : pg_at 96 55 = some (27, 0, 0, 0) := by decide +kernel
theorem i_96_56 : pg_at 96 56 = some (18, 146, 1, 0) := by decide +kernel
theorem i_96_57 : pg_at 96 57 = some (3, 0, 0, 0) := by decide +kernel
theorem i_96_58 : pg_at 96 58 = some (1, 8, 0, 0) := by decide +kernel
theorem i_96_59 : pg_at 96 59 = some (0, 0, 0, 0) := by decide +kernel
theorem i_96_60 : pg_at 96 60 = some (41, 47, 0, 85) := by decide +kernel
theorem i_96_61 : pg_at 96 61 = some (3, 1, 0, 0) := by decide +kernel
theorem i_96_62 : pg_at 96 62 = some (0, 0, 0, 9) := by decide +kernel
theorem i_96_63 : pg_at 96 63 = some (1, 8, 0, 0) := by decide +kernel
theorem i_96_64 : pg_at 96 64 = some (8, 0, 0, 0) := by decide +kernel
theorem i_96_65 : pg_at 96 65 = some (0, 0, 0, 2) := by decide +kernel
theorem i_96_66 : pg_at 96 66 = some (6, 0, 0, 0) := by decide +kernel
theorem i_96_67 : pg_at 96 67 = some (27, 0, 0, 0) := by decide +kernel
theorem i_96_68 : pg_at 96 68 = some (18, 146, 1, 0) := by decide +kernel
theorem i_96_69 : pg_at 96 69 = some (3, 0, 0, 0) := by decide +kernel
theorem i_96_70 : pg_at 96 70 = some (1, 8, 0, 0) := by decide +kernel
theorem i_96_71 : pg_at 96 71 = some (0, 0, 0, 1) := by decide +kernel
theorem i_96_72 : pg_at 96 72 = some (41, 47, 0, 85) := by decide +kernel
theorem i_96_73 : pg_at 96 73 = some (3, 1, 0, 0) := by decide +kernel
theorem i_96_74 : pg_at 96 74 = some (0, 0, 0, 9) := by decide +kernel
theorem i_96_75 : pg_at 96 75 = some (1, 8, 0, 0) := by decide +kernel
theorem i_96_76 : pg_at 96 76 = some (8, 0, 0, 0) := by decide +kernel
theorem i_96_77 : pg_at 96 77 = some (0, 0, 0, 3) := by decide +kernel
theorem i_96_78 : pg_at 96 78 = some (6, 0, 0, 0) := by decide +kernel
theorem i_96_79 : pg_at 96 79 = some (27, 0, 0, 0) := by decide +kernel
theorem i_96_80 : pg_at 96 80 = some (18, 146, 1, 0) := by decide +kernel
theorem i_96_81 : pg_at 96 81 = some (3, 0, 0, 0) := by decide +kernel
theorem i_96_82 : pg_at 96 82 = some (1, 8, 0, 0) := by decide +kernel
theorem i_96_83 : pg_at 96 83 = some (0, 0, 0, 2) := by decide +kernel
theorem i_96_84 : pg_at 96 84 = some (41, 47, 0, 85) := by decide +kernel
theorem i_96_85 : pg_at 96 85 = some (3, 1, 0, 0) := by decide +kernel
theorem i_96_86 : pg_at 96 86 = some (1, 8, 0, 0) := by decide +kernel
theorem i_96_87 : pg_at 96 87 = some (3, 6, 0, 0) := by decide +kernel
theorem i_96_88 : pg_at 96 88 = some (0, 0, 0, 0) := by decide +kernel
theorem i_96_89 : pg_at 96 89 = some (27, 0, 0, 0) := by decide +kernel
theorem i_96_90 : pg_at 96 90 = some (40, 80, 0, 23) := by decide +kernel
theorem i_96_91 : pg_at 96 91 = some (17, 100, 0, 0) := by decide +kernel
theorem i_96_92 : pg_at 96 92 = some (3, 1, 0, 0) := by decide +kernel
theorem i_96_93 : pg_at 96 93 = some (0, 0, 0, 9) := by decide +kernel
theorem i_96_94 : pg_at 96 94 = some (1, 8, 0, 0) := by decide +kernel
theorem i_96_95 : pg_at 96 95 = some (8, 0, 0, 0) := by decide +kernel
theorem i_96_96 : pg_at 96 96 = some (0, 0, 0, 4) := by decide +kernel
theorem i_96_97 : pg_at 96 97 = some (6, 0, 0, 0) := by decide +kernel
theorem i_96_98 : pg_at 96 98 = some (27, 0, 0, 0) := by decide +kernel
theorem i_96_99 : pg_at 96 99 = some (16, 101, 0, 0) := by decide +kernel
theorem i_96_100 : pg_at 96 100 = some (0, 0, 0, 0) := by decide +kernel
theorem i_96_101 : pg_at 96 101 = some (18, 146, 1, 0) := by decide +kernel
theorem i_96_102 : pg_at 96 102 = some (3, 0, 0, 0) := by decide +kernel
theorem i_96_103 : pg_at 96 103 = some (1, 8, 0, 0) := by decide +kernel
theorem i_96_104 : pg_at 96 104 = some (0, 0, 0, 3) := by decide +kernel
theorem i_96_105 : pg_at 96 105 = some (41, 47, 0, 85) := by decide +kernel
theorem i_96_106 : pg_at 96 106 = some (3, 1, 0, 0) := by decide +kernel
theorem i_96_107 : pg_at 96 107 = some (0, 0, 0, 9) := by decide +kernel
theorem i_96_108 : pg_at 96 108 = some (1, 8, 0, 0) := by decide +kernel
theorem i_96_109 : pg_at 96 109 = some (8, 0, 0, 0) := by decide +kernel
theorem i_96_110 : pg_at 96 110 = some (0, 0, 0, 5) := by decide +kernel
theorem i_96_111 : pg_at 96 111 = some (6, 0, 0, 0) := by decide +kernel
theorem i_96_112 : pg_at 96 112 = some (27, 0, 0, 0) := by decide +kernel
theorem i_96_113 : pg_at 96 113 = some (18, 146, 1, 0) := by decide +kernel
theorem i_96_114 : pg_at 96 114 = some (3, 0, 0, 0) := by decide +kernel
theorem i_96_115 : pg_at 96 115 = some (1, 8, 0, 0) := by decide +kernel
theorem i_96_116 : pg_at 96 116 = some (0, 0, 0, 4) := by decide +kernel
theorem i_96_117 : pg_at 96 117 = some (41, 47, 0, 85) := by decide +kernel
theorem i_96_118 : pg_at 96 118 = some (1, 13, 0, 0) := by decide +kernel
theorem i_96_119 : pg_at 96 119 = some (18, 146, 1, 0) := by decide +kernel
theorem i_96_120 : pg_at 96 120 = some (3, 0, 0, 0) := by decide +kernel
theorem i_96_121 : pg_at 96 121 = some (1, 8, 0, 0) := by decide +kernel
theorem i_96_122 : pg_at 96 122 = some (0, 0, 0, 5) := by decide +kernel
theorem i_96_123 : pg_at 96 123 = some (41, 47, 0, 85) := by decide +kernel
theorem i_96_124 : pg_at 96 124 = some (3, 1, 0, 0) := by decide +kernel
theorem i_96_125 : pg_at 96 125 = some (0, 0, 0, 9) := by decide +kernel
theorem i_96_126 : pg_at 96 126 = some (1, 8, 0, 0) := by decide +kernel
theorem i_96_127 : pg_at 96 127 = some (8, 0, 0, 0) := by decide +kernel
theorem i_96_128 : pg_at 96 128 = some (0, 0, 0, 6) := by decide +kernel
theorem i_96_129 : pg_at 96 129 = some (6, 0, 0, 0) := by decide +kernel
theorem i_96_130 : pg_at 96 130 = some (27, 0, 0, 0) := by decide +kernel
theorem i_96_131 : pg_at 96 131 = some (18, 146, 1, 0) := by decide +kernel
theorem i_96_132 : pg_at 96 132 = some (3, 0, 0, 0) := by decide +kernel
theorem i_96_133 : pg_at 96 133 = some (1, 8, 0, 0) := by decide +kernel
theorem i_96_134 : pg_at 96 134 = some (0, 0, 0, 6) := by decide +kernel
theorem i_96_135 : pg_at 96 135 = some (41, 47, 0, 85) := by decide +kernel
theorem i_96_136 : pg_at 96 136 = some (3, 1, 0, 0) := by decide +kernel
theorem i_96_137 : pg_at 96 137 = some (0, 0, 0, 9) := by decide +kernel
theorem i_96_138 : pg_at 96 138 = some (1, 8, 0, 0) := by decide +kernel
theorem i_96_139 : pg_at 96 139 = some (8, 0, 0, 0) := by decide +kernel
theorem i_96_140 : pg_at 96 140 = some (0, 0, 0, 7) := by decide +kernel
theorem i_96_141 : pg_at 96 141 = some (6, 0, 0, 0) := by decide +kernel
theorem i_96_142 : pg_at 96 142 = some (27, 0, 0, 0) := by decide +kernel
theorem i_96_143 : pg_at 96 143 = some (18, 146, 1, 0) := by decide +kernel
theorem i_96_144 : pg_at 96 144 = some (0, 0, 0, 1) := by decide +kernel
theorem i_96_145 : pg_at 96 145 = some (16, 147, 0, 0) := by decide +kernel
theorem i_96_146 : pg_at 96 146 = some (0, 0, 0, 0) := by decide +kernel
theorem i_96_147 : pg_at 96 147 = some (2, 14, 0, 0) := by decide +kernel
theorem i_96_148 : pg_at 96 148 = some (1, 14, 0, 0) := by decide +kernel
theorem i_96_149 : pg_at 96 149 = some (17, 243, 0, 0) := by decide +kernel
theorem i_96_150 : pg_at 96 150 = some (3, 0, 0, 0) := by decide +kernel
theorem i_96_151 : pg_at 96 151 = some (1, 10, 0, 0) := by decide +kernel
theorem i_96_152 : pg_at 96 152 = some (1, 8, 0, 0) := by decide +kernel
theorem i_96_153 : pg_at 96 153 = some (41, 48, 0, 89) := by decide +kernel
theorem i_96_154 : pg_at 96 154 = some (3, 2, 0, 0) := by decide +kernel
theorem i_96_155 : pg_at 96 155 = some (0, 0, 0, 7) := by decide +kernel
theorem i_96_156 : pg_at 96 156 = some (1, 10, 0, 0) := by decide +kernel
theorem i_96_157 : pg_at 96 157 = some (8, 0, 0, 0) := by decide +kernel
theorem i_96_158 : pg_at 96 158 = some (1, 8, 0, 0) := by decide +kernel
theorem i_96_159 : pg_at 96 159 = some (6, 0, 0, 0) := by decide +kernel
theorem i_96_160 : pg_at 96 160 = some (27, 0, 0, 0) := by decide +kernel
theorem i_96_161 : pg_at 96 161 = some (18, 243, 1, 0) := by decide +kernel
theorem i_96_162 : pg_at 96 162 = some (3, 0, 0, 0) := by decide +kernel
theorem i_96_163 : pg_at 96 163 = some (1, 10, 0, 0) := by decide +kernel
theorem i_96_164 : pg_at 96 164 = some (1, 8, 0, 0) := by decide +kernel
theorem i_96_165 : pg_at 96 165 = some (41, 49, 0, 91) := by decide +kernel
theorem i_96_166 : pg_at 96 166 = some (3, 1, 0, 0) := by decide +kernel
theorem i_96_167 : pg_at 96 167 = some (3, 2, 0, 0) := by decide +kernel
theorem i_96_168 : pg_at 96 168 = some (1, 10, 0, 0) := by decide +kernel
theorem i_96_169 : pg_at 96 169 = some (1, 8, 0, 0) := by decide +kernel
theorem i_96_170 : pg_at 96 170 = some (40, 81, 0, 37) := by decide +kernel
theorem i_96_171 : pg_at 96 171 = some (18, 243, 1, 0) := by decide +kernel
theorem i_96_172 : pg_at 96 172 = some (3, 0, 0, 0) := by decide +kernel
theorem i_96_173 : pg_at 96 173 = some (1, 8, 0, 0) := by decide +kernel
theorem i_96_174 : pg_at 96 174 = some (1, 9, 0, 0) := by decide +kernel
theorem i_96_175 : pg_at 96 175 = some (41, 54, 0, 93) := by decide +kernel
theorem i_96_176 : pg_at 96 176 = some (3, 4, 0, 0) := by decide +kernel
theorem i_96_177 : pg_at 96 177 = some (0, 0, 0, 7) := by decide +kernel
theorem i_96_178 : pg_at 96 178 = some (1, 8, 0, 0) := by decide +kernel
theorem i_96_179 : pg_at 96 179 = some (8, 0, 0, 0) := by decide +kernel
theorem i_96_180 : pg_at 96 180 = some (1, 9, 0, 0) := by decide +kernel
theorem i_96_181 : pg_at 96 181 = some (6, 0, 0, 0) := by decide +kernel
theorem i_96_182 : pg_at 96 182 = some (27, 0, 0, 0) := by decide +kernel
theorem i_96_183 : pg_at 96 183 = some (18, 243, 1, 0) := by decide +kernel
theorem i_96_184 : pg_at 96 184 = some (3, 0, 0, 0) := by decide +kernel
theorem i_96_185 : pg_at 96 185 = some (1, 8, 0, 0) := by decide +kernel
theorem i_96_186 : pg_at 96 186 = some (1, 9, 0, 0) := by decide +kernel
theorem i_96_187 : pg_at 96 187 = some (41, 55, 0, 96) := by decide +kernel
theorem i_96_188 : pg_at 96 188 = some (3, 4, 0, 0) := by decide +kernel
theorem i_96_189 : pg_at 96 189 = some (0, 0, 0, 7) := by decide +kernel
theorem i_96_190 : pg_at 96 190 = some (1, 8, 0, 0) := by decide +kernel
theorem i_96_191 : pg_at 96 191 = some (8, 0, 0, 0) := by decide +kernel
theorem i_96_192 : pg_at 96 192 = some (1, 9, 0, 0) := by decide +kernel
theorem i_96_193 : pg_at 96 193 = some (6, 0, 0, 0) := by decide +kernel
theorem i_96_194 : pg_at 96 194 = some (27, 0, 0, 0) := by decide +kernel
theorem i_96_195 : pg_at 96 195 = some (18, 243, 1, 0) := by decide +kernel
theorem i_96_196 : pg_at 96 196 = some (3, 0, 0, 0) := by decide +kernel
theorem i_96_197 : pg_at 96 197 = some (1, 10, 0, 0) := by decide +kernel
theorem i_96_198 : pg_at 96 198 = some (41, 56, 0, 99) := by decide +kernel
theorem i_96_199 : pg_at 96 199 = some (3, 6, 0, 0) := by decide +kernel
theorem i_96_200 : pg_at 96 200 = some (0, 0, 0, 14) := by decide +kernel
theorem i_96_201 : pg_at 96 201 = some (1, 10, 0, 0) := by decide +kernel
theorem i_96_202 : pg_at 96 202 = some (6, 0, 0, 0) := by decide +kernel
theorem i_96_203 : pg_at 96 203 = some (27, 0, 0, 0) := by decide +kernel
theorem i_96_204 : pg_at 96 204 = some (18, 243, 1, 0) := by decide +kernel
theorem i_96_205 : pg_at 96 205 = some (3, 0, 0, 0) := by decide +kernel
theorem i_96_206 : pg_at 96 206 = some (1, 12, 0, 0) := by decide +kernel
theorem i_96_207 : pg_at 96 207 = some (41, 53, 0, 102) := by decide +kernel
theorem i_96_208 : pg_at 96 208 = some (3, 6, 0, 0) := by decide +kernel
theorem i_96_209 : pg_at 96 209 = some (0, 0, 0, 10) := by decide +kernel
theorem i_96_210 : pg_at 96 210 = some (1, 12, 0, 0) := by decide +kernel
theorem i_96_211 : pg_at 96 211 = some (6, 0, 0, 0) := by decide +kernel
theorem i_96_212 : pg_at 96 212 = some (27, 0, 0, 0) := by decide +kernel
theorem i_96_213 : pg_at 96 213 = some (0, 0, 0, 1) := by decide +kernel
theorem i_96_214 : pg_at 96 214 = some (7, 0, 0, 0) := by decide +kernel
theorem i_96_215 : pg_at 96 215 = some (18, 243, 1, 0) := by decide +kernel
theorem i_96_216 : pg_at 96 216 = some (3, 6, 0, 0) := by decide +kernel
theorem i_96_217 : pg_at 96 217 = some (0, 0, 0, 12) := by decide +kernel
theorem i_96_218 : pg_at 96 218 = some (1, 12, 0, 0) := by decide +kernel
theorem i_96_219 : pg_at 96 219 = some (6, 0, 0, 0) := by decide +kernel
theorem i_96_220 : pg_at 96 220 = some (27, 0, 0, 0) := by decide +kernel
theorem i_96_221 : pg_at 96 221 = some (17, 241, 0, 0) := by decide +kernel
theorem i_96_222 : pg_at 96 222 = some (3, 0, 0, 0) := by decide +kernel
theorem i_96_223 : pg_at 96 223 = some (1, 12, 0, 0) := by decide +kernel
theorem i_96_224 : pg_at 96 224 = some (3, 6, 0, 0) := by decide +kernel
theorem i_96_225 : pg_at 96 225 = some (0, 0, 0, 12) := by decide +kernel
theorem i_96_226 : pg_at 96 226 = some (1, 12, 0, 0) := by decide +kernel
theorem i_96_227 : pg_at 96 227 = some (6, 0, 0, 0) := by decide +kernel
theorem i_96_228 : pg_at 96 228 = some (27, 0, 0, 0) := by decide +kernel
theorem i_96_229 : pg_at 96 229 = some (0, 0, 0, 1) := by decide +kernel
theorem i_96_230 : pg_at 96 230 = some (7, 0, 0, 0) := by decide +kernel
theorem i_96_231 : pg_at 96 231 = some (0, 0, 0, 0) := by decide +kernel
theorem i_96_232 : pg_at 96 232 = some (41, 52, 0, 105) := by decide +kernel
theorem i_96_233 : pg_at 96 233 = some (3, 6, 0, 0) := by decide +kernel
theorem i_96_234 : pg_at 96 234 = some (0, 0, 0, 10) := by decide +kernel
theorem i_96_235 : pg_at 96 235 = some (1, 12, 0, 0) := by decide +kernel
theorem i_96_236 : pg_at 96 236 = some (6, 0, 0, 0) := by decide +kernel
theorem i_96_237 : pg_at 96 237 = some (27, 0, 0, 0) := by decide +kernel
theorem i_96_238 : pg_at 96 238 = some (0, 0, 0, 1) := by decide +kernel
theorem i_96_239 : pg_at 96 239 = some (7, 0, 0, 0) := by decide +kernel
theorem i_96_240 : pg_at 96 240 = some (18, 243, 1, 0) := by decide +kernel
theorem i_96_241 : pg_at 96 241 = some (0, 0, 0, 1) := by decide +kernel
theorem i_96_242 : pg_at 96 242 = some (16, 244, 0, 0) := by decide +kernel
theorem i_96_243 : pg_at 96 243 = some (0, 0, 0, 0) := by decide +kernel
theorem i_96_244 : pg_at 96 244 = some (2, 14, 0, 0) := by decide +kernel
theorem i_96_245 : pg_at 96 245 = some (3, 6, 0, 0) := by decide +kernel
theorem i_96_246 : pg_at 96 246 = some (1, 11, 0, 0) := by decide +kernel
theorem i_96_247 : pg_at 96 247 = some (40, 79, 0, 9) := by decide +kernel
theorem i_96_248 : pg_at 96 248 = some (2, 15, 0, 0) := by decide +kernel
theorem i_96_249 : pg_at 96 249 = some (0, 0, 0, 0) := by decide +kernel
theorem i_96_250 : pg_at 96 250 = some (2, 16, 0, 0) := by decide +kernel
theorem i_96_251 : pg_at 96 251 = some (0, 0, 0, 0) := by decide +kernel
theorem i_96_252 : pg_at 96 252 = some (2, 17, 0, 0) := by decide +kernel
theorem i_96_253 : pg_at 96 253 = some (1, 17, 0, 0) := by decide +kernel
theorem i_96_254 : pg_at 96 254 = some (1, 15, 0, 0) := by decide +kernel
theorem i_96_255 : pg_at 96 255 = some (18, 374, 3, 0) := by decide +kernel
theorem i_96_256 : pg_at 96 256 = some (1, 14, 0, 0) := by decide +kernel
theorem i_96_257 : pg_at 96 257 = some (17, 374, 0, 0) := by decide +kernel
theorem i_96_258 : pg_at 96 258 = some (3, 6, 0, 0) := by decide +kernel
theorem i_96_259 : pg_at 96 259 = some (1, 11, 0, 0) := by decide +kernel
theorem i_96_260 : pg_at 96 260 = some (40, 78, 0, 15) := by decide +kernel
theorem i_96_261 : pg_at 96 261 = some (0, 0, 0, 6) := by decide +kernel
theorem i_96_262 : pg_at 96 262 = some (1, 17, 0, 0) := by decide +kernel
theorem i_96_263 : pg_at 96 263 = some (8, 0, 0, 0) := by decide +kernel
theorem i_96_264 : pg_at 96 264 = some (6, 0, 0, 0) := by decide +kernel
theorem i_96_265 : pg_at 96 265 = some (2, 18, 0, 0) := by decide +kernel
theorem i_96_266 : pg_at 96 266 = some (3, 6, 0, 0) := by decide +kernel
theorem i_96_267 : pg_at 96 267 = some (0, 0, 0, 7) := by decide +kernel
theorem i_96_268 : pg_at 96 268 = some (1, 11, 0, 0) := by decide +kernel
theorem i_96_269 : pg_at 96 269 = some (0, 0, 0, 3) := by decide +kernel
theorem i_96_270 : pg_at 96 270 = some (10, 0, 0, 0) := by decide +kernel
theorem i_96_271 : pg_at 96 271 = some (6, 0, 0, 0) := by decide +kernel
theorem i_96_272 : pg_at 96 272 = some (27, 0, 0, 0) := by decide +kernel
theorem i_96_273 : pg_at 96 273 = some (0, 0, 0, 1) := by decide +kernel
theorem i_96_274 : pg_at 96 274 = some (18, 284, 1, 0) := by decide +kernel
theorem i_96_275 : pg_at 96 275 = some (3, 5, 0, 0) := by decide +kernel
theorem i_96_276 : pg_at 96 276 = some (1, 18, 0, 0) := by decide +kernel
theorem i_96_277 : pg_at 96 277 = some (0, 0, 0, 5) := by decide +kernel
theorem i_96_278 : pg_at 96 278 = some (6, 0, 0, 0) := by decide +kernel
theorem i_96_279 : pg_at 96 279 = some (27, 0, 0, 0) := by decide +kernel
theorem i_96_280 : pg_at 96 280 = some (0, 0, 0, 1) := by decide +kernel
theorem i_96_281 : pg_at 96 281 = some (18, 284, 1, 0) := by decide +kernel
theorem i_96_282 : pg_at 96 282 = some (0, 0, 0, 1) := by decide +kernel
theorem i_96_283 : pg_at 96 283 = some (16, 285, 0, 0) := by decide +kernel
theorem i_96_284 : pg_at 96 284 = some (0, 0, 0, 0) := by decide +kernel
theorem i_96_285 : pg_at 96 285 = some (2, 19, 0, 0) := by decide +kernel
theorem i_96_286 : pg_at 96 286 = some (1, 16, 0, 0) := by decide +kernel
theorem i_96_287 : pg_at 96 287 = some (3, 5, 0, 0) := by decide +kernel
theorem i_96_288 : pg_at 96 288 = some (1, 18, 0, 0) := by decide +kernel
theorem i_96_289 : pg_at 96 289 = some (0, 0, 0, 3) := by decide +kernel
theorem i_96_290 : pg_at 96 290 = some (6, 0, 0, 0) := by decide +kernel
theorem i_96_291 : pg_at 96 291 = some (27, 0, 0, 0) := by decide +kernel
theorem i_96_292 : pg_at 96 292 = some (6, 0, 0, 0) := by decide +kernel
theorem i_96_293 : pg_at 96 293 = some (2, 16, 0, 0) := by decide +kernel
theorem i_96_294 : pg_at 96 294 = some (3, 0, 0, 0) := by decide +kernel
theorem i_96_295 : pg_at 96 295 = some (1, 11, 0, 0) := by decide +kernel
theorem i_96_296 : pg_at 96 296 = some (1, 17, 0, 0) := by decide +kernel
theorem i_96_297 : pg_at 96 297 = some (0, 0, 0, 0) := by decide +kernel
theorem i_96_298 : pg_at 96 298 = some (41, 51, 0, 109) := by decide +kernel
theorem i_96_299 : pg_at 96 299 = some (3, 5, 0, 0) := by decide +kernel
theorem i_96_300 : pg_at 96 300 = some (1, 18, 0, 0) := by decide +kernel
theorem i_96_301 : pg_at 96 301 = some (27, 0, 0, 0) := by decide +kernel
theorem i_96_302 : pg_at 96 302 = some (18, 370, 1, 0) := by decide +kernel
theorem i_96_303 : pg_at 96 303 = some (3, 0, 0, 0) := by decide +kernel
theorem i_96_304 : pg_at 96 304 = some (1, 11, 0, 0) := by decide +kernel
theorem i_96_305 : pg_at 96 305 = some (1, 17, 0, 0) := by decide +kernel
theorem i_96_306 : pg_at 96 306 = some (0, 0, 0, 1) := by decide +kernel
theorem i_96_307 : pg_at 96 307 = some (41, 51, 0, 109) := by decide +kernel
theorem i_96_308 : pg_at 96 308 = some (3, 5, 0, 0) := by decide +kernel
theorem i_96_309 : pg_at 96 309 = some (1, 18, 0, 0) := by decide +kernel
theorem i_96_310 : pg_at 96 310 = some (0, 0, 0, 1) := by decide +kernel
theorem i_96_311 : pg_at 96 311 = some (6, 0, 0, 0) := by decide +kernel
theorem i_96_312 : pg_at 96 312 = some (27, 0, 0, 0) := by decide +kernel
theorem i_96_313 : pg_at 96 313 = some (18, 370, 1, 0) := by decide +kernel
theorem i_96_314 : pg_at 96 314 = some (3, 0, 0, 0) := by decide +kernel
theorem i_96_315 : pg_at 96 315 = some (1, 11, 0, 0) := by decide +kernel
theorem i_96_316 : pg_at 96 316 = some (1, 17, 0, 0) := by decide +kernel
theorem i_96_317 : pg_at 96 317 = some (0, 0, 0, 2) := by decide +kernel
theorem i_96_318 : pg_at 96 318 = some (41, 51, 0, 109) := by decide +kernel
theorem i_96_319 : pg_at 96 319 = some (1, 19, 0, 0) := by decide +kernel
theorem i_96_320 : pg_at 96 320 = some (17, 323, 0, 0) := by decide +kernel
theorem i_96_321 : pg_at 96 321 = some (0, 0, 0, (-1)) := by decide +kernel
theorem i_96_322 : pg_at 96 322 = some (16, 332, 0, 0) := by decide +kernel
theorem i_96_323 : pg_at 96 323 = some (3, 5, 0, 0) := by decide +kernel
theorem i_96_324 : pg_at 96 324 = some (1, 18, 0, 0) := by decide +kernel
theorem i_96_325 : pg_at 96 325 = some (3, 5, 0, 0) := by decide +kernel
theorem i_96_326 : pg_at 96 326 = some (1, 18, 0, 0) := by decide +kernel
theorem i_96_327 : pg_at 96 327 = some (0, 0, 0, 2) := by decide +kernel
theorem i_96_328 : pg_at 96 328 = some (6, 0, 0, 0) := by decide +kernel
theorem i_96_329 : pg_at 96 329 = some (27, 0, 0, 0) := by decide +kernel
theorem i_96_330 : pg_at 96 330 = some (6, 0, 0, 0) := by decide +kernel
theorem i_96_331 : pg_at 96 331 = some (27, 0, 0, 0) := by decide +kernel
theorem i_96_332 : pg_at 96 332 = some (18, 370, 1, 0) := by decide +kernel
theorem i_96_333 : pg_at 96 333 = some (3, 0, 0, 0) := by decide +kernel
theorem i_96_334 : pg_at 96 334 = some (1, 11, 0, 0) := by decide +kernel
theorem i_96_335 : pg_at 96 335 = some (1, 17, 0, 0) := by decide +kernel
theorem i_96_336 : pg_at 96 336 = some (0, 0, 0, 3) := by decide +kernel
theorem i_96_337 : pg_at 96 337 = some (41, 51, 0, 109) := by decide +kernel
theorem i_96_338 : pg_at 96 338 = some (3, 5, 0, 0) := by decide +kernel
theorem i_96_339 : pg_at 96 339 = some (1, 18, 0, 0) := by decide +kernel
theorem i_96_340 : pg_at 96 340 = some (0, 0, 0, 3) := by decide +kernel
theorem i_96_341 : pg_at 96 341 = some (6, 0, 0, 0) := by decide +kernel
theorem i_96_342 : pg_at 96 342 = some (27, 0, 0, 0) := by decide +kernel
theorem i_96_343 : pg_at 96 343 = some (18, 370, 1, 0) := by decide +kernel
theorem i_96_344 : pg_at 96 344 = some (3, 0, 0, 0) := by decide +kernel
theorem i_96_345 : pg_at 96 345 = some (1, 11, 0, 0) := by decide +kernel
theorem i_96_346 : pg_at 96 346 = some (1, 17, 0, 0) := by decide +kernel
theorem i_96_347 : pg_at 96 347 = some (0, 0, 0, 4) := by decide +kernel
theorem i_96_348 : pg_at 96 348 = some (41, 51, 0, 109) := by decide +kernel
theorem i_96_349 : pg_at 96 349 = some (3, 5, 0, 0) := by decide +kernel
theorem i_96_350 : pg_at 96 350 = some (1, 18, 0, 0) := by decide +kernel
theorem i_96_351 : pg_at 96 351 = some (0, 0, 0, 4) := by decide +kernel
theorem i_96_352 : pg_at 96 352 = some (6, 0, 0, 0) := by decide +kernel
theorem i_96_353 : pg_at 96 353 = some (27, 0, 0, 0) := by decide +kernel
theorem i_96_354 : pg_at 96 354 = some (0, 0, 0, 1) := by decide +kernel
theorem i_96_355 : pg_at 96 355 = some (7, 0, 0, 0) := by decide +kernel
theorem i_96_356 : pg_at 96 356 = some (18, 370, 1, 0) := by decide +kernel
theorem i_96_357 : pg_at 96 357 = some (3, 0, 0, 0) := by decide +kernel
theorem i_96_358 : pg_at 96 358 = some (1, 11, 0, 0) := by decide +kernel
theorem i_96_359 : pg_at 96 359 = some (1, 17, 0, 0) := by decide +kernel
theorem i_96_360 : pg_at 96 360 = some (0, 0, 0, 5) := by decide +kernel
theorem i_96_361 : pg_at 96 361 = some (41, 51, 0, 109) := by decide +kernel
theorem i_96_362 : pg_at 96 362 = some (3, 5, 0, 0) := by decide +kernel
theorem i_96_363 : pg_at 96 363 = some (1, 18, 0, 0) := by decide +kernel
theorem i_96_364 : pg_at 96 364 = some (0, 0, 0, 5) := by decide +kernel
theorem i_96_365 : pg_at 96 365 = some (6, 0, 0, 0) := by decide +kernel
theorem i_96_366 : pg_at 96 366 = some (27, 0, 0, 0) := by decide +kernel
theorem i_96_367 : pg_at 96 367 = some (18, 370, 1, 0) := by decide +kernel
theorem i_96_368 : pg_at 96 368 = some (0, 0, 0, 1) := by decide +kernel
theorem i_96_369 : pg_at 96 369 = some (16, 371, 0, 0) := by decide +kernel
theorem i_96_370 : pg_at 96 370 = some (0, 0, 0, 0) := by decide +kernel
theorem i_96_371 : pg_at 96 371 = some (2, 14, 0, 0) := by decide +kernel
theorem i_96_372 : pg_at 96 372 = some (5, 17, 0, 1) := by decide +kernel
theorem i_96_373 : pg_at 96 373 = some (16, 253, 0, 0) := by decide +kernel
theorem i_96_374 : pg_at 96 374 = some (1, 14, 0, 0) := by decide +kernel
theorem i_96_375 : pg_at 96 375 = some (17, 418, 0, 0) := by decide +kernel
theorem i_96_376 : pg_at 96 376 = some (3, 0, 0, 0) := by decide +kernel
theorem i_96_377 : pg_at 96 377 = some (1, 11, 0, 0) := by decide +kernel
theorem i_96_378 : pg_at 96 378 = some (0, 0, 0, 0) := by decide +kernel
theorem i_96_379 : pg_at 96 379 = some (41, 50, 0, 113) := by decide +kernel
theorem i_96_380 : pg_at 96 380 = some (1, 15, 0, 0) := by decide +kernel
theorem i_96_381 : pg_at 96 381 = some (17, 384, 1, 0) := by decide +kernel
theorem i_96_382 : pg_at 96 382 = some (0, 0, 0, (-1)) := by decide +kernel
theorem i_96_383 : pg_at 96 383 = some (16, 391, 0, 0) := by decide +kernel
theorem i_96_384 : pg_at 96 384 = some (3, 6, 0, 0) := by decide +kernel
theorem i_96_385 : pg_at 96 385 = some (0, 0, 0, 4) := by decide +kernel
theorem i_96_386 : pg_at 96 386 = some (1, 11, 0, 0) := by decide +kernel
theorem i_96_387 : pg_at 96 387 = some (0, 0, 0, 3) := by decide +kernel
theorem i_96_388 : pg_at 96 388 = some (10, 0, 0, 0) := by decide +kernel
theorem i_96_389 : pg_at 96 389 = some (6, 0, 0, 0) := by decide +kernel
theorem i_96_390 : pg_at 96 390 = some (27, 0, 0, 0) := by decide +kernel
theorem i_96_391 : pg_at 96 391 = some (18, 418, 1, 0) := by decide +kernel
theorem i_96_392 : pg_at 96 392 = some (3, 0, 0, 0) := by decide +kernel
theorem i_96_393 : pg_at 96 393 = some (1, 11, 0, 0) := by decide +kernel
theorem i_96_394 : pg_at 96 394 = some (0, 0, 0, 1) := by decide +kernel
theorem i_96_395 : pg_at 96 395 = some (41, 50, 0, 113) := by decide +kernel
theorem i_96_396 : pg_at 96 396 = some (1, 15, 0, 0) := by decide +kernel
theorem i_96_397 : pg_at 96 397 = some (18, 418, 1, 0) := by decide +kernel
theorem i_96_398 : pg_at 96 398 = some (3, 0, 0, 0) := by decide +kernel
theorem i_96_399 : pg_at 96 399 = some (1, 11, 0, 0) := by decide +kernel
theorem i_96_400 : pg_at 96 400 = some (0, 0, 0, 2) := by decide +kernel
theorem i_96_401 : pg_at 96 401 = some (41, 50, 0, 113) := by decide +kernel
theorem i_96_402 : pg_at 96 402 = some (1, 16, 0, 0) := by decide +kernel
theorem i_96_403 : pg_at 96 403 = some (18, 418, 1, 0) := by decide +kernel
theorem i_96_404 : pg_at 96 404 = some (3, 0, 0, 0) := by decide +kernel
theorem i_96_405 : pg_at 96 405 = some (1, 11, 0, 0) := by decide +kernel
theorem i_96_406 : pg_at 96 406 = some (0, 0, 0, 3) := by decide +kernel
theorem i_96_407 : pg_at 96 407 = some (41, 50, 0, 113) := by decide +kernel
theorem i_96_408 : pg_at 96 408 = some (3, 6, 0, 0) := by decide +kernel
theorem i_96_409 : pg_at 96 409 = some (0, 0, 0, 7) := by decide +kernel
theorem i_96_410 : pg_at 96 410 = some (1, 11, 0, 0) := by decide +kernel
theorem i_96_411 : pg_at 96 411 = some (0, 0, 0, 3) := by decide +kernel
theorem i_96_412 : pg_at 96 412 = some (10, 0, 0, 0) := by decide +kernel
theorem i_96_413 : pg_at 96 413 = some (6, 0, 0, 0) := by decide +kernel
theorem i_96_414 : pg_at 96 414 = some (27, 0, 0, 0) := by decide +kernel
theorem i_96_415 : pg_at 96 415 = some (18, 418, 1, 0) := by decide +kernel
theorem i_96_416 : pg_at 96 416 = some (0, 0, 0, 1) := by decide +kernel
theorem i_96_417 : pg_at 96 417 = some (16, 419, 0, 0) := by decide +kernel
theorem i_96_418 : pg_at 96 418 = some (0, 0, 0, 0) := by decide +kernel
theorem i_96_419 : pg_at 96 419 = some (2, 14, 0, 0) := by decide +kernel
theorem i_96_420 : pg_at 96 420 = some (3, 1, 0, 0) := by decide +kernel
theorem i_96_421 : pg_at 96 421 = some (3, 5, 0, 0) := by decide +kernel
theorem i_96_422 : pg_at 96 422 = some (3, 6, 0, 0) := by decide +kernel
theorem i_96_423 : pg_at 96 423 = some (40, 87, 0, 54) := by decide +kernel
theorem i_96_424 : pg_at 96 424 = some (2, 17, 0, 0) := by decide +kernel
theorem i_96_425 : pg_at 96 425 = some (1, 7, 0, 0) := by decide +kernel
theorem i_96_426 : pg_at 96 426 = some (0, 0, 0, 1176) := by decide +kernel
theorem i_96_427 : pg_at 96 427 = some (9, 0, 0, 0) := by decide +kernel
theorem i_96_428 : pg_at 96 428 = some (0, 0, 0, 2) := by decide +kernel
theorem i_96_429 : pg_at 96 429 = some (10, 0, 0, 0) := by decide +kernel
theorem i_96_430 : pg_at 96 430 = some (17, 480, 1, 0) := by decide +kernel
theorem i_96_431 : pg_at 96 431 = some (3, 6, 0, 0) := by decide +kernel
theorem i_96_432 : pg_at 96 432 = some (3, 6, 0, 0) := by decide +kernel
theorem i_96_433 : pg_at 96 433 = some (0, 0, 0, 0) := by decide +kernel
theorem i_96_434 : pg_at 96 434 = some (27, 0, 0, 0) := by decide +kernel
theorem i_96_435 : pg_at 96 435 = some (40, 79, 0, 9) := by decide +kernel
theorem i_96_436 : pg_at 96 436 = some (17, 480, 5, 0) := by decide +kernel
theorem i_96_437 : pg_at 96 437 = some (3, 6, 0, 0) := by decide +kernel
theorem i_96_438 : pg_at 96 438 = some (0, 0, 0, 7) := by decide +kernel
theorem i_96_439 : pg_at 96 439 = some (3, 6, 0, 0) := by decide +kernel
theorem i_96_440 : pg_at 96 440 = some (0, 0, 0, 0) := by decide +kernel
theorem i_96_441 : pg_at 96 441 = some (27, 0, 0, 0) := by decide +kernel
theorem i_96_442 : pg_at 96 442 = some (0, 0, 0, 3) := by decide +kernel
theorem i_96_443 : pg_at 96 443 = some (10, 0, 0, 0) := by decide +kernel
theorem i_96_444 : pg_at 96 444 = some (6, 0, 0, 0) := by decide +kernel
theorem i_96_445 : pg_at 96 445 = some (27, 0, 0, 0) := by decide +kernel
theorem i_96_446 : pg_at 96 446 = some (17, 480, 1, 0) := by decide +kernel
theorem i_96_447 : pg_at 96 447 = some (1, 17, 0, 0) := by decide +kernel
theorem i_96_448 : pg_at 96 448 = some (40, 88, 0, 42) := by decide +kernel
theorem i_96_449 : pg_at 96 449 = some (0, 0, 0, 4) := by decide +kernel
theorem i_96_450 : pg_at 96 450 = some (18, 480, 4, 0) := by decide +kernel
theorem i_96_451 : pg_at 96 451 = some (1, 14, 0, 0) := by decide +kernel
theorem i_96_452 : pg_at 96 452 = some (17, 480, 0, 0) := by decide +kernel
theorem i_96_453 : pg_at 96 453 = some (3, 1, 0, 0) := by decide +kernel
theorem i_96_454 : pg_at 96 454 = some (3, 2, 0, 0) := by decide +kernel
theorem i_96_455 : pg_at 96 455 = some (3, 3, 0, 0) := by decide +kernel
theorem i_96_456 : pg_at 96 456 = some (3, 5, 0, 0) := by decide +kernel
theorem i_96_457 : pg_at 96 457 = some (3, 6, 0, 0) := by decide +kernel
theorem i_96_458 : pg_at 96 458 = some (1, 17, 0, 0) := by decide +kernel
theorem i_96_459 : pg_at 96 459 = some (3, 1, 0, 0) := by decide +kernel
theorem i_96_460 : pg_at 96 460 = some (3, 2, 0, 0) := by decide +kernel
theorem i_96_461 : pg_at 96 461 = some (3, 3, 0, 0) := by decide +kernel
theorem i_96_462 : pg_at 96 462 = some (3, 5, 0, 0) := by decide +kernel
theorem i_96_463 : pg_at 96 463 = some (3, 6, 0, 0) := by decide +kernel
theorem i_96_464 : pg_at 96 464 = some (1, 17, 0, 0) := by decide +kernel
theorem i_96_465 : pg_at 96 465 = some (40, 91, 0, 58) := by decide +kernel
theorem i_96_466 : pg_at 96 466 = some (40, 89, 0, 46) := by decide +kernel
theorem i_96_467 : pg_at 96 467 = some (2, 18, 0, 0) := by decide +kernel
theorem i_96_468 : pg_at 96 468 = some (3, 0, 0, 0) := by decide +kernel
theorem i_96_469 : pg_at 96 469 = some (41, 57, 0, 116) := by decide +kernel
theorem i_96_470 : pg_at 96 470 = some (1, 18, 0, 0) := by decide +kernel
theorem i_96_471 : pg_at 96 471 = some (18, 478, 1, 0) := by decide +kernel
theorem i_96_472 : pg_at 96 472 = some (3, 0, 0, 0) := by decide +kernel
theorem i_96_473 : pg_at 96 473 = some (41, 58, 0, 119) := by decide +kernel
theorem i_96_474 : pg_at 96 474 = some (1, 18, 0, 0) := by decide +kernel
theorem i_96_475 : pg_at 96 475 = some (18, 478, 1, 0) := by decide +kernel
theorem i_96_476 : pg_at 96 476 = some (0, 0, 0, 1) := by decide +kernel
theorem i_96_477 : pg_at 96 477 = some (16, 479, 0, 0) := by decide +kernel
theorem i_96_478 : pg_at 96 478 = some (0, 0, 0, 0) := by decide +kernel
theorem i_96_479 : pg_at 96 479 = some (2, 14, 0, 0) := by decide +kernel
theorem i_96_480 : pg_at 96 480 = some (1, 14, 0, 0) := by decide +kernel
theorem i_96_481 : pg_at 96 481 = some (45, 0, 0, 0) := by decide +kernel
theorem mf_96 : pg_na 96 = 8 ∧ pg_ml 96 = 20 ∧ pg_cst 96 = 1000 ∧ pg_cl 96 = 99 := by decide +kernel
theorem rt_96 : pg_rt 96 = some .boolean := by decide +kernel
theorem hx_96 : pg_hx 96 = [] := by decide +kernel
theorem i_97_0 : pg_at 97 0 = some (1, 3, 0, 0) := by decide +kernel
theorem i_97_1 : pg_at 97 1 = some (0, 0, 0, 7) := by decide +kernel
theorem i_97_2 : pg_at 97 2 = some (10, 0, 0, 0) := by decide +kernel
theorem i_97_3 : pg_at 97 3 = some (2, 4, 0, 0) := by decide +kernel
theorem i_97_4 : pg_at 97 4 = some (1, 3, 0, 0) := by decide +kernel
theorem i_97_5 : pg_at 97 5 = some (0, 0, 0, 7) := by decide +kernel
theorem i_97_6 : pg_at 97 6 = some (9, 0, 0, 0) := by decide +kernel
theorem i_97_7 : pg_at 97 7 = some (0, 0, 0, 4) := by decide +kernel
theorem i_97_8 : pg_at 97 8 = some (10, 0, 0, 0) := by decide +kernel
theorem i_97_9 : pg_at 97 9 = some (17, 12, 1, 0) := by decide +kernel
theorem i_97_10 : pg_at 97 10 = some (0, 0, 0, 1) := by decide +kernel
theorem i_97_11 : pg_at 97 11 = some (16, 13, 0, 0) := by decide +kernel
theorem i_97_12 : pg_at 97 12 = some (0, 0, 0, 0) := by decide +kernel
theorem i_97_13 : pg_at 97 13 = some (2, 5, 0, 0) := by decide +kernel
theorem i_97_14 : pg_at 97 14 = some (0, 0, 0, 1) := by decide +kernel
theorem i_97_15 : pg_at 97 15 = some (1, 3, 0, 0) := by decide +kernel
theorem i_97_16 : pg_at 97 16 = some (0, 0, 0, 28) := by decide +kernel
theorem i_97_17 : pg_at 97 17 = some (9, 0, 0, 0) := by decide +kernel
theorem i_97_18 : pg_at 97 18 = some (1, 3, 0, 0) := by decide +kernel
theorem i_97_19 : pg_at 97 19 = some (0, 0, 0, 5) := by decide +kernel
theorem i_97_20 : pg_at 97 20 = some (9, 0, 0, 0) := by decide +kernel
theorem i_97_21 : pg_at 97 21 = some (0, 0, 0, 3) := by decide +kernel
theorem i_97_22 : pg_at 97 22 = some (10, 0, 0, 0) := by decide +kernel
theorem i_97_23 : pg_at 97 23 = some (17, 26, 1, 0) := by decide +kernel
theorem i_97_24 : pg_at 97 24 = some (0, 0, 0, 200) := by decide +kernel
theorem i_97_25 : pg_at 97 25 = some (16, 27, 0, 0) := by decide +kernel
theorem i_97_26 : pg_at 97 26 = some (0, 0, 0, 5) := by decide +kernel
theorem i_97_27 : pg_at 97 27 = some (10, 0, 0, 0) := by decide +kernel
theorem i_97_28 : pg_at 97 28 = some (6, 0, 0, 0) := by decide +kernel
theorem i_97_29 : pg_at 97 29 = some (2, 6, 0, 0) := by decide +kernel
theorem i_97_30 : pg_at 97 30 = some (3, 1, 0, 0) := by decide +kernel
theorem i_97_31 : pg_at 97 31 = some (0, 0, 0, 9) := by decide +kernel
theorem i_97_32 : pg_at 97 32 = some (1, 4, 0, 0) := by decide +kernel
theorem i_97_33 : pg_at 97 33 = some (8, 0, 0, 0) := by decide +kernel
theorem i_97_34 : pg_at 97 34 = some (0, 0, 0, 5) := by decide +kernel
theorem i_97_35 : pg_at 97 35 = some (6, 0, 0, 0) := by decide +kernel
theorem i_97_36 : pg_at 97 36 = some (14, 0, 0, 0) := by decide +kernel
theorem i_97_37 : pg_at 97 37 = some (27, 0, 0, 0) := by decide +kernel
theorem i_97_38 : pg_at 97 38 = some (1, 5, 0, 0) := by decide +kernel
theorem i_97_39 : pg_at 97 39 = some (17, 42, 0, 0) := by decide +kernel
theorem i_97_40 : pg_at 97 40 = some (0, 0, 0, 1) := by decide +kernel
theorem i_97_41 : pg_at 97 41 = some (16, 43, 0, 0) := by decide +kernel
theorem i_97_42 : pg_at 97 42 = some (0, 0, 0, 0) := by decide +kernel
theorem i_97_43 : pg_at 97 43 = some (6, 0, 0, 0) := by decide +kernel
theorem i_97_44 : pg_at 97 44 = some (28, 0, 0, 0) := by decide +kernel
theorem i_97_45 : pg_at 97 45 = some (1, 5, 0, 0) := by decide +kernel
theorem i_97_46 : pg_at 97 46 = some (17, 72, 0, 0) := by decide +kernel
theorem i_97_47 : pg_at 97 47 = some (3, 1, 0, 0) := by decide +kernel
theorem i_97_48 : pg_at 97 48 = some (0, 0, 0, 9) := by decide +kernel
theorem i_97_49 : pg_at 97 49 = some (1, 4, 0, 0) := by decide +kernel
theorem i_97_50 : pg_at 97 50 = some (8, 0, 0, 0) := by decide +kernel
theorem i_97_51 : pg_at 97 51 = some (0, 0, 0, 5) := by decide +kernel
theorem i_97_52 : pg_at 97 52 = some (6, 0, 0, 0) := by decide +kernel
theorem i_97_53 : pg_at 97 53 = some (27, 0, 0, 0) := by decide +kernel
theorem i_97_54 : pg_at 97 54 = some (0, 0, 0, 2) := by decide +kernel
theorem i_97_55 : pg_at 97 55 = some (18, 58, 5, 0) := by decide +kernel
theorem i_97_56 : pg_at 97 56 = some (0, 0, 0, 10000) := by decide +kernel
theorem i_97_57 : pg_at 97 57 = some (16, 77, 0, 0) := by decide +kernel
theorem i_97_58 : pg_at 97 58 = some (3, 2, 0, 0) := by decide +kernel
theorem i_97_59 : pg_at 97 59 = some (0, 0, 0, 0) := by decide +kernel
theorem i_97_60 : pg_at 97 60 = some (27, 0, 0, 0) := by decide +kernel
theorem i_97_61 : pg_at 97 61 = some (0, 0, 0, 30) := by decide +kernel
theorem i_97_62 : pg_at 97 62 = some (3, 1, 0, 0) := by decide +kernel
theorem i_97_63 : pg_at 97 63 = some (0, 0, 0, 9) := by decide +kernel
theorem i_97_64 : pg_at 97 64 = some (1, 4, 0, 0) := by decide +kernel
theorem i_97_65 : pg_at 97 65 = some (8, 0, 0, 0) := by decide +kernel
theorem i_97_66 : pg_at 97 66 = some (0, 0, 0, 5) := by decide +kernel
theorem i_97_67 : pg_at 97 67 = some (6, 0, 0, 0) := by decide +kernel
theorem i_97_68 : pg_at 97 68 = some (27, 0, 0, 0) := by decide +kernel
theorem i_97_69 : pg_at 97 69 = some (8, 0, 0, 0) := by decide +kernel
theorem i_97_70 : pg_at 97 70 = some (6, 0, 0, 0) := by decide +kernel
theorem i_97_71 : pg_at 97 71 = some (16, 77, 0, 0) := by decide +kernel
theorem i_97_72 : pg_at 97 72 = some (3, 2, 0, 0) := by decide +kernel
theorem i_97_73 : pg_at 97 73 = some (0, 0, 0, 0) := by decide +kernel
theorem i_97_74 : pg_at 97 74 = some (27, 0, 0, 0) := by decide +kernel
theorem i_97_75 : pg_at 97 75 = some (1, 6, 0, 0) := by decide +kernel
theorem i_97_76 : pg_at 97 76 = some (6, 0, 0, 0) := by decide +kernel
theorem i_97_77 : pg_at 97 77 = some (2, 7, 0, 0) := by decide +kernel
theorem i_97_78 : pg_at 97 78 = some (3, 1, 0, 0) := by decide +kernel
theorem i_97_79 : pg_at 97 79 = some (0, 0, 0, 9) := by decide +kernel
theorem i_97_80 : pg_at 97 80 = some (1, 4, 0, 0) := by decide +kernel
theorem i_97_81 : pg_at 97 81 = some (8, 0, 0, 0) := by decide +kernel
theorem i_97_82 : pg_at 97 82 = some (0, 0, 0, 4) := by decide +kernel
theorem i_97_83 : pg_at 97 83 = some (6, 0, 0, 0) := by decide +kernel
theorem i_97_84 : pg_at 97 84 = some (3, 1, 0, 0) := by decide +kernel
theorem i_97_85 : pg_at 97 85 = some (0, 0, 0, 9) := by decide +kernel
theorem i_97_86 : pg_at 97 86 = some (1, 4, 0, 0) := by decide +kernel
theorem i_97_87 : pg_at 97 87 = some (8, 0, 0, 0) := by decide +kernel
theorem i_97_88 : pg_at 97 88 = some (0, 0, 0, 4) := by decide +kernel
theorem i_97_89 : pg_at 97 89 = some (6, 0, 0, 0) := by decide +kernel
theorem i_97_90 : pg_at 97 90 = some (27, 0, 0, 0) := by decide +kernel
theorem i_97_91 : pg_at 97 91 = some (1, 7, 0, 0) := by decide +kernel
theorem i_97_92 : pg_at 97 92 = some (18, 101, 5, 0) := by decide +kernel
theorem i_97_93 : pg_at 97 93 = some (3, 1, 0, 0) := by decide +kernel
theorem i_97_94 : pg_at 97 94 = some (0, 0, 0, 9) := by decide +kernel
theorem i_97_95 : pg_at 97 95 = some (1, 4, 0, 0) := by decide +kernel
theorem i_97_96 : pg_at 97 96 = some (8, 0, 0, 0) := by decide +kernel
theorem i_97_97 : pg_at 97 97 = some (0, 0, 0, 4) := by decide +kernel
theorem i_97_98 : pg_at 97 98 = some (6, 0, 0, 0) := by decide +kernel
theorem i_97_99 : pg_at 97 99 = some (27, 0, 0, 0) := by decide +kernel
theorem i_97_100 : pg_at 97 100 = some (16, 102, 0, 0) := by decide +kernel
theorem i_97_101 : pg_at 97 101 = some (1, 7, 0, 0) := by decide +kernel
theorem i_97_102 : pg_at 97 102 = some (28, 0, 0, 0) := by decide +kernel
theorem i_97_103 : pg_at 97 103 = some (0, 0, 0, 0) := by decide +kernel
theorem i_97_104 : pg_at 97 104 = some (2, 8, 0, 0) := by decide +kernel
theorem i_97_105 : pg_at 97 105 = some (1, 8, 0, 0) := by decide +kernel
theorem i_97_106 : pg_at 97 106 = some (0, 0, 0, 2) := by decide +kernel
theorem i_97_107 : pg_at 97 107 = some (18, 136, 3, 0) := by decide +kernel
theorem i_97_108 : pg_at 97 108 = some (3, 2, 0, 0) := by decide +kernel
theorem i_97_109 : pg_at 97 109 = some (0, 0, 0, 10) := by decide +kernel
theorem i_97_110 : pg_at 97 110 = some (1, 8, 0, 0) := by decide +kernel
theorem i_97_111 : pg_at 97 111 = some (6, 0, 0, 0) := by decide +kernel
theorem i_97_112 : pg_at 97 112 = some (27, 0, 0, 0) := by decide +kernel
theorem i_97_113 : pg_at 97 113 = some (1, 4, 0, 0) := by decide +kernel
theorem i_97_114 : pg_at 97 114 = some (0, 0, 0, 1) := by decide +kernel
theorem i_97_115 : pg_at 97 115 = some (6, 0, 0, 0) := by decide +kernel
theorem i_97_116 : pg_at 97 116 = some (18, 134, 1, 0) := by decide +kernel
theorem i_97_117 : pg_at 97 117 = some (3, 1, 0, 0) := by decide +kernel
theorem i_97_118 : pg_at 97 118 = some (0, 0, 0, 9) := by decide +kernel
theorem i_97_119 : pg_at 97 119 = some (1, 4, 0, 0) := by decide +kernel
theorem i_97_120 : pg_at 97 120 = some (8, 0, 0, 0) := by decide +kernel
theorem i_97_121 : pg_at 97 121 = some (0, 0, 0, 4) := by decide +kernel
theorem i_97_122 : pg_at 97 122 = some (6, 0, 0, 0) := by decide +kernel
theorem i_97_123 : pg_at 97 123 = some (27, 0, 0, 0) := by decide +kernel
theorem i_97_124 : pg_at 97 124 = some (3, 2, 0, 0) := by decide +kernel
theorem i_97_125 : pg_at 97 125 = some (0, 0, 0, 0) := by decide +kernel
theorem i_97_126 : pg_at 97 126 = some (27, 0, 0, 0) := by decide +kernel
theorem i_97_127 : pg_at 97 127 = some (0, 0, 0, 60) := by decide +kernel
theorem i_97_128 : pg_at 97 128 = some (6, 0, 0, 0) := by decide +kernel
theorem i_97_129 : pg_at 97 129 = some (18, 134, 5, 0) := by decide +kernel
theorem i_97_130 : pg_at 97 130 = some (3, 2, 0, 0) := by decide +kernel
theorem i_97_131 : pg_at 97 131 = some (1, 8, 0, 0) := by decide +kernel
theorem i_97_132 : pg_at 97 132 = some (0, 0, 0, (-1)) := by decide +kernel
theorem i_97_133 : pg_at 97 133 = some (40, 84, 0, 74) := by decide +kernel
theorem i_97_134 : pg_at 97 134 = some (5, 8, 0, 1) := by decide +kernel
theorem i_97_135 : pg_at 97 135 = some (16, 105, 0, 0) := by decide +kernel
theorem i_97_136 : pg_at 97 136 = some (1, 5, 0, 0) := by decide +kernel
theorem i_97_137 : pg_at 97 137 = some (17, 142, 0, 0) := by decide +kernel
theorem i_97_138 : pg_at 97 138 = some (3, 0, 0, 0) := by decide +kernel
theorem i_97_139 : pg_at 97 139 = some (1, 4, 0, 0) := by decide +kernel
theorem i_97_140 : pg_at 97 140 = some (41, 41, 0, 122) := by decide +kernel
theorem i_97_141 : pg_at 97 141 = some (16, 146, 0, 0) := by decide +kernel
theorem i_97_142 : pg_at 97 142 = some (3, 0, 0, 0) := by decide +kernel
theorem i_97_143 : pg_at 97 143 = some (1, 4, 0, 0) := by decide +kernel
theorem i_97_144 : pg_at 97 144 = some (1, 6, 0, 0) := by decide +kernel
theorem i_97_145 : pg_at 97 145 = some (41, 40, 0, 125) := by decide +kernel
theorem i_97_146 : pg_at 97 146 = some (3, 1, 0, 0) := by decide +kernel
theorem i_97_147 : pg_at 97 147 = some (0, 0, 0, 9) := by decide +kernel
theorem i_97_148 : pg_at 97 148 = some (1, 4, 0, 0) := by decide +kernel
theorem i_97_149 : pg_at 97 149 = some (8, 0, 0, 0) := by decide +kernel
theorem i_97_150 : pg_at 97 150 = some (0, 0, 0, 4) := by decide +kernel
theorem i_97_151 : pg_at 97 151 = some (6, 0, 0, 0) := by decide +kernel
theorem i_97_152 : pg_at 97 152 = some (27, 0, 0, 0) := by decide +kernel
theorem i_97_153 : pg_at 97 153 = some (18, 156, 1, 0) := by decide +kernel
theorem i_97_154 : pg_at 97 154 = some (0, 0, 0, 1) := by decide +kernel
theorem i_97_155 : pg_at 97 155 = some (16, 157, 0, 0) := by decide +kernel
theorem i_97_156 : pg_at 97 156 = some (0, 0, 0, 0) := by decide +kernel
theorem i_97_157 : pg_at 97 157 = some (45, 0, 0, 0) := by decide +kernel
theorem mf_97 : pg_na 97 = 4 ∧ pg_ml 97 = 9 ∧ pg_cst 97 = 14 ∧ pg_cl 97 = 99 := by decide +kernel
theorem rt_97 : pg_rt 97 = some .boolean := by decide +kernel
theorem hx_97 : pg_hx 97 = [] := by decide +kernel
theorem i_98_0 : pg_at 98 0 = some (1, 7, 0, 0) := by decide +kernel
theorem i_98_1 : pg_at 98 1 = some (0, 0, 0, 7) := by decide +kernel
theorem i_98_2 : pg_at 98 2 = some (10, 0, 0, 0) := by decide +kernel
theorem i_98_3 : pg_at 98 3 = some (2, 8, 0, 0) := by decide +kernel
theorem i_98_4 : pg_at 98 4 = some (1, 8, 0, 0) := by decide +kernel
theorem i_98_5 : pg_at 98 5 = some (0, 0, 0, 1) := by decide +kernel
theorem i_98_6 : pg_at 98 6 = some (6, 0, 0, 0) := by decide +kernel
theorem i_98_7 : pg_at 98 7 = some (1, 7, 0, 0) := by decide +kernel
theorem i_98_8 : pg_at 98 8 = some (0, 0, 0, 7) := by decide +kernel
theorem i_98_9 : pg_at 98 9 = some (9, 0, 0, 0) := by decide +kernel
theorem i_98_10 : pg_at 98 10 = some (0, 0, 0, 6) := by decide +kernel
theorem i_98_11 : pg_at 98 11 = some (10, 0, 0, 0) := by decide +kernel
theorem i_98_12 : pg_at 98 12 = some (6, 0, 0, 0) := by decide +kernel
theorem i_98_13 : pg_at 98 13 = some (0, 0, 0, 7) := by decide +kernel
theorem i_98_14 : pg_at 98 14 = some (10, 0, 0, 0) := by decide +kernel
theorem i_98_15 : pg_at 98 15 = some (2, 9, 0, 0) := by decide +kernel
theorem i_98_16 : pg_at 98 16 = some (1, 6, 0, 0) := by decide +kernel
theorem i_98_17 : pg_at 98 17 = some (17, 73, 1, 0) := by decide +kernel
theorem i_98_18 : pg_at 98 18 = some (3, 3, 0, 0) := by decide +kernel
theorem i_98_19 : pg_at 98 19 = some (0, 0, 0, 7) := by decide +kernel
theorem i_98_20 : pg_at 98 20 = some (1, 8, 0, 0) := by decide +kernel
theorem i_98_21 : pg_at 98 21 = some (8, 0, 0, 0) := by decide +kernel
theorem i_98_22 : pg_at 98 22 = some (1, 9, 0, 0) := by decide +kernel
theorem i_98_23 : pg_at 98 23 = some (6, 0, 0, 0) := by decide +kernel
theorem i_98_24 : pg_at 98 24 = some (27, 0, 0, 0) := by decide +kernel
theorem i_98_25 : pg_at 98 25 = some (0, 0, 0, 1) := by decide +kernel
theorem i_98_26 : pg_at 98 26 = some (7, 0, 0, 0) := by decide +kernel
theorem i_98_27 : pg_at 98 27 = some (2, 10, 0, 0) := by decide +kernel
theorem i_98_28 : pg_at 98 28 = some (3, 3, 0, 0) := by decide +kernel
theorem i_98_29 : pg_at 98 29 = some (0, 0, 0, 7) := by decide +kernel
theorem i_98_30 : pg_at 98 30 = some (1, 8, 0, 0) := by decide +kernel
theorem i_98_31 : pg_at 98 31 = some (8, 0, 0, 0) := by decide +kernel
theorem i_98_32 : pg_at 98 32 = some (1, 9, 0, 0) := by decide +kernel
theorem i_98_33 : pg_at 98 33 = some (6, 0, 0, 0) := by decide +kernel
theorem i_98_34 : pg_at 98 34 = some (1, 7, 0, 0) := by decide +kernel
theorem i_98_35 : pg_at 98 35 = some (0, 0, 0, 42) := by decide +kernel
theorem i_98_36 : pg_at 98 36 = some (9, 0, 0, 0) := by decide +kernel
theorem i_98_37 : pg_at 98 37 = some (0, 0, 0, 3) := by decide +kernel
theorem i_98_38 : pg_at 98 38 = some (10, 0, 0, 0) := by decide +kernel
theorem i_98_39 : pg_at 98 39 = some (17, 42, 1, 0) := by decide +kernel
theorem i_98_40 : pg_at 98 40 = some (0, 0, 0, 0) := by decide +kernel
theorem i_98_41 : pg_at 98 41 = some (16, 53, 0, 0) := by decide +kernel
theorem i_98_42 : pg_at 98 42 = some (3, 5, 0, 0) := by decide +kernel
theorem i_98_43 : pg_at 98 43 = some (0, 0, 0, 0) := by decide +kernel
theorem i_98_44 : pg_at 98 44 = some (27, 0, 0, 0) := by decide +kernel
theorem i_98_45 : pg_at 98 45 = some (1, 7, 0, 0) := by decide +kernel
theorem i_98_46 : pg_at 98 46 = some (0, 0, 0, 126) := by decide +kernel
theorem i_98_47 : pg_at 98 47 = some (9, 0, 0, 0) := by decide +kernel
theorem i_98_48 : pg_at 98 48 = some (0, 0, 0, 5) := by decide +kernel
theorem i_98_49 : pg_at 98 49 = some (10, 0, 0, 0) := by decide +kernel
theorem i_98_50 : pg_at 98 50 = some (6, 0, 0, 0) := by decide +kernel
theorem i_98_51 : pg_at 98 51 = some (0, 0, 0, 1) := by decide +kernel
theorem i_98_52 : pg_at 98 52 = some (6, 0, 0, 0) := by decide +kernel
theorem i_98_53 : pg_at 98 53 = some (28, 0, 0, 0) := by decide +kernel
theorem i_98_54 : pg_at 98 54 = some (3, 0, 0, 0) := by decide +kernel
theorem i_98_55 : pg_at 98 55 = some (1, 8, 0, 0) := by decide +kernel
theorem i_98_56 : pg_at 98 56 = some (1, 9, 0, 0) := by decide +kernel
theorem i_98_57 : pg_at 98 57 = some (3, 3, 0, 0) := by decide +kernel
theorem i_98_58 : pg_at 98 58 = some (0, 0, 0, 7) := by decide +kernel
theorem i_98_59 : pg_at 98 59 = some (1, 8, 0, 0) := by decide +kernel
theorem i_98_60 : pg_at 98 60 = some (8, 0, 0, 0) := by decide +kernel
theorem i_98_61 : pg_at 98 61 = some (1, 9, 0, 0) := by decide +kernel
theorem i_98_62 : pg_at 98 62 = some (6, 0, 0, 0) := by decide +kernel
theorem i_98_63 : pg_at 98 63 = some (27, 0, 0, 0) := by decide +kernel
theorem i_98_64 : pg_at 98 64 = some (0, 0, 0, 1) := by decide +kernel
theorem i_98_65 : pg_at 98 65 = some (7, 0, 0, 0) := by decide +kernel
theorem i_98_66 : pg_at 98 66 = some (41, 35, 0, 128) := by decide +kernel
theorem i_98_67 : pg_at 98 67 = some (1, 10, 0, 0) := by decide +kernel
theorem i_98_68 : pg_at 98 68 = some (18, 71, 1, 0) := by decide +kernel
theorem i_98_69 : pg_at 98 69 = some (0, 0, 0, 1) := by decide +kernel
theorem i_98_70 : pg_at 98 70 = some (16, 72, 0, 0) := by decide +kernel
theorem i_98_71 : pg_at 98 71 = some (0, 0, 0, 0) := by decide +kernel
theorem i_98_72 : pg_at 98 72 = some (45, 0, 0, 0) := by decide +kernel
theorem i_98_73 : pg_at 98 73 = some (1, 6, 0, 0) := by decide +kernel
theorem i_98_74 : pg_at 98 74 = some (0, 0, 0, 1) := by decide +kernel
theorem i_98_75 : pg_at 98 75 = some (18, 134, 1, 0) := by decide +kernel
theorem i_98_76 : pg_at 98 76 = some (3, 1, 0, 0) := by decide +kernel
theorem i_98_77 : pg_at 98 77 = some (0, 0, 0, 9) := by decide +kernel
theorem i_98_78 : pg_at 98 78 = some (1, 8, 0, 0) := by decide +kernel
theorem i_98_79 : pg_at 98 79 = some (8, 0, 0, 0) := by decide +kernel
theorem i_98_80 : pg_at 98 80 = some (0, 0, 0, 8) := by decide +kernel
theorem i_98_81 : pg_at 98 81 = some (6, 0, 0, 0) := by decide +kernel
theorem i_98_82 : pg_at 98 82 = some (27, 0, 0, 0) := by decide +kernel
theorem i_98_83 : pg_at 98 83 = some (0, 0, 0, 2) := by decide +kernel
theorem i_98_84 : pg_at 98 84 = some (9, 0, 0, 0) := by decide +kernel
theorem i_98_85 : pg_at 98 85 = some (2, 10, 0, 0) := by decide +kernel
theorem i_98_86 : pg_at 98 86 = some (1, 7, 0, 0) := by decide +kernel
theorem i_98_87 : pg_at 98 87 = some (0, 0, 0, 42) := by decide +kernel
theorem i_98_88 : pg_at 98 88 = some (9, 0, 0, 0) := by decide +kernel
theorem i_98_89 : pg_at 98 89 = some (0, 0, 0, 3) := by decide +kernel
theorem i_98_90 : pg_at 98 90 = some (10, 0, 0, 0) := by decide +kernel
theorem i_98_91 : pg_at 98 91 = some (17, 94, 1, 0) := by decide +kernel
theorem i_98_92 : pg_at 98 92 = some (0, 0, 0, 0) := by decide +kernel
theorem i_98_93 : pg_at 98 93 = some (16, 103, 0, 0) := by decide +kernel
theorem i_98_94 : pg_at 98 94 = some (3, 5, 0, 0) := by decide +kernel
theorem i_98_95 : pg_at 98 95 = some (0, 0, 0, 0) := by decide +kernel
theorem i_98_96 : pg_at 98 96 = some (27, 0, 0, 0) := by decide +kernel
theorem i_98_97 : pg_at 98 97 = some (1, 7, 0, 0) := by decide +kernel
theorem i_98_98 : pg_at 98 98 = some (0, 0, 0, 126) := by decide +kernel
theorem i_98_99 : pg_at 98 99 = some (9, 0, 0, 0) := by decide +kernel
theorem i_98_100 : pg_at 98 100 = some (0, 0, 0, 4) := by decide +kernel
theorem i_98_101 : pg_at 98 101 = some (10, 0, 0, 0) := by decide +kernel
theorem i_98_102 : pg_at 98 102 = some (6, 0, 0, 0) := by decide +kernel
theorem i_98_103 : pg_at 98 103 = some (2, 11, 0, 0) := by decide +kernel
theorem i_98_104 : pg_at 98 104 = some (3, 1, 0, 0) := by decide +kernel
theorem i_98_105 : pg_at 98 105 = some (0, 0, 0, 9) := by decide +kernel
theorem i_98_106 : pg_at 98 106 = some (1, 8, 0, 0) := by decide +kernel
theorem i_98_107 : pg_at 98 107 = some (8, 0, 0, 0) := by decide +kernel
theorem i_98_108 : pg_at 98 108 = some (0, 0, 0, 8) := by decide +kernel
theorem i_98_109 : pg_at 98 109 = some (6, 0, 0, 0) := by decide +kernel
theorem i_98_110 : pg_at 98 110 = some (0, 0, 0, 2) := by decide +kernel
theorem i_98_111 : pg_at 98 111 = some (1, 11, 0, 0) := by decide +kernel
theorem i_98_112 : pg_at 98 112 = some (8, 0, 0, 0) := by decide +kernel
theorem i_98_113 : pg_at 98 113 = some (3, 1, 0, 0) := by decide +kernel
theorem i_98_114 : pg_at 98 114 = some (0, 0, 0, 9) := by decide +kernel
theorem i_98_115 : pg_at 98 115 = some (1, 8, 0, 0) := by decide +kernel
theorem i_98_116 : pg_at 98 116 = some (8, 0, 0, 0) := by decide +kernel
theorem i_98_117 : pg_at 98 117 = some (0, 0, 0, 8) := by decide +kernel
theorem i_98_118 : pg_at 98 118 = some (6, 0, 0, 0) := by decide +kernel
theorem i_98_119 : pg_at 98 119 = some (27, 0, 0, 0) := by decide +kernel
theorem i_98_120 : pg_at 98 120 = some (0, 0, 0, 2) := by decide +kernel
theorem i_98_121 : pg_at 98 121 = some (10, 0, 0, 0) := by decide +kernel
theorem i_98_122 : pg_at 98 122 = some (6, 0, 0, 0) := by decide +kernel
theorem i_98_123 : pg_at 98 123 = some (28, 0, 0, 0) := by decide +kernel
theorem i_98_124 : pg_at 98 124 = some (3, 0, 0, 0) := by decide +kernel
theorem i_98_125 : pg_at 98 125 = some (1, 8, 0, 0) := by decide +kernel
theorem i_98_126 : pg_at 98 126 = some (1, 11, 0, 0) := by decide +kernel
theorem i_98_127 : pg_at 98 127 = some (41, 36, 0, 131) := by decide +kernel
theorem i_98_128 : pg_at 98 128 = some (1, 10, 0, 0) := by decide +kernel
theorem i_98_129 : pg_at 98 129 = some (18, 132, 1, 0) := by decide +kernel
theorem i_98_130 : pg_at 98 130 = some (0, 0, 0, 1) := by decide +kernel
theorem i_98_131 : pg_at 98 131 = some (16, 133, 0, 0) := by decide +kernel
theorem i_98_132 : pg_at 98 132 = some (0, 0, 0, 0) := by decide +kernel
theorem i_98_133 : pg_at 98 133 = some (45, 0, 0, 0) := by decide +kernel
theorem i_98_134 : pg_at 98 134 = some (1, 6, 0, 0) := by decide +kernel
theorem i_98_135 : pg_at 98 135 = some (0, 0, 0, 2) := by decide +kernel
theorem i_98_136 : pg_at 98 136 = some (18, 242, 1, 0) := by decide +kernel
theorem i_98_137 : pg_at 98 137 = some (1, 7, 0, 0) := by decide +kernel
theorem i_98_138 : pg_at 98 138 = some (0, 0, 0, 7) := by decide +kernel
theorem i_98_139 : pg_at 98 139 = some (9, 0, 0, 0) := by decide +kernel
theorem i_98_140 : pg_at 98 140 = some (0, 0, 0, 4) := by decide +kernel
theorem i_98_141 : pg_at 98 141 = some (10, 0, 0, 0) := by decide +kernel
theorem i_98_142 : pg_at 98 142 = some (2, 10, 0, 0) := by decide +kernel
theorem i_98_143 : pg_at 98 143 = some (1, 7, 0, 0) := by decide +kernel
theorem i_98_144 : pg_at 98 144 = some (0, 0, 0, 28) := by decide +kernel
theorem i_98_145 : pg_at 98 145 = some (9, 0, 0, 0) := by decide +kernel
theorem i_98_146 : pg_at 98 146 = some (0, 0, 0, 10) := by decide +kernel
theorem i_98_147 : pg_at 98 147 = some (10, 0, 0, 0) := by decide +kernel
theorem i_98_148 : pg_at 98 148 = some (2, 11, 0, 0) := by decide +kernel
theorem i_98_149 : pg_at 98 149 = some (3, 1, 0, 0) := by decide +kernel
theorem i_98_150 : pg_at 98 150 = some (1, 8, 0, 0) := by decide +kernel
theorem i_98_151 : pg_at 98 151 = some (3, 5, 0, 0) := by decide +kernel
theorem i_98_152 : pg_at 98 152 = some (0, 0, 0, 0) := by decide +kernel
theorem i_98_153 : pg_at 98 153 = some (27, 0, 0, 0) := by decide +kernel
theorem i_98_154 : pg_at 98 154 = some (40, 80, 0, 23) := by decide +kernel
theorem i_98_155 : pg_at 98 155 = some (17, 167, 1, 0) := by decide +kernel
theorem i_98_156 : pg_at 98 156 = some (3, 1, 0, 0) := by decide +kernel
theorem i_98_157 : pg_at 98 157 = some (0, 0, 0, 9) := by decide +kernel
theorem i_98_158 : pg_at 98 158 = some (1, 8, 0, 0) := by decide +kernel
theorem i_98_159 : pg_at 98 159 = some (8, 0, 0, 0) := by decide +kernel
theorem i_98_160 : pg_at 98 160 = some (0, 0, 0, 8) := by decide +kernel
theorem i_98_161 : pg_at 98 161 = some (6, 0, 0, 0) := by decide +kernel
theorem i_98_162 : pg_at 98 162 = some (27, 0, 0, 0) := by decide +kernel
theorem i_98_163 : pg_at 98 163 = some (0, 0, 0, 2) := by decide +kernel
theorem i_98_164 : pg_at 98 164 = some (10, 0, 0, 0) := by decide +kernel
theorem i_98_165 : pg_at 98 165 = some (0, 0, 0, 1) := by decide +kernel
theorem i_98_166 : pg_at 98 166 = some (18, 169, 1, 0) := by decide +kernel
theorem i_98_167 : pg_at 98 167 = some (0, 0, 0, 1) := by decide +kernel
theorem i_98_168 : pg_at 98 168 = some (45, 0, 0, 0) := by decide +kernel
theorem i_98_169 : pg_at 98 169 = some (3, 1, 0, 0) := by decide +kernel
theorem i_98_170 : pg_at 98 170 = some (0, 0, 0, 9) := by decide +kernel
theorem i_98_171 : pg_at 98 171 = some (1, 8, 0, 0) := by decide +kernel
theorem i_98_172 : pg_at 98 172 = some (8, 0, 0, 0) := by decide +kernel
theorem i_98_173 : pg_at 98 173 = some (0, 0, 0, 1) := by decide +kernel
theorem i_98_174 : pg_at 98 174 = some (6, 0, 0, 0) := by decide +kernel
theorem i_98_175 : pg_at 98 175 = some (27, 0, 0, 0) := by decide +kernel
theorem i_98_176 : pg_at 98 176 = some (0, 0, 0, 10) := by decide +kernel
theorem i_98_177 : pg_at 98 177 = some (9, 0, 0, 0) := by decide +kernel
theorem i_98_178 : pg_at 98 178 = some (1, 11, 0, 0) := by decide +kernel
theorem i_98_179 : pg_at 98 179 = some (18, 192, 5, 0) := by decide +kernel
theorem i_98_180 : pg_at 98 180 = some (3, 1, 0, 0) := by decide +kernel
theorem i_98_181 : pg_at 98 181 = some (0, 0, 0, 9) := by decide +kernel
theorem i_98_182 : pg_at 98 182 = some (1, 8, 0, 0) := by decide +kernel
theorem i_98_183 : pg_at 98 183 = some (8, 0, 0, 0) := by decide +kernel
theorem i_98_184 : pg_at 98 184 = some (0, 0, 0, 1) := by decide +kernel
theorem i_98_185 : pg_at 98 185 = some (6, 0, 0, 0) := by decide +kernel
theorem i_98_186 : pg_at 98 186 = some (27, 0, 0, 0) := by decide +kernel
theorem i_98_187 : pg_at 98 187 = some (0, 0, 0, 10) := by decide +kernel
theorem i_98_188 : pg_at 98 188 = some (9, 0, 0, 0) := by decide +kernel
theorem i_98_189 : pg_at 98 189 = some (1, 11, 0, 0) := by decide +kernel
theorem i_98_190 : pg_at 98 190 = some (7, 0, 0, 0) := by decide +kernel
theorem i_98_191 : pg_at 98 191 = some (16, 193, 0, 0) := by decide +kernel
theorem i_98_192 : pg_at 98 192 = some (0, 0, 0, 0) := by decide +kernel
theorem i_98_193 : pg_at 98 193 = some (2, 12, 0, 0) := by decide +kernel
theorem i_98_194 : pg_at 98 194 = some (3, 1, 0, 0) := by decide +kernel
theorem i_98_195 : pg_at 98 195 = some (0, 0, 0, 9) := by decide +kernel
theorem i_98_196 : pg_at 98 196 = some (1, 8, 0, 0) := by decide +kernel
theorem i_98_197 : pg_at 98 197 = some (8, 0, 0, 0) := by decide +kernel
theorem i_98_198 : pg_at 98 198 = some (0, 0, 0, 8) := by decide +kernel
theorem i_98_199 : pg_at 98 199 = some (6, 0, 0, 0) := by decide +kernel
theorem i_98_200 : pg_at 98 200 = some (14, 0, 0, 0) := by decide +kernel
theorem i_98_201 : pg_at 98 201 = some (27, 0, 0, 0) := by decide +kernel
theorem i_98_202 : pg_at 98 202 = some (0, 0, 0, 1) := by decide +kernel
theorem i_98_203 : pg_at 98 203 = some (6, 0, 0, 0) := by decide +kernel
theorem i_98_204 : pg_at 98 204 = some (28, 0, 0, 0) := by decide +kernel
theorem i_98_205 : pg_at 98 205 = some (3, 2, 0, 0) := by decide +kernel
theorem i_98_206 : pg_at 98 206 = some (1, 10, 0, 0) := by decide +kernel
theorem i_98_207 : pg_at 98 207 = some (1, 8, 0, 0) := by decide +kernel
theorem i_98_208 : pg_at 98 208 = some (3, 1, 0, 0) := by decide +kernel
theorem i_98_209 : pg_at 98 209 = some (0, 0, 0, 9) := by decide +kernel
theorem i_98_210 : pg_at 98 210 = some (1, 8, 0, 0) := by decide +kernel
theorem i_98_211 : pg_at 98 211 = some (8, 0, 0, 0) := by decide +kernel
theorem i_98_212 : pg_at 98 212 = some (0, 0, 0, 2) := by decide +kernel
theorem i_98_213 : pg_at 98 213 = some (6, 0, 0, 0) := by decide +kernel
theorem i_98_214 : pg_at 98 214 = some (27, 0, 0, 0) := by decide +kernel
theorem i_98_215 : pg_at 98 215 = some (17, 218, 1, 0) := by decide +kernel
theorem i_98_216 : pg_at 98 216 = some (1, 12, 0, 0) := by decide +kernel
theorem i_98_217 : pg_at 98 217 = some (16, 220, 0, 0) := by decide +kernel
theorem i_98_218 : pg_at 98 218 = some (1, 12, 0, 0) := by decide +kernel
theorem i_98_219 : pg_at 98 219 = some (11, 0, 0, 0) := by decide +kernel
theorem i_98_220 : pg_at 98 220 = some (40, 93, 0, 70) := by decide +kernel
theorem i_98_221 : pg_at 98 221 = some (3, 1, 0, 0) := by decide +kernel
theorem i_98_222 : pg_at 98 222 = some (3, 2, 0, 0) := by decide +kernel
theorem i_98_223 : pg_at 98 223 = some (1, 8, 0, 0) := by decide +kernel
theorem i_98_224 : pg_at 98 224 = some (40, 94, 0, 78) := by decide +kernel
theorem i_98_225 : pg_at 98 225 = some (3, 0, 0, 0) := by decide +kernel
theorem i_98_226 : pg_at 98 226 = some (1, 10, 0, 0) := by decide +kernel
theorem i_98_227 : pg_at 98 227 = some (1, 8, 0, 0) := by decide +kernel
theorem i_98_228 : pg_at 98 228 = some (1, 11, 0, 0) := by decide +kernel
theorem i_98_229 : pg_at 98 229 = some (41, 44, 0, 134) := by decide +kernel
theorem i_98_230 : pg_at 98 230 = some (3, 2, 0, 0) := by decide +kernel
theorem i_98_231 : pg_at 98 231 = some (0, 0, 0, 7) := by decide +kernel
theorem i_98_232 : pg_at 98 232 = some (1, 10, 0, 0) := by decide +kernel
theorem i_98_233 : pg_at 98 233 = some (8, 0, 0, 0) := by decide +kernel
theorem i_98_234 : pg_at 98 234 = some (1, 8, 0, 0) := by decide +kernel
theorem i_98_235 : pg_at 98 235 = some (6, 0, 0, 0) := by decide +kernel
theorem i_98_236 : pg_at 98 236 = some (27, 0, 0, 0) := by decide +kernel
theorem i_98_237 : pg_at 98 237 = some (18, 240, 1, 0) := by decide +kernel
theorem i_98_238 : pg_at 98 238 = some (0, 0, 0, 1) := by decide +kernel
theorem i_98_239 : pg_at 98 239 = some (16, 241, 0, 0) := by decide +kernel
theorem i_98_240 : pg_at 98 240 = some (0, 0, 0, 0) := by decide +kernel
theorem i_98_241 : pg_at 98 241 = some (45, 0, 0, 0) := by decide +kernel
theorem i_98_242 : pg_at 98 242 = some (1, 6, 0, 0) := by decide +kernel
theorem i_98_243 : pg_at 98 243 = some (0, 0, 0, 3) := by decide +kernel
theorem i_98_244 : pg_at 98 244 = some (18, 249, 1, 0) := by decide +kernel
theorem i_98_245 : pg_at 98 245 = some (3, 5, 0, 0) := by decide +kernel
theorem i_98_246 : pg_at 98 246 = some (0, 0, 0, 0) := by decide +kernel
theorem i_98_247 : pg_at 98 247 = some (27, 0, 0, 0) := by decide +kernel
theorem i_98_248 : pg_at 98 248 = some (16, 256, 0, 0) := by decide +kernel
theorem i_98_249 : pg_at 98 249 = some (3, 5, 0, 0) := by decide +kernel
theorem i_98_250 : pg_at 98 250 = some (0, 0, 0, 0) := by decide +kernel
theorem i_98_251 : pg_at 98 251 = some (27, 0, 0, 0) := by decide +kernel
theorem i_98_252 : pg_at 98 252 = some (1, 7, 0, 0) := by decide +kernel
theorem i_98_253 : pg_at 98 253 = some (0, 0, 0, 3) := by decide +kernel
theorem i_98_254 : pg_at 98 254 = some (10, 0, 0, 0) := by decide +kernel
theorem i_98_255 : pg_at 98 255 = some (6, 0, 0, 0) := by decide +kernel
theorem i_98_256 : pg_at 98 256 = some (2, 10, 0, 0) := by decide +kernel
theorem i_98_257 : pg_at 98 257 = some (3, 5, 0, 0) := by decide +kernel
theorem i_98_258 : pg_at 98 258 = some (1, 10, 0, 0) := by decide +kernel
theorem i_98_259 : pg_at 98 259 = some (40, 79, 0, 9) := by decide +kernel
theorem i_98_260 : pg_at 98 260 = some (17, 270, 0, 0) := by decide +kernel
theorem i_98_261 : pg_at 98 261 = some (3, 5, 0, 0) := by decide +kernel
theorem i_98_262 : pg_at 98 262 = some (0, 0, 0, 7) := by decide +kernel
theorem i_98_263 : pg_at 98 263 = some (1, 10, 0, 0) := by decide +kernel
theorem i_98_264 : pg_at 98 264 = some (0, 0, 0, 3) := by decide +kernel
theorem i_98_265 : pg_at 98 265 = some (10, 0, 0, 0) := by decide +kernel
theorem i_98_266 : pg_at 98 266 = some (6, 0, 0, 0) := by decide +kernel
theorem i_98_267 : pg_at 98 267 = some (27, 0, 0, 0) := by decide +kernel
theorem i_98_268 : pg_at 98 268 = some (0, 0, 0, 1) := by decide +kernel
theorem i_98_269 : pg_at 98 269 = some (18, 272, 1, 0) := by decide +kernel
theorem i_98_270 : pg_at 98 270 = some (0, 0, 0, 1) := by decide +kernel
theorem i_98_271 : pg_at 98 271 = some (45, 0, 0, 0) := by decide +kernel
theorem i_98_272 : pg_at 98 272 = some (1, 7, 0, 0) := by decide +kernel
theorem i_98_273 : pg_at 98 273 = some (0, 0, 0, 3) := by decide +kernel
theorem i_98_274 : pg_at 98 274 = some (9, 0, 0, 0) := by decide +kernel
theorem i_98_275 : pg_at 98 275 = some (3, 5, 0, 0) := by decide +kernel
theorem i_98_276 : pg_at 98 276 = some (1, 10, 0, 0) := by decide +kernel
theorem i_98_277 : pg_at 98 277 = some (40, 79, 0, 9) := by decide +kernel
theorem i_98_278 : pg_at 98 278 = some (10, 0, 0, 0) := by decide +kernel
theorem i_98_279 : pg_at 98 279 = some (2, 11, 0, 0) := by decide +kernel
theorem i_98_280 : pg_at 98 280 = some (1, 6, 0, 0) := by decide +kernel
theorem i_98_281 : pg_at 98 281 = some (0, 0, 0, 3) := by decide +kernel
theorem i_98_282 : pg_at 98 282 = some (18, 321, 1, 0) := by decide +kernel
theorem i_98_283 : pg_at 98 283 = some (3, 4, 0, 0) := by decide +kernel
theorem i_98_284 : pg_at 98 284 = some (3, 5, 0, 0) := by decide +kernel
theorem i_98_285 : pg_at 98 285 = some (1, 10, 0, 0) := by decide +kernel
theorem i_98_286 : pg_at 98 286 = some (40, 78, 0, 15) := by decide +kernel
theorem i_98_287 : pg_at 98 287 = some (0, 0, 0, 6) := by decide +kernel
theorem i_98_288 : pg_at 98 288 = some (1, 11, 0, 0) := by decide +kernel
theorem i_98_289 : pg_at 98 289 = some (8, 0, 0, 0) := by decide +kernel
theorem i_98_290 : pg_at 98 290 = some (6, 0, 0, 0) := by decide +kernel
theorem i_98_291 : pg_at 98 291 = some (0, 0, 0, 5) := by decide +kernel
theorem i_98_292 : pg_at 98 292 = some (6, 0, 0, 0) := by decide +kernel
theorem i_98_293 : pg_at 98 293 = some (27, 0, 0, 0) := by decide +kernel
theorem i_98_294 : pg_at 98 294 = some (0, 0, 0, 1) := by decide +kernel
theorem i_98_295 : pg_at 98 295 = some (18, 298, 1, 0) := by decide +kernel
theorem i_98_296 : pg_at 98 296 = some (0, 0, 0, 1) := by decide +kernel
theorem i_98_297 : pg_at 98 297 = some (16, 299, 0, 0) := by decide +kernel
theorem i_98_298 : pg_at 98 298 = some (0, 0, 0, 0) := by decide +kernel
theorem i_98_299 : pg_at 98 299 = some (2, 12, 0, 0) := by decide +kernel
theorem i_98_300 : pg_at 98 300 = some (3, 4, 0, 0) := by decide +kernel
theorem i_98_301 : pg_at 98 301 = some (3, 5, 0, 0) := by decide +kernel
theorem i_98_302 : pg_at 98 302 = some (1, 10, 0, 0) := by decide +kernel
theorem i_98_303 : pg_at 98 303 = some (40, 78, 0, 15) := by decide +kernel
theorem i_98_304 : pg_at 98 304 = some (0, 0, 0, 6) := by decide +kernel
theorem i_98_305 : pg_at 98 305 = some (1, 11, 0, 0) := by decide +kernel
theorem i_98_306 : pg_at 98 306 = some (8, 0, 0, 0) := by decide +kernel
theorem i_98_307 : pg_at 98 307 = some (6, 0, 0, 0) := by decide +kernel
theorem i_98_308 : pg_at 98 308 = some (0, 0, 0, 5) := by decide +kernel
theorem i_98_309 : pg_at 98 309 = some (6, 0, 0, 0) := by decide +kernel
theorem i_98_310 : pg_at 98 310 = some (0, 0, 0, 1) := by decide +kernel
theorem i_98_311 : pg_at 98 311 = some (28, 0, 0, 0) := by decide +kernel
theorem i_98_312 : pg_at 98 312 = some (3, 0, 0, 0) := by decide +kernel
theorem i_98_313 : pg_at 98 313 = some (1, 11, 0, 0) := by decide +kernel
theorem i_98_314 : pg_at 98 314 = some (41, 39, 0, 137) := by decide +kernel
theorem i_98_315 : pg_at 98 315 = some (1, 12, 0, 0) := by decide +kernel
theorem i_98_316 : pg_at 98 316 = some (18, 319, 1, 0) := by decide +kernel
theorem i_98_317 : pg_at 98 317 = some (0, 0, 0, 1) := by decide +kernel
theorem i_98_318 : pg_at 98 318 = some (16, 320, 0, 0) := by decide +kernel
theorem i_98_319 : pg_at 98 319 = some (0, 0, 0, 0) := by decide +kernel
theorem i_98_320 : pg_at 98 320 = some (45, 0, 0, 0) := by decide +kernel
theorem i_98_321 : pg_at 98 321 = some (3, 4, 0, 0) := by decide +kernel
theorem i_98_322 : pg_at 98 322 = some (3, 5, 0, 0) := by decide +kernel
theorem i_98_323 : pg_at 98 323 = some (1, 10, 0, 0) := by decide +kernel
theorem i_98_324 : pg_at 98 324 = some (1, 11, 0, 0) := by decide +kernel
theorem i_98_325 : pg_at 98 325 = some (40, 86, 0, 62) := by decide +kernel
theorem i_98_326 : pg_at 98 326 = some (3, 0, 0, 0) := by decide +kernel
theorem i_98_327 : pg_at 98 327 = some (1, 10, 0, 0) := by decide +kernel
theorem i_98_328 : pg_at 98 328 = some (1, 11, 0, 0) := by decide +kernel
theorem i_98_329 : pg_at 98 329 = some (41, 38, 0, 141) := by decide +kernel
theorem i_98_330 : pg_at 98 330 = some (3, 5, 0, 0) := by decide +kernel
theorem i_98_331 : pg_at 98 331 = some (1, 10, 0, 0) := by decide +kernel
theorem i_98_332 : pg_at 98 332 = some (40, 79, 0, 9) := by decide +kernel
theorem i_98_333 : pg_at 98 333 = some (18, 336, 1, 0) := by decide +kernel
theorem i_98_334 : pg_at 98 334 = some (0, 0, 0, 1) := by decide +kernel
theorem i_98_335 : pg_at 98 335 = some (16, 337, 0, 0) := by decide +kernel
theorem i_98_336 : pg_at 98 336 = some (0, 0, 0, 0) := by decide +kernel
theorem i_98_337 : pg_at 98 337 = some (45, 0, 0, 0) := by decide +kernel
theorem mf_98 : pg_na 98 = 8 ∧ pg_ml 98 = 13 ∧ pg_cst 98 = 35 ∧ pg_cl 98 = 99 := by decide +kernel
theorem rt_98 : pg_rt 98 = some .boolean := by decide +kernel
theorem hx_98 : pg_hx 98 = [] := by decide +kernel
theorem i_99_0 : pg_at 99 0 = some (3, 5, 0, 0) := by decide +kernel
theorem i_99_1 : pg_at 99 1 = some (0, 0, 0, 0) := by decide +kernel
theorem i_99_2 : pg_at 99 2 = some (27, 0, 0, 0) := by decide +kernel
theorem i_99_3 : pg_at 99 3 = some (0, 0, 0, 3) := by decide +kernel
theorem i_99_4 : pg_at 99 4 = some (10, 0, 0, 0) := by decide +kernel
theorem i_99_5 : pg_at 99 5 = some (2, 7, 0, 0) := by decide +kernel
theorem i_99_6 : pg_at 99 6 = some (1, 6, 0, 0) := by decide +kernel
theorem i_99_7 : pg_at 99 7 = some (17, 65, 0, 0) := by decide +kernel
theorem i_99_8 : pg_at 99 8 = some (3, 5, 0, 0) := by decide +kernel
theorem i_99_9 : pg_at 99 9 = some (0, 0, 0, 1) := by decide +kernel
theorem i_99_10 : pg_at 99 10 = some (1, 7, 0, 0) := by decide +kernel
theorem i_99_11 : pg_at 99 11 = some (6, 0, 0, 0) := by decide +kernel
theorem i_99_12 : pg_at 99 12 = some (27, 0, 0, 0) := by decide +kernel
theorem i_99_13 : pg_at 99 13 = some (17, 26, 0, 0) := by decide +kernel
theorem i_99_14 : pg_at 99 14 = some (3, 5, 0, 0) := by decide +kernel
theorem i_99_15 : pg_at 99 15 = some (0, 0, 0, 7) := by decide +kernel
theorem i_99_16 : pg_at 99 16 = some (1, 7, 0, 0) := by decide +kernel
theorem i_99_17 : pg_at 99 17 = some (6, 0, 0, 0) := by decide +kernel
theorem i_99_18 : pg_at 99 18 = some (27, 0, 0, 0) := by decide +kernel
theorem i_99_19 : pg_at 99 19 = some (0, 0, 0, 1) := by decide +kernel
theorem i_99_20 : pg_at 99 20 = some (18, 26, 0, 0) := by decide +kernel
theorem i_99_21 : pg_at 99 21 = some (3, 1, 0, 0) := by decide +kernel
theorem i_99_22 : pg_at 99 22 = some (3, 4, 0, 0) := by decide +kernel
theorem i_99_23 : pg_at 99 23 = some (3, 5, 0, 0) := by decide +kernel
theorem i_99_24 : pg_at 99 24 = some (40, 87, 0, 54) := by decide +kernel
theorem i_99_25 : pg_at 99 25 = some (17, 28, 5, 0) := by decide +kernel
theorem i_99_26 : pg_at 99 26 = some (0, 0, 0, 1) := by decide +kernel
theorem i_99_27 : pg_at 99 27 = some (45, 0, 0, 0) := by decide +kernel
theorem i_99_28 : pg_at 99 28 = some (0, 0, 0, 0) := by decide +kernel
theorem i_99_29 : pg_at 99 29 = some (2, 8, 0, 0) := by decide +kernel
theorem i_99_30 : pg_at 99 30 = some (0, 0, 0, 0) := by decide +kernel
theorem i_99_31 : pg_at 99 31 = some (2, 9, 0, 0) := by decide +kernel
theorem i_99_32 : pg_at 99 32 = some (1, 9, 0, 0) := by decide +kernel
theorem i_99_33 : pg_at 99 33 = some (3, 5, 0, 0) := by decide +kernel
theorem i_99_34 : pg_at 99 34 = some (0, 0, 0, 1) := by decide +kernel
theorem i_99_35 : pg_at 99 35 = some (1, 7, 0, 0) := by decide +kernel
theorem i_99_36 : pg_at 99 36 = some (6, 0, 0, 0) := by decide +kernel
theorem i_99_37 : pg_at 99 37 = some (27, 0, 0, 0) := by decide +kernel
theorem i_99_38 : pg_at 99 38 = some (18, 51, 3, 0) := by decide +kernel
theorem i_99_39 : pg_at 99 39 = some (1, 8, 0, 0) := by decide +kernel
theorem i_99_40 : pg_at 99 40 = some (3, 1, 0, 0) := by decide +kernel
theorem i_99_41 : pg_at 99 41 = some (3, 2, 0, 0) := by decide +kernel
theorem i_99_42 : pg_at 99 42 = some (3, 3, 0, 0) := by decide +kernel
theorem i_99_43 : pg_at 99 43 = some (3, 4, 0, 0) := by decide +kernel
theorem i_99_44 : pg_at 99 44 = some (3, 5, 0, 0) := by decide +kernel
theorem i_99_45 : pg_at 99 45 = some (1, 9, 0, 0) := by decide +kernel
theorem i_99_46 : pg_at 99 46 = some (40, 95, 0, 143) := by decide +kernel
theorem i_99_47 : pg_at 99 47 = some (6, 0, 0, 0) := by decide +kernel
theorem i_99_48 : pg_at 99 48 = some (2, 8, 0, 0) := by decide +kernel
theorem i_99_49 : pg_at 99 49 = some (5, 9, 0, 1) := by decide +kernel
theorem i_99_50 : pg_at 99 50 = some (16, 32, 0, 0) := by decide +kernel
theorem i_99_51 : pg_at 99 51 = some (3, 5, 0, 0) := by decide +kernel
theorem i_99_52 : pg_at 99 52 = some (0, 0, 0, 7) := by decide +kernel
theorem i_99_53 : pg_at 99 53 = some (1, 7, 0, 0) := by decide +kernel
theorem i_99_54 : pg_at 99 54 = some (6, 0, 0, 0) := by decide +kernel
theorem i_99_55 : pg_at 99 55 = some (0, 0, 0, 1) := by decide +kernel
theorem i_99_56 : pg_at 99 56 = some (28, 0, 0, 0) := by decide +kernel
theorem i_99_57 : pg_at 99 57 = some (3, 0, 0, 0) := by decide +kernel
theorem i_99_58 : pg_at 99 58 = some (41, 43, 0, 146) := by decide +kernel
theorem i_99_59 : pg_at 99 59 = some (1, 8, 0, 0) := by decide +kernel
theorem i_99_60 : pg_at 99 60 = some (18, 63, 1, 0) := by decide +kernel
theorem i_99_61 : pg_at 99 61 = some (0, 0, 0, 1) := by decide +kernel
theorem i_99_62 : pg_at 99 62 = some (16, 64, 0, 0) := by decide +kernel
theorem i_99_63 : pg_at 99 63 = some (0, 0, 0, 0) := by decide +kernel
theorem i_99_64 : pg_at 99 64 = some (45, 0, 0, 0) := by decide +kernel
theorem i_99_65 : pg_at 99 65 = some (3, 5, 0, 0) := by decide +kernel
theorem i_99_66 : pg_at 99 66 = some (0, 0, 0, 1) := by decide +kernel
theorem i_99_67 : pg_at 99 67 = some (1, 7, 0, 0) := by decide +kernel
theorem i_99_68 : pg_at 99 68 = some (6, 0, 0, 0) := by decide +kernel
theorem i_99_69 : pg_at 99 69 = some (0, 0, 0, 0) := by decide +kernel
theorem i_99_70 : pg_at 99 70 = some (28, 0, 0, 0) := by decide +kernel
theorem i_99_71 : pg_at 99 71 = some (3, 5, 0, 0) := by decide +kernel
theorem i_99_72 : pg_at 99 72 = some (0, 0, 0, 7) := by decide +kernel
theorem i_99_73 : pg_at 99 73 = some (1, 7, 0, 0) := by decide +kernel
theorem i_99_74 : pg_at 99 74 = some (6, 0, 0, 0) := by decide +kernel
theorem i_99_75 : pg_at 99 75 = some (0, 0, 0, 0) := by decide +kernel
theorem i_99_76 : pg_at 99 76 = some (28, 0, 0, 0) := by decide +kernel
theorem i_99_77 : pg_at 99 77 = some (0, 0, 0, 0) := by decide +kernel
theorem i_99_78 : pg_at 99 78 = some (2, 8, 0, 0) := by decide +kernel
theorem i_99_79 : pg_at 99 79 = some (1, 8, 0, 0) := by decide +kernel
theorem i_99_80 : pg_at 99 80 = some (0, 0, 0, 7) := by decide +kernel
theorem i_99_81 : pg_at 99 81 = some (18, 130, 3, 0) := by decide +kernel
theorem i_99_82 : pg_at 99 82 = some (3, 1, 0, 0) := by decide +kernel
theorem i_99_83 : pg_at 99 83 = some (0, 0, 0, 9) := by decide +kernel
theorem i_99_84 : pg_at 99 84 = some (1, 8, 0, 0) := by decide +kernel
theorem i_99_85 : pg_at 99 85 = some (8, 0, 0, 0) := by decide +kernel
theorem i_99_86 : pg_at 99 86 = some (0, 0, 0, 3) := by decide +kernel
theorem i_99_87 : pg_at 99 87 = some (6, 0, 0, 0) := by decide +kernel
theorem i_99_88 : pg_at 99 88 = some (3, 1, 0, 0) := by decide +kernel
theorem i_99_89 : pg_at 99 89 = some (0, 0, 0, 9) := by decide +kernel
theorem i_99_90 : pg_at 99 90 = some (1, 8, 0, 0) := by decide +kernel
theorem i_99_91 : pg_at 99 91 = some (8, 0, 0, 0) := by decide +kernel
theorem i_99_92 : pg_at 99 92 = some (0, 0, 0, 3) := by decide +kernel
theorem i_99_93 : pg_at 99 93 = some (6, 0, 0, 0) := by decide +kernel
theorem i_99_94 : pg_at 99 94 = some (27, 0, 0, 0) := by decide +kernel
theorem i_99_95 : pg_at 99 95 = some (0, 0, 0, 10) := by decide +kernel
theorem i_99_96 : pg_at 99 96 = some (18, 99, 3, 0) := by decide +kernel
theorem i_99_97 : pg_at 99 97 = some (0, 0, 0, 0) := by decide +kernel
theorem i_99_98 : pg_at 99 98 = some (16, 108, 0, 0) := by decide +kernel
theorem i_99_99 : pg_at 99 99 = some (3, 1, 0, 0) := by decide +kernel
theorem i_99_100 : pg_at 99 100 = some (0, 0, 0, 9) := by decide +kernel
theorem i_99_101 : pg_at 99 101 = some (1, 8, 0, 0) := by decide +kernel
theorem i_99_102 : pg_at 99 102 = some (8, 0, 0, 0) := by decide +kernel
theorem i_99_103 : pg_at 99 103 = some (0, 0, 0, 3) := by decide +kernel
theorem i_99_104 : pg_at 99 104 = some (6, 0, 0, 0) := by decide +kernel
theorem i_99_105 : pg_at 99 105 = some (27, 0, 0, 0) := by decide +kernel
theorem i_99_106 : pg_at 99 106 = some (0, 0, 0, 10) := by decide +kernel
theorem i_99_107 : pg_at 99 107 = some (7, 0, 0, 0) := by decide +kernel
theorem i_99_108 : pg_at 99 108 = some (28, 0, 0, 0) := by decide +kernel
theorem i_99_109 : pg_at 99 109 = some (3, 1, 0, 0) := by decide +kernel
theorem i_99_110 : pg_at 99 110 = some (0, 0, 0, 9) := by decide +kernel
theorem i_99_111 : pg_at 99 111 = some (1, 8, 0, 0) := by decide +kernel
theorem i_99_112 : pg_at 99 112 = some (8, 0, 0, 0) := by decide +kernel
theorem i_99_113 : pg_at 99 113 = some (0, 0, 0, 8) := by decide +kernel
theorem i_99_114 : pg_at 99 114 = some (6, 0, 0, 0) := by decide +kernel
theorem i_99_115 : pg_at 99 115 = some (14, 0, 0, 0) := by decide +kernel
theorem i_99_116 : pg_at 99 116 = some (27, 0, 0, 0) := by decide +kernel
theorem i_99_117 : pg_at 99 117 = some (3, 1, 0, 0) := by decide +kernel
theorem i_99_118 : pg_at 99 118 = some (0, 0, 0, 9) := by decide +kernel
theorem i_99_119 : pg_at 99 119 = some (1, 8, 0, 0) := by decide +kernel
theorem i_99_120 : pg_at 99 120 = some (8, 0, 0, 0) := by decide +kernel
theorem i_99_121 : pg_at 99 121 = some (0, 0, 0, 8) := by decide +kernel
theorem i_99_122 : pg_at 99 122 = some (6, 0, 0, 0) := by decide +kernel
theorem i_99_123 : pg_at 99 123 = some (27, 0, 0, 0) := by decide +kernel
theorem i_99_124 : pg_at 99 124 = some (0, 0, 0, 2) := by decide +kernel
theorem i_99_125 : pg_at 99 125 = some (10, 0, 0, 0) := by decide +kernel
theorem i_99_126 : pg_at 99 126 = some (7, 0, 0, 0) := by decide +kernel
theorem i_99_127 : pg_at 99 127 = some (28, 0, 0, 0) := by decide +kernel
theorem i_99_128 : pg_at 99 128 = some (5, 8, 0, 1) := by decide +kernel
theorem i_99_129 : pg_at 99 129 = some (16, 79, 0, 0) := by decide +kernel
theorem i_99_130 : pg_at 99 130 = some (3, 5, 0, 0) := by decide +kernel
theorem i_99_131 : pg_at 99 131 = some (0, 0, 0, 0) := by decide +kernel
theorem i_99_132 : pg_at 99 132 = some (14, 0, 0, 0) := by decide +kernel
theorem i_99_133 : pg_at 99 133 = some (27, 0, 0, 0) := by decide +kernel
theorem i_99_134 : pg_at 99 134 = some (0, 0, 0, 1) := by decide +kernel
theorem i_99_135 : pg_at 99 135 = some (6, 0, 0, 0) := by decide +kernel
theorem i_99_136 : pg_at 99 136 = some (28, 0, 0, 0) := by decide +kernel
theorem i_99_137 : pg_at 99 137 = some (3, 0, 0, 0) := by decide +kernel
theorem i_99_138 : pg_at 99 138 = some (41, 45, 0, 149) := by decide +kernel
theorem i_99_139 : pg_at 99 139 = some (3, 5, 0, 0) := by decide +kernel
theorem i_99_140 : pg_at 99 140 = some (0, 0, 0, 0) := by decide +kernel
theorem i_99_141 : pg_at 99 141 = some (27, 0, 0, 0) := by decide +kernel
theorem i_99_142 : pg_at 99 142 = some (18, 145, 1, 0) := by decide +kernel
theorem i_99_143 : pg_at 99 143 = some (0, 0, 0, 1) := by decide +kernel
theorem i_99_144 : pg_at 99 144 = some (16, 146, 0, 0) := by decide +kernel
theorem i_99_145 : pg_at 99 145 = some (0, 0, 0, 0) := by decide +kernel
theorem i_99_146 : pg_at 99 146 = some (45, 0, 0, 0) := by decide +kernel
theorem mf_99 : pg_na 99 = 7 ∧ pg_ml 99 = 10 ∧ pg_cst 99 = 14 ∧ pg_cl 99 = 99 := by decide +kernel
theorem rt_99 : pg_rt 99 = some .boolean := by decide +kernel
theorem hx_99 : pg_hx 99 = [] := by decide +kernel
theorem i_100_0 : pg_at 100 0 = some (37, 5, 0, 32) := by decide +kernel
theorem i_100_1 : pg_at 100 1 = some (13, 0, 0, 0) := by decide +kernel
theorem i_100_2 : pg_at 100 2 = some (42, 32, 0, 152) := by decide +kernel
theorem i_100_3 : pg_at 100 3 = some (4, 1, 0, 0) := by decide +kernel
theorem i_100_4 : pg_at 100 4 = some (0, 0, 0, 63) := by decide +kernel
theorem i_100_5 : pg_at 100 5 = some (38, 7, 0, 0) := by decide +kernel
theorem i_100_6 : pg_at 100 6 = some (4, 2, 0, 0) := by decide +kernel
theorem i_100_7 : pg_at 100 7 = some (0, 0, 0, 28) := by decide +kernel
theorem i_100_8 : pg_at 100 8 = some (38, 7, 0, 0) := by decide +kernel
theorem i_100_9 : pg_at 100 9 = some (4, 3, 0, 0) := by decide +kernel
theorem i_100_10 : pg_at 100 10 = some (0, 0, 0, 49) := by decide +kernel
theorem i_100_11 : pg_at 100 11 = some (38, 7, 0, 0) := by decide +kernel
theorem i_100_12 : pg_at 100 12 = some (4, 4, 0, 0) := by decide +kernel
theorem i_100_13 : pg_at 100 13 = some (0, 0, 0, 49) := by decide +kernel
theorem i_100_14 : pg_at 100 14 = some (38, 7, 0, 0) := by decide +kernel
theorem i_100_15 : pg_at 100 15 = some (4, 5, 0, 0) := by decide +kernel
theorem i_100_16 : pg_at 100 16 = some (0, 0, 0, 54) := by decide +kernel
theorem i_100_17 : pg_at 100 17 = some (38, 7, 0, 0) := by decide +kernel
theorem i_100_18 : pg_at 100 18 = some (4, 6, 0, 0) := by decide +kernel
theorem i_100_19 : pg_at 100 19 = some (0, 0, 0, 18) := by decide +kernel
theorem i_100_20 : pg_at 100 20 = some (38, 7, 0, 0) := by decide +kernel
theorem i_100_21 : pg_at 100 21 = some (4, 7, 0, 0) := by decide +kernel
theorem i_100_22 : pg_at 100 22 = some (3, 1, 0, 0) := by decide +kernel
theorem i_100_23 : pg_at 100 23 = some (41, 34, 0, 153) := by decide +kernel
theorem i_100_24 : pg_at 100 24 = some (17, 31, 1, 0) := by decide +kernel
theorem i_100_25 : pg_at 100 25 = some (3, 1, 0, 0) := by decide +kernel
theorem i_100_26 : pg_at 100 26 = some (41, 34, 0, 153) := by decide +kernel
theorem i_100_27 : pg_at 100 27 = some (0, 0, 0, 1) := by decide +kernel
theorem i_100_28 : pg_at 100 28 = some (18, 31, 1, 0) := by decide +kernel
theorem i_100_29 : pg_at 100 29 = some (0, 0, 0, 1) := by decide +kernel
theorem i_100_30 : pg_at 100 30 = some (16, 32, 0, 0) := by decide +kernel
theorem i_100_31 : pg_at 100 31 = some (0, 0, 0, 0) := by decide +kernel
theorem i_100_32 : pg_at 100 32 = some (2, 8, 0, 0) := by decide +kernel
theorem i_100_33 : pg_at 100 33 = some (0, 0, 0, 0) := by decide +kernel
theorem i_100_34 : pg_at 100 34 = some (2, 9, 0, 0) := by decide +kernel
theorem i_100_35 : pg_at 100 35 = some (1, 9, 0, 0) := by decide +kernel
theorem i_100_36 : pg_at 100 36 = some (0, 0, 0, 7) := by decide +kernel
theorem i_100_37 : pg_at 100 37 = some (18, 106, 3, 0) := by decide +kernel
theorem i_100_38 : pg_at 100 38 = some (1, 8, 0, 0) := by decide +kernel
theorem i_100_39 : pg_at 100 39 = some (17, 106, 0, 0) := by decide +kernel
theorem i_100_40 : pg_at 100 40 = some (3, 2, 0, 0) := by decide +kernel
theorem i_100_41 : pg_at 100 41 = some (0, 0, 0, 9) := by decide +kernel
theorem i_100_42 : pg_at 100 42 = some (1, 9, 0, 0) := by decide +kernel
theorem i_100_43 : pg_at 100 43 = some (8, 0, 0, 0) := by decide +kernel
theorem i_100_44 : pg_at 100 44 = some (3, 0, 0, 0) := by decide +kernel
theorem i_100_45 : pg_at 100 45 = some (0, 0, 0, 300) := by decide +kernel
theorem i_100_46 : pg_at 100 46 = some (1, 9, 0, 0) := by decide +kernel
theorem i_100_47 : pg_at 100 47 = some (6, 0, 0, 0) := by decide +kernel
theorem i_100_48 : pg_at 100 48 = some (0, 0, 0, 100) := by decide +kernel
theorem i_100_49 : pg_at 100 49 = some (40, 77, 0, 156) := by decide +kernel
theorem i_100_50 : pg_at 100 50 = some (28, 0, 0, 0) := by decide +kernel
theorem i_100_51 : pg_at 100 51 = some (3, 2, 0, 0) := by decide +kernel
theorem i_100_52 : pg_at 100 52 = some (0, 0, 0, 9) := by decide +kernel
theorem i_100_53 : pg_at 100 53 = some (1, 9, 0, 0) := by decide +kernel
theorem i_100_54 : pg_at 100 54 = some (8, 0, 0, 0) := by decide +kernel
theorem i_100_55 : pg_at 100 55 = some (0, 0, 0, 1) := by decide +kernel
theorem i_100_56 : pg_at 100 56 = some (6, 0, 0, 0) := by decide +kernel
theorem i_100_57 : pg_at 100 57 = some (3, 0, 0, 0) := by decide +kernel
theorem i_100_58 : pg_at 100 58 = some (0, 0, 0, 310) := by decide +kernel
theorem i_100_59 : pg_at 100 59 = some (1, 9, 0, 0) := by decide +kernel
theorem i_100_60 : pg_at 100 60 = some (6, 0, 0, 0) := by decide +kernel
theorem i_100_61 : pg_at 100 61 = some (0, 0, 0, 100) := by decide +kernel
theorem i_100_62 : pg_at 100 62 = some (40, 77, 0, 156) := by decide +kernel
theorem i_100_63 : pg_at 100 63 = some (28, 0, 0, 0) := by decide +kernel
theorem i_100_64 : pg_at 100 64 = some (3, 2, 0, 0) := by decide +kernel
theorem i_100_65 : pg_at 100 65 = some (0, 0, 0, 9) := by decide +kernel
theorem i_100_66 : pg_at 100 66 = some (1, 9, 0, 0) := by decide +kernel
theorem i_100_67 : pg_at 100 67 = some (8, 0, 0, 0) := by decide +kernel
theorem i_100_68 : pg_at 100 68 = some (0, 0, 0, 2) := by decide +kernel
theorem i_100_69 : pg_at 100 69 = some (6, 0, 0, 0) := by decide +kernel
theorem i_100_70 : pg_at 100 70 = some (3, 0, 0, 0) := by decide +kernel
theorem i_100_71 : pg_at 100 71 = some (0, 0, 0, 320) := by decide +kernel
theorem i_100_72 : pg_at 100 72 = some (1, 9, 0, 0) := by decide +kernel
theorem i_100_73 : pg_at 100 73 = some (6, 0, 0, 0) := by decide +kernel
theorem i_100_74 : pg_at 100 74 = some (0, 0, 0, 2) := by decide +kernel
theorem i_100_75 : pg_at 100 75 = some (40, 77, 0, 156) := by decide +kernel
theorem i_100_76 : pg_at 100 76 = some (28, 0, 0, 0) := by decide +kernel
theorem i_100_77 : pg_at 100 77 = some (3, 1, 0, 0) := by decide +kernel
theorem i_100_78 : pg_at 100 78 = some (3, 2, 0, 0) := by decide +kernel
theorem i_100_79 : pg_at 100 79 = some (0, 0, 0, 9) := by decide +kernel
theorem i_100_80 : pg_at 100 80 = some (1, 9, 0, 0) := by decide +kernel
theorem i_100_81 : pg_at 100 81 = some (8, 0, 0, 0) := by decide +kernel
theorem i_100_82 : pg_at 100 82 = some (27, 0, 0, 0) := by decide +kernel
theorem i_100_83 : pg_at 100 83 = some (3, 2, 0, 0) := by decide +kernel
theorem i_100_84 : pg_at 100 84 = some (0, 0, 0, 9) := by decide +kernel
theorem i_100_85 : pg_at 100 85 = some (1, 9, 0, 0) := by decide +kernel
theorem i_100_86 : pg_at 100 86 = some (8, 0, 0, 0) := by decide +kernel
theorem i_100_87 : pg_at 100 87 = some (0, 0, 0, 1) := by decide +kernel
theorem i_100_88 : pg_at 100 88 = some (6, 0, 0, 0) := by decide +kernel
theorem i_100_89 : pg_at 100 89 = some (27, 0, 0, 0) := by decide +kernel
theorem i_100_90 : pg_at 100 90 = some (3, 2, 0, 0) := by decide +kernel
theorem i_100_91 : pg_at 100 91 = some (0, 0, 0, 9) := by decide +kernel
theorem i_100_92 : pg_at 100 92 = some (1, 9, 0, 0) := by decide +kernel
theorem i_100_93 : pg_at 100 93 = some (8, 0, 0, 0) := by decide +kernel
theorem i_100_94 : pg_at 100 94 = some (0, 0, 0, 2) := by decide +kernel
theorem i_100_95 : pg_at 100 95 = some (6, 0, 0, 0) := by decide +kernel
theorem i_100_96 : pg_at 100 96 = some (27, 0, 0, 0) := by decide +kernel
theorem i_100_97 : pg_at 100 97 = some (41, 33, 0, 160) := by decide +kernel
theorem i_100_98 : pg_at 100 98 = some (1, 9, 0, 0) := by decide +kernel
theorem i_100_99 : pg_at 100 99 = some (18, 102, 1, 0) := by decide +kernel
theorem i_100_100 : pg_at 100 100 = some (0, 0, 0, 1) := by decide +kernel
theorem i_100_101 : pg_at 100 101 = some (16, 103, 0, 0) := by decide +kernel
theorem i_100_102 : pg_at 100 102 = some (0, 0, 0, 0) := by decide +kernel
theorem i_100_103 : pg_at 100 103 = some (2, 8, 0, 0) := by decide +kernel
theorem i_100_104 : pg_at 100 104 = some (5, 9, 0, 1) := by decide +kernel
theorem i_100_105 : pg_at 100 105 = some (16, 35, 0, 0) := by decide +kernel
theorem i_100_106 : pg_at 100 106 = some (0, 0, 0, 0) := by decide +kernel
theorem i_100_107 : pg_at 100 107 = some (2, 9, 0, 0) := by decide +kernel
theorem i_100_108 : pg_at 100 108 = some (1, 9, 0, 0) := by decide +kernel
theorem i_100_109 : pg_at 100 109 = some (0, 0, 0, 70) := by decide +kernel
theorem i_100_110 : pg_at 100 110 = some (18, 218, 3, 0) := by decide +kernel
theorem i_100_111 : pg_at 100 111 = some (1, 8, 0, 0) := by decide +kernel
theorem i_100_112 : pg_at 100 112 = some (17, 218, 0, 0) := by decide +kernel
theorem i_100_113 : pg_at 100 113 = some (3, 0, 0, 0) := by decide +kernel
theorem i_100_114 : pg_at 100 114 = some (0, 0, 0, 2) := by decide +kernel
theorem i_100_115 : pg_at 100 115 = some (1, 9, 0, 0) := by decide +kernel
theorem i_100_116 : pg_at 100 116 = some (8, 0, 0, 0) := by decide +kernel
theorem i_100_117 : pg_at 100 117 = some (0, 0, 0, 32) := by decide +kernel
theorem i_100_118 : pg_at 100 118 = some (40, 77, 0, 156) := by decide +kernel
theorem i_100_119 : pg_at 100 119 = some (2, 10, 0, 0) := by decide +kernel
theorem i_100_120 : pg_at 100 120 = some (3, 0, 0, 0) := by decide +kernel
theorem i_100_121 : pg_at 100 121 = some (0, 0, 0, 2) := by decide +kernel
theorem i_100_122 : pg_at 100 122 = some (1, 9, 0, 0) := by decide +kernel
theorem i_100_123 : pg_at 100 123 = some (8, 0, 0, 0) := by decide +kernel
theorem i_100_124 : pg_at 100 124 = some (0, 0, 0, 1) := by decide +kernel
theorem i_100_125 : pg_at 100 125 = some (6, 0, 0, 0) := by decide +kernel
theorem i_100_126 : pg_at 100 126 = some (0, 0, 163, 1000000000) := by decide +kernel
theorem i_100_127 : pg_at 100 127 = some (40, 77, 0, 156) := by decide +kernel
theorem i_100_128 : pg_at 100 128 = some (2, 11, 0, 0) := by decide +kernel
theorem i_100_129 : pg_at 100 129 = some (1, 10, 0, 0) := by decide +kernel
theorem i_100_130 : pg_at 100 130 = some (0, 0, 0, 11) := by decide +kernel
theorem i_100_131 : pg_at 100 131 = some (18, 141, 3, 0) := by decide +kernel
theorem i_100_132 : pg_at 100 132 = some (3, 1, 0, 0) := by decide +kernel
theorem i_100_133 : pg_at 100 133 = some (3, 2, 0, 0) := by decide +kernel
theorem i_100_134 : pg_at 100 134 = some (3, 4, 0, 0) := by decide +kernel
theorem i_100_135 : pg_at 100 135 = some (3, 6, 0, 0) := by decide +kernel
theorem i_100_136 : pg_at 100 136 = some (3, 7, 0, 0) := by decide +kernel
theorem i_100_137 : pg_at 100 137 = some (1, 11, 0, 0) := by decide +kernel
theorem i_100_138 : pg_at 100 138 = some (40, 85, 0, 164) := by decide +kernel
theorem i_100_139 : pg_at 100 139 = some (2, 8, 0, 0) := by decide +kernel
theorem i_100_140 : pg_at 100 140 = some (16, 198, 0, 0) := by decide +kernel
theorem i_100_141 : pg_at 100 141 = some (1, 10, 0, 0) := by decide +kernel
theorem i_100_142 : pg_at 100 142 = some (0, 0, 0, 15) := by decide +kernel
theorem i_100_143 : pg_at 100 143 = some (18, 151, 3, 0) := by decide +kernel
theorem i_100_144 : pg_at 100 144 = some (3, 1, 0, 0) := by decide +kernel
theorem i_100_145 : pg_at 100 145 = some (3, 2, 0, 0) := by decide +kernel
theorem i_100_146 : pg_at 100 146 = some (3, 7, 0, 0) := by decide +kernel
theorem i_100_147 : pg_at 100 147 = some (1, 11, 0, 0) := by decide +kernel
theorem i_100_148 : pg_at 100 148 = some (40, 97, 0, 168) := by decide +kernel
theorem i_100_149 : pg_at 100 149 = some (2, 8, 0, 0) := by decide +kernel
theorem i_100_150 : pg_at 100 150 = some (16, 198, 0, 0) := by decide +kernel
theorem i_100_151 : pg_at 100 151 = some (1, 10, 0, 0) := by decide +kernel
theorem i_100_152 : pg_at 100 152 = some (0, 0, 0, 17) := by decide +kernel
theorem i_100_153 : pg_at 100 153 = some (18, 163, 3, 0) := by decide +kernel
theorem i_100_154 : pg_at 100 154 = some (3, 1, 0, 0) := by decide +kernel
theorem i_100_155 : pg_at 100 155 = some (3, 2, 0, 0) := by decide +kernel
theorem i_100_156 : pg_at 100 156 = some (3, 3, 0, 0) := by decide +kernel
theorem i_100_157 : pg_at 100 157 = some (3, 4, 0, 0) := by decide +kernel
theorem i_100_158 : pg_at 100 158 = some (3, 6, 0, 0) := by decide +kernel
theorem i_100_159 : pg_at 100 159 = some (3, 7, 0, 0) := by decide +kernel
theorem i_100_160 : pg_at 100 160 = some (40, 92, 0, 172) := by decide +kernel
theorem i_100_161 : pg_at 100 161 = some (2, 8, 0, 0) := by decide +kernel
theorem i_100_162 : pg_at 100 162 = some (16, 198, 0, 0) := by decide +kernel
theorem i_100_163 : pg_at 100 163 = some (1, 10, 0, 0) := by decide +kernel
theorem i_100_164 : pg_at 100 164 = some (0, 0, 0, 24) := by decide +kernel
theorem i_100_165 : pg_at 100 165 = some (18, 184, 3, 0) := by decide +kernel
theorem i_100_166 : pg_at 100 166 = some (3, 1, 0, 0) := by decide +kernel
theorem i_100_167 : pg_at 100 167 = some (3, 2, 0, 0) := by decide +kernel
theorem i_100_168 : pg_at 100 168 = some (3, 3, 0, 0) := by decide +kernel
theorem i_100_169 : pg_at 100 169 = some (3, 4, 0, 0) := by decide +kernel
theorem i_100_170 : pg_at 100 170 = some (3, 6, 0, 0) := by decide +kernel
theorem i_100_171 : pg_at 100 171 = some (3, 7, 0, 0) := by decide +kernel
theorem i_100_172 : pg_at 100 172 = some (1, 10, 0, 0) := by decide +kernel
theorem i_100_173 : pg_at 100 173 = some (0, 0, 0, 19) := by decide +kernel
theorem i_100_174 : pg_at 100 174 = some (18, 177, 3, 0) := by decide +kernel
theorem i_100_175 : pg_at 100 175 = some (0, 0, 0, 2) := by decide +kernel
theorem i_100_176 : pg_at 100 176 = some (16, 180, 0, 0) := by decide +kernel
theorem i_100_177 : pg_at 100 177 = some (1, 10, 0, 0) := by decide +kernel
theorem i_100_178 : pg_at 100 178 = some (0, 0, 0, 19) := by decide +kernel
theorem i_100_179 : pg_at 100 179 = some (7, 0, 0, 0) := by decide +kernel
theorem i_100_180 : pg_at 100 180 = some (1, 11, 0, 0) := by decide +kernel
theorem i_100_181 : pg_at 100 181 = some (40, 98, 0, 176) := by decide +kernel
theorem i_100_182 : pg_at 100 182 = some (2, 8, 0, 0) := by decide +kernel
theorem i_100_183 : pg_at 100 183 = some (16, 198, 0, 0) := by decide +kernel
theorem i_100_184 : pg_at 100 184 = some (3, 1, 0, 0) := by decide +kernel
theorem i_100_185 : pg_at 100 185 = some (3, 2, 0, 0) := by decide +kernel
theorem i_100_186 : pg_at 100 186 = some (3, 3, 0, 0) := by decide +kernel
theorem i_100_187 : pg_at 100 187 = some (3, 5, 0, 0) := by decide +kernel
theorem i_100_188 : pg_at 100 188 = some (3, 6, 0, 0) := by decide +kernel
theorem i_100_189 : pg_at 100 189 = some (3, 7, 0, 0) := by decide +kernel
theorem i_100_190 : pg_at 100 190 = some (1, 10, 0, 0) := by decide +kernel
theorem i_100_191 : pg_at 100 191 = some (0, 0, 0, 29) := by decide +kernel
theorem i_100_192 : pg_at 100 192 = some (18, 195, 3, 0) := by decide +kernel
theorem i_100_193 : pg_at 100 193 = some (0, 0, 0, 1) := by decide +kernel
theorem i_100_194 : pg_at 100 194 = some (16, 196, 0, 0) := by decide +kernel
theorem i_100_195 : pg_at 100 195 = some (0, 0, 0, 0) := by decide +kernel
theorem i_100_196 : pg_at 100 196 = some (40, 99, 0, 180) := by decide +kernel
theorem i_100_197 : pg_at 100 197 = some (2, 8, 0, 0) := by decide +kernel
theorem i_100_198 : pg_at 100 198 = some (1, 8, 0, 0) := by decide +kernel
theorem i_100_199 : pg_at 100 199 = some (17, 214, 0, 0) := by decide +kernel
theorem i_100_200 : pg_at 100 200 = some (3, 1, 0, 0) := by decide +kernel
theorem i_100_201 : pg_at 100 201 = some (3, 2, 0, 0) := by decide +kernel
theorem i_100_202 : pg_at 100 202 = some (3, 3, 0, 0) := by decide +kernel
theorem i_100_203 : pg_at 100 203 = some (3, 4, 0, 0) := by decide +kernel
theorem i_100_204 : pg_at 100 204 = some (3, 5, 0, 0) := by decide +kernel
theorem i_100_205 : pg_at 100 205 = some (3, 6, 0, 0) := by decide +kernel
theorem i_100_206 : pg_at 100 206 = some (3, 7, 0, 0) := by decide +kernel
theorem i_100_207 : pg_at 100 207 = some (1, 11, 0, 0) := by decide +kernel
theorem i_100_208 : pg_at 100 208 = some (0, 0, 0, 3) := by decide +kernel
theorem i_100_209 : pg_at 100 209 = some (9, 0, 0, 0) := by decide +kernel
theorem i_100_210 : pg_at 100 210 = some (40, 96, 0, 184) := by decide +kernel
theorem i_100_211 : pg_at 100 211 = some (17, 214, 0, 0) := by decide +kernel
theorem i_100_212 : pg_at 100 212 = some (0, 0, 0, 1) := by decide +kernel
theorem i_100_213 : pg_at 100 213 = some (16, 215, 0, 0) := by decide +kernel
theorem i_100_214 : pg_at 100 214 = some (0, 0, 0, 0) := by decide +kernel
theorem i_100_215 : pg_at 100 215 = some (2, 8, 0, 0) := by decide +kernel
theorem i_100_216 : pg_at 100 216 = some (5, 9, 0, 1) := by decide +kernel
theorem i_100_217 : pg_at 100 217 = some (16, 108, 0, 0) := by decide +kernel
theorem i_100_218 : pg_at 100 218 = some (1, 8, 0, 0) := by decide +kernel
theorem i_100_219 : pg_at 100 219 = some (45, 0, 0, 0) := by decide +kernel
theorem mf_100 : pg_na 100 = 1 ∧ pg_ml 100 = 12 ∧ pg_cst 100 = 100000 ∧ pg_cl 100 = 99 := by decide +kernel
theorem rt_100 : pg_rt 100 = some .boolean := by decide +kernel
theorem hx_100 : pg_hx 100 = [] := by decide +kernel
theorem i_101_0 : pg_at 101 0 = some (3, 0, 0, 0) := by decide +kernel
theorem i_101_1 : pg_at 101 1 = some (40, 100, 0, 188) := by decide +kernel
theorem i_101_2 : pg_at 101 2 = some (45, 0, 0, 0) := by decide +kernel
theorem i_101_3 : pg_at 101 3 = some (4, 1, 0, 0) := by decide +kernel
theorem i_101_4 : pg_at 101 4 = some (0, 0, 0, 0) := by decide +kernel
theorem i_101_5 : pg_at 101 5 = some (45, 0, 0, 0) := by decide +kernel
theorem i_101_6 : pg_at 101 6 = some (4, 1, 0, 0) := by decide +kernel
theorem i_101_7 : pg_at 101 7 = some (0, 0, 0, 0) := by decide +kernel
theorem i_101_8 : pg_at 101 8 = some (45, 0, 0, 0) := by decide +kernel
theorem i_101_9 : pg_at 101 9 = some (4, 1, 0, 0) := by decide +kernel
theorem i_101_10 : pg_at 101 10 = some (0, 0, 0, 0) := by decide +kernel
theorem i_101_11 : pg_at 101 11 = some (45, 0, 0, 0) := by decide +kernel
theorem mf_101 : pg_na 101 = 1 ∧ pg_ml 101 = 2 ∧ pg_cst 101 = 100000 ∧ pg_cl 101 = 99 := by decide +kernel
theorem rt_101 : pg_rt 101 = some .boolean := by decide +kernel
theorem i_102_0 : pg_at 102 0 = some (3, 0, 0, 0) := by decide +kernel
theorem i_102_1 : pg_at 102 1 = some (40, 101, 0, 198) := by decide +kernel
theorem i_102_2 : pg_at 102 2 = some (45, 0, 0, 0) := by decide +kernel
theorem mf_102 : pg_na 102 = 1 ∧ pg_ml 102 = 1 ∧ pg_cst 102 = 100000 ∧ pg_cl 102 = 99 := by decide +kernel
theorem rt_102 : pg_rt 102 = some .boolean := by decide +kernel
theorem hx_102 : pg_hx 102 = [] := by decide +kernel
end
section
/-! switches, a row a table -/
theorem sw_lo_0 : (pg_sw.getD 0 (0, 0, 0, [])).1 = 0 ∧ (pg_sw.getD 0 (0, 0, 0, [])).2.1 = 6 ∧ (pg_sw.getD 0 (0, 0, 0, [])).2.2.1 = 44 ∧ (pg_sw.getD 0 (0, 0, 0, [])).2.2.2 = [16, 19, 22, 32, 35, 38, 41] := by decide +kernel
theorem mw_sw_0 {d b y i c : Nat} {z : Int} {ls : List (Option PV)} {r : List PV} {K : KM} {I : IM} {R : RM} {Q : QT} {x : Int32} (hi : pg_at y i = some (20, 0, c, z)) (h0 : x = nI 0 → Mw d b y 16 ls r K I R Q) (h1 : x = nI 1 → Mw d b y 19 ls r K I R Q) (h2 : x = nI 2 → Mw d b y 22 ls r K I R Q) (h3 : x = nI 3 → Mw d b y 32 ls r K I R Q) (h4 : x = nI 4 → Mw d b y 35 ls r K I R Q) (h5 : x = nI 5 → Mw d b y 38 ls r K I R Q) (h6 : x = nI 6 → Mw d b y 41 ls r K I R Q) (ho : (∀ k, k < 7 → ¬ x = nI k) → Mw d b y 44 ls r K I R Q) : Mw d b y i ls (pI x :: r) K I R Q := by
  obtain ⟨e1, e2, e3, e4⟩ := sw_lo_0
  refine mw_sw hi (fun k t hk hx => ?_) (fun h => ?_)
  · rw [e4] at hk
    rw [e1] at hx
    have hkn : k < 7 := (List.getElem?_eq_some_iff.mp hk).1
    have ex : x = nI k := by
      apply Int32.toInt_inj.mp
      rw [nI_toInt (by omega)]
      omega
    match k, hkn, hk, ex with
    | 0, _, hk, ex => cases hk; exact h0 ex
    | 1, _, hk, ex => cases hk; exact h1 ex
    | 2, _, hk, ex => cases hk; exact h2 ex
    | 3, _, hk, ex => cases hk; exact h3 ex
    | 4, _, hk, ex => cases hk; exact h4 ex
    | 5, _, hk, ex => cases hk; exact h5 ex
    | 6, _, hk, ex => cases hk; exact h6 ex
    | n + 7, hkn, _, _ => exact absurd hkn (by omega)
  · rw [e3]
    refine ho (fun k hk e => ?_)
    subst e
    rw [e1, e2, nI_toInt (by omega)] at h
    omega
theorem sw_lo_1 : (pg_sw.getD 1 (0, 0, 0, [])).1 = 0 ∧ (pg_sw.getD 1 (0, 0, 0, [])).2.1 = 3 ∧ (pg_sw.getD 1 (0, 0, 0, [])).2.2.1 = 37 ∧ (pg_sw.getD 1 (0, 0, 0, [])).2.2.2 = [16, 24, 27, 30] := by decide +kernel
theorem mw_sw_1 {d b y i c : Nat} {z : Int} {ls : List (Option PV)} {r : List PV} {K : KM} {I : IM} {R : RM} {Q : QT} {x : Int32} (hi : pg_at y i = some (20, 1, c, z)) (h0 : x = nI 0 → Mw d b y 16 ls r K I R Q) (h1 : x = nI 1 → Mw d b y 24 ls r K I R Q) (h2 : x = nI 2 → Mw d b y 27 ls r K I R Q) (h3 : x = nI 3 → Mw d b y 30 ls r K I R Q) (ho : (∀ k, k < 4 → ¬ x = nI k) → Mw d b y 37 ls r K I R Q) : Mw d b y i ls (pI x :: r) K I R Q := by
  obtain ⟨e1, e2, e3, e4⟩ := sw_lo_1
  refine mw_sw hi (fun k t hk hx => ?_) (fun h => ?_)
  · rw [e4] at hk
    rw [e1] at hx
    have hkn : k < 4 := (List.getElem?_eq_some_iff.mp hk).1
    have ex : x = nI k := by
      apply Int32.toInt_inj.mp
      rw [nI_toInt (by omega)]
      omega
    match k, hkn, hk, ex with
    | 0, _, hk, ex => cases hk; exact h0 ex
    | 1, _, hk, ex => cases hk; exact h1 ex
    | 2, _, hk, ex => cases hk; exact h2 ex
    | 3, _, hk, ex => cases hk; exact h3 ex
    | n + 4, hkn, _, _ => exact absurd hkn (by omega)
  · rw [e3]
    refine ho (fun k hk e => ?_)
    subst e
    rw [e1, e2, nI_toInt (by omega)] at h
    omega
theorem sw_lo_2 : (pg_sw.getD 2 (0, 0, 0, [])).1 = 0 ∧ (pg_sw.getD 2 (0, 0, 0, [])).2.1 = 5 ∧ (pg_sw.getD 2 (0, 0, 0, [])).2.2.1 = 50 ∧ (pg_sw.getD 2 (0, 0, 0, [])).2.2.2 = [20, 23, 26, 37, 40, 43] := by decide +kernel
theorem mw_sw_2 {d b y i c : Nat} {z : Int} {ls : List (Option PV)} {r : List PV} {K : KM} {I : IM} {R : RM} {Q : QT} {x : Int32} (hi : pg_at y i = some (20, 2, c, z)) (h0 : x = nI 0 → Mw d b y 20 ls r K I R Q) (h1 : x = nI 1 → Mw d b y 23 ls r K I R Q) (h2 : x = nI 2 → Mw d b y 26 ls r K I R Q) (h3 : x = nI 3 → Mw d b y 37 ls r K I R Q) (h4 : x = nI 4 → Mw d b y 40 ls r K I R Q) (h5 : x = nI 5 → Mw d b y 43 ls r K I R Q) (ho : (∀ k, k < 6 → ¬ x = nI k) → Mw d b y 50 ls r K I R Q) : Mw d b y i ls (pI x :: r) K I R Q := by
  obtain ⟨e1, e2, e3, e4⟩ := sw_lo_2
  refine mw_sw hi (fun k t hk hx => ?_) (fun h => ?_)
  · rw [e4] at hk
    rw [e1] at hx
    have hkn : k < 6 := (List.getElem?_eq_some_iff.mp hk).1
    have ex : x = nI k := by
      apply Int32.toInt_inj.mp
      rw [nI_toInt (by omega)]
      omega
    match k, hkn, hk, ex with
    | 0, _, hk, ex => cases hk; exact h0 ex
    | 1, _, hk, ex => cases hk; exact h1 ex
    | 2, _, hk, ex => cases hk; exact h2 ex
    | 3, _, hk, ex => cases hk; exact h3 ex
    | 4, _, hk, ex => cases hk; exact h4 ex
    | 5, _, hk, ex => cases hk; exact h5 ex
    | n + 6, hkn, _, _ => exact absurd hkn (by omega)
  · rw [e3]
    refine ho (fun k hk e => ?_)
    subst e
    rw [e1, e2, nI_toInt (by omega)] at h
    omega
end
