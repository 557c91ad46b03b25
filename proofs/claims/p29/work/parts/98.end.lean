/-! THE CLAIM OUT OF ONE WALK OF THE LAW'S BODY. Your part is whole_start (and what it stands on); all else here is the same for every law, but numbers. -/
def R_law : String := "KayfabeRingLaw"
def lw_P (b : Addr) (xs : List Int32) (args : Array Value) (s : State) : Prop := args = #[.ref b] ∧ s.IntsAt b xs ∧ xs.length ≤ 260 ∧ (Jvm.Cond.and given_1 narrow_1).before args s = true
def lw_Q (_ : Array Value) (s : State) (o : Outcome) (t : State) : Prop := o = .returned (some (.int 1)) ∧ Framed s o t [] 721522 6937264
def lw_Z (below : List Frame) (a : Array Value) (s : State) : State → Prop := fun t => ∃ o, t.status = .running ∧ Ended t below o ∧ lw_Q a s o t
/-- the law's own end, with 1 on the stack, nothing written that was there before, its room as the claim has it -/
theorem lw_ret {p : Program} {l : Launch} {e : Env} {s : State} {m : MethodId} {below : List Frame} {meth : Method} {c : Code} {b : Nat} (hx : p.tables.exec = Jvm.exec) (hb : c.code = code) (hr : meth.sig.returnType = ret) (hlocks : meth.locks = false) {pc : Nat} {H : Heap} {ls : Array Slot} (hdg : decode code pc = .ok (.ireturn, 1)) : W p l e room_1 s m #[Value.ref b] below meth c H [] 721522 6937264 (lw_Z below #[Value.ref b] s) (F0 m pc ls [.int 1]) := by
  intro T hT X
  obtain ⟨fs, hret, hrun, hended, hW, hframe⟩ := X.leave (v := some (.int 1)) (hlocks := hlocks) (fun h => by rw [hr] at h; cases h)
  have hmeth' : T.vm.method? m = some meth := X.method'
  refine ⟨T.setFrames fs, ?_, .returned (some (.int 1)), hrun, hended, rfl, ⟨_, rfl⟩, hW, hframe⟩
  jvm_step X.here [X.here.top, hx, hb, hdg, hmeth', hr, ret, narrow_b1]
  (try refine ⟨rfl, ?_⟩); (try refine ⟨rfl, ?_⟩)
  first | (intro acts; rw [hret _ acts rfl rfl rfl]) | rw [hret _ _ rfl rfl rfl]
  exact Steps.refl _
/-- what holds at the law's entry: the machine, the code, the tables' words (any of lw_tbl by 'hts w (by decide +kernel)'), the script of L ints xs at the cell b, what the Statement gives of the start (any of its parts by flat_of_before) -/
def lw_At (p : Program) (s : State) (m : MethodId) (meth : Method) (c : Code) (b L : Nat) (xs : Nat → Int32) : Prop :=
  p.tables.exec = Jvm.exec ∧ c.code = code ∧ meth.sig.returnType = ret ∧ c.maxLocals = 1 ∧ s.vm.findClass R_law = some m.cls ∧ (∀ w ∈ lw_tbl, w.before #[Value.ref b] s = true) ∧ va_X b L xs s s.heap ∧ b < s.heap.size ∧ meth.locks = false ∧ (Jvm.Cond.and given_1 narrow_1).before #[Value.ref b] s = true

def SCR : Lb := (0, 0, 0)
def K00 (L : Nat) : KM := fun q => if q = SCR then some (14, L) else none
def I00 (xs : Nat → Int32) : IM := fun q => if q = SCR then xs else fun _ => 0
def R00 : RM := fun _ _ => none
def QL : QT := fun r _ _ _ => r = .inl (some (pI 1))
/-- what is owed in the pure machine -/
def HMT : Prop := ∀ (L : Nat) (xs : Nat → Int32), L ≤ 260 → Mw 1000 100000 N_L_law 0 (entls N_L_law [pR (some SCR)]) [] (K00 L) (I00 xs) R00 QL

theorem z_str0 {args : Array Value} {s : State} (hts : ∀ w ∈ lw_tbl, w.before args s = true) (hgv : (Jvm.Cond.and given_1 narrow_1).before args s = true) : ∃ sa, vk_R "KayfabeRing" 51 "skill, mic or role is out of range" sa s := by
  have h1 : (Cond.stringRef "KayfabeRing" 51 "skill, mic or role is out of range").before args s = true := hts _ (List.mem_of_getElem? (i := 379) (by decide +kernel))
  have h2 : (Cond.exactly (.string "KayfabeRing" 51) "java/lang/String").before args s = true := flat_of_before _ hgv _ (by decide +kernel)
  obtain ⟨a, c, cA, kA, q1, q2⟩ := Cond.exactly_spec h2
  exact ⟨a, vk_R.of (A := #[]) h1 q1⟩
theorem z_str1 {args : Array Value} {s : State} (hts : ∀ w ∈ lw_tbl, w.before args s = true) (hgv : (Jvm.Cond.and given_1 narrow_1).before args s = true) : ∃ sa, vk_R "KayfabeRing" 62 "the roster is full" sa s := by
  have h1 : (Cond.stringRef "KayfabeRing" 62 "the roster is full").before args s = true := hts _ (List.mem_of_getElem? (i := 386) (by decide +kernel))
  have h2 : (Cond.exactly (.string "KayfabeRing" 62) "java/lang/String").before args s = true := flat_of_before _ hgv _ (by decide +kernel)
  obtain ⟨a, c, cA, kA, q1, q2⟩ := Cond.exactly_spec h2
  exact ⟨a, vk_R.of (A := #[]) h1 q1⟩
theorem z_str2 {args : Array Value} {s : State} (hts : ∀ w ∈ lw_tbl, w.before args s = true) (hgv : (Jvm.Cond.and given_1 narrow_1).before args s = true) : ∃ sa, vk_R "KayfabeRing" 77 "there are all titles" sa s := by
  have h1 : (Cond.stringRef "KayfabeRing" 77 "there are all titles").before args s = true := hts _ (List.mem_of_getElem? (i := 331) (by decide +kernel))
  have h2 : (Cond.exactly (.string "KayfabeRing" 77) "java/lang/String").before args s = true := flat_of_before _ hgv _ (by decide +kernel)
  obtain ⟨a, c, cA, kA, q1, q2⟩ := Cond.exactly_spec h2
  exact ⟨a, vk_R.of (A := #[]) h1 q1⟩
theorem z_str3 {args : Array Value} {s : State} (hts : ∀ w ∈ lw_tbl, w.before args s = true) (hgv : (Jvm.Cond.and given_1 narrow_1).before args s = true) : ∃ sa, vk_R "KayfabeRing" 85 "no such wrestler" sa s := by
  have h1 : (Cond.stringRef "KayfabeRing" 85 "no such wrestler").before args s = true := hts _ (List.mem_of_getElem? (i := 491) (by decide +kernel))
  have h2 : (Cond.exactly (.string "KayfabeRing" 85) "java/lang/String").before args s = true := flat_of_before _ hgv _ (by decide +kernel)
  obtain ⟨a, c, cA, kA, q1, q2⟩ := Cond.exactly_spec h2
  exact ⟨a, vk_R.of (A := #[]) h1 q1⟩
theorem z_str4 {args : Array Value} {s : State} (hts : ∀ w ∈ lw_tbl, w.before args s = true) (hgv : (Jvm.Cond.and given_1 narrow_1).before args s = true) : ∃ sa, vk_R "KayfabeRing" 88 "both are the same, or until is out of range" sa s := by
  have h1 : (Cond.stringRef "KayfabeRing" 88 "both are the same, or until is out of range").before args s = true := hts _ (List.mem_of_getElem? (i := 599) (by decide +kernel))
  have h2 : (Cond.exactly (.string "KayfabeRing" 88) "java/lang/String").before args s = true := flat_of_before _ hgv _ (by decide +kernel)
  obtain ⟨a, c, cA, kA, q1, q2⟩ := Cond.exactly_spec h2
  exact ⟨a, vk_R.of (A := #[]) h1 q1⟩
theorem z_str5 {args : Array Value} {s : State} (hts : ∀ w ∈ lw_tbl, w.before args s = true) (hgv : (Jvm.Cond.and given_1 narrow_1).before args s = true) : ∃ sa, vk_R "KayfabeRing" 93 "day is out of range" sa s := by
  have h1 : (Cond.stringRef "KayfabeRing" 93 "day is out of range").before args s = true := hts _ (List.mem_of_getElem? (i := 604) (by decide +kernel))
  have h2 : (Cond.exactly (.string "KayfabeRing" 93) "java/lang/String").before args s = true := flat_of_before _ hgv _ (by decide +kernel)
  obtain ⟨a, c, cA, kA, q1, q2⟩ := Cond.exactly_spec h2
  exact ⟨a, vk_R.of (A := #[]) h1 q1⟩
theorem z_str6 {args : Array Value} {s : State} (hts : ∀ w ∈ lw_tbl, w.before args s = true) (hgv : (Jvm.Cond.and given_1 narrow_1).before args s = true) : ∃ sa, vk_R "KayfabeRing" 104 "no such town, wrestler or title" sa s := by
  have h1 : (Cond.stringRef "KayfabeRing" 104 "no such town, wrestler or title").before args s = true := hts _ (List.mem_of_getElem? (i := 431) (by decide +kernel))
  have h2 : (Cond.exactly (.string "KayfabeRing" 104) "java/lang/String").before args s = true := flat_of_before _ hgv _ (by decide +kernel)
  obtain ⟨a, c, cA, kA, q1, q2⟩ := Cond.exactly_spec h2
  exact ⟨a, vk_R.of (A := #[]) h1 q1⟩
theorem z_str7 {args : Array Value} {s : State} (hts : ∀ w ∈ lw_tbl, w.before args s = true) (hgv : (Jvm.Cond.and given_1 narrow_1).before args s = true) : ∃ sa, vk_R "KayfabeRing" 109 "day or minutes is out of range, or both are the same" sa s := by
  have h1 : (Cond.stringRef "KayfabeRing" 109 "day or minutes is out of range, or both are the same").before args s = true := hts _ (List.mem_of_getElem? (i := 438) (by decide +kernel))
  have h2 : (Cond.exactly (.string "KayfabeRing" 109) "java/lang/String").before args s = true := flat_of_before _ hgv _ (by decide +kernel)
  obtain ⟨a, c, cA, kA, q1, q2⟩ := Cond.exactly_spec h2
  exact ⟨a, vk_R.of (A := #[]) h1 q1⟩
theorem z_str8 {args : Array Value} {s : State} (hts : ∀ w ∈ lw_tbl, w.before args s = true) (hgv : (Jvm.Cond.and given_1 narrow_1).before args s = true) : ∃ sa, vk_R "KayfabeRing" 125 "the card can't take this match" sa s := by
  have h1 : (Cond.stringRef "KayfabeRing" 125 "the card can't take this match").before args s = true := hts _ (List.mem_of_getElem? (i := 459) (by decide +kernel))
  have h2 : (Cond.exactly (.string "KayfabeRing" 125) "java/lang/String").before args s = true := flat_of_before _ hgv _ (by decide +kernel)
  obtain ⟨a, c, cA, kA, q1, q2⟩ := Cond.exactly_spec h2
  exact ⟨a, vk_R.of (A := #[]) h1 q1⟩
theorem z_str9 {args : Array Value} {s : State} (hts : ∀ w ∈ lw_tbl, w.before args s = true) (hgv : (Jvm.Cond.and given_1 narrow_1).before args s = true) : ∃ sa, vk_R "KayfabeRing" 136 "one is hurt or barred, or the champion is neither" sa s := by
  have h1 : (Cond.stringRef "KayfabeRing" 136 "one is hurt or barred, or the champion is neither").before args s = true := hts _ (List.mem_of_getElem? (i := 472) (by decide +kernel))
  have h2 : (Cond.exactly (.string "KayfabeRing" 136) "java/lang/String").before args s = true := flat_of_before _ hgv _ (by decide +kernel)
  obtain ⟨a, c, cA, kA, q1, q2⟩ := Cond.exactly_spec h2
  exact ⟨a, vk_R.of (A := #[]) h1 q1⟩
theorem z_str10 {args : Array Value} {s : State} (hts : ∀ w ∈ lw_tbl, w.before args s = true) (hgv : (Jvm.Cond.and given_1 narrow_1).before args s = true) : ∃ sa, vk_R "KayfabeRing" 160 "no such match" sa s := by
  have h1 : (Cond.stringRef "KayfabeRing" 160 "no such match").before args s = true := hts _ (List.mem_of_getElem? (i := 635) (by decide +kernel))
  have h2 : (Cond.exactly (.string "KayfabeRing" 160) "java/lang/String").before args s = true := flat_of_before _ hgv _ (by decide +kernel)
  obtain ⟨a, c, cA, kA, q1, q2⟩ := Cond.exactly_spec h2
  exact ⟨a, vk_R.of (A := #[]) h1 q1⟩
theorem z_str11 {args : Array Value} {s : State} (hts : ∀ w ∈ lw_tbl, w.before args s = true) (hgv : (Jvm.Cond.and given_1 narrow_1).before args s = true) : ∃ sa, vk_R "KayfabeRing" 166 "the card is played" sa s := by
  have h1 : (Cond.stringRef "KayfabeRing" 166 "the card is played").before args s = true := hts _ (List.mem_of_getElem? (i := 636) (by decide +kernel))
  have h2 : (Cond.exactly (.string "KayfabeRing" 166) "java/lang/String").before args s = true := flat_of_before _ hgv _ (by decide +kernel)
  obtain ⟨a, c, cA, kA, q1, q2⟩ := Cond.exactly_spec h2
  exact ⟨a, vk_R.of (A := #[]) h1 q1⟩
theorem z_str12 {args : Array Value} {s : State} (hts : ∀ w ∈ lw_tbl, w.before args s = true) (hgv : (Jvm.Cond.and given_1 narrow_1).before args s = true) : ∃ sa, vk_R "KayfabeRing" 175 "days is out of range" sa s := by
  have h1 : (Cond.stringRef "KayfabeRing" 175 "days is out of range").before args s = true := hts _ (List.mem_of_getElem? (i := 511) (by decide +kernel))
  have h2 : (Cond.exactly (.string "KayfabeRing" 175) "java/lang/String").before args s = true := flat_of_before _ hgv _ (by decide +kernel)
  obtain ⟨a, c, cA, kA, q1, q2⟩ := Cond.exactly_spec h2
  exact ⟨a, vk_R.of (A := #[]) h1 q1⟩
theorem z_str13 {args : Array Value} {s : State} (hts : ∀ w ∈ lw_tbl, w.before args s = true) (hgv : (Jvm.Cond.and given_1 narrow_1).before args s = true) : ∃ sa, vk_R "KayfabeRing" 199 "there is no card, it is played, or somebody on it is hurt" sa s := by
  have h1 : (Cond.stringRef "KayfabeRing" 199 "there is no card, it is played, or somebody on it is hurt").before args s = true := hts _ (List.mem_of_getElem? (i := 656) (by decide +kernel))
  have h2 : (Cond.exactly (.string "KayfabeRing" 199) "java/lang/String").before args s = true := flat_of_before _ hgv _ (by decide +kernel)
  obtain ⟨a, c, cA, kA, q1, q2⟩ := Cond.exactly_spec h2
  exact ⟨a, vk_R.of (A := #[]) h1 q1⟩
theorem z_str14 {args : Array Value} {s : State} (hts : ∀ w ∈ lw_tbl, w.before args s = true) (hgv : (Jvm.Cond.and given_1 narrow_1).before args s = true) : ∃ sa, vk_R "KayfabeRing" 205 "no such town or wrestler" sa s := by
  have h1 : (Cond.stringRef "KayfabeRing" 205 "no such town or wrestler").before args s = true := hts _ (List.mem_of_getElem? (i := 615) (by decide +kernel))
  have h2 : (Cond.exactly (.string "KayfabeRing" 205) "java/lang/String").before args s = true := flat_of_before _ hgv _ (by decide +kernel)
  obtain ⟨a, c, cA, kA, q1, q2⟩ := Cond.exactly_spec h2
  exact ⟨a, vk_R.of (A := #[]) h1 q1⟩
theorem z_str15 {args : Array Value} {s : State} (hts : ∀ w ∈ lw_tbl, w.before args s = true) (hgv : (Jvm.Cond.and given_1 narrow_1).before args s = true) : ∃ sa, vk_R "KayfabeRing" 207 "slips is out of range" sa s := by
  have h1 : (Cond.stringRef "KayfabeRing" 207 "slips is out of range").before args s = true := hts _ (List.mem_of_getElem? (i := 616) (by decide +kernel))
  have h2 : (Cond.exactly (.string "KayfabeRing" 207) "java/lang/String").before args s = true := flat_of_before _ hgv _ (by decide +kernel)
  obtain ⟨a, c, cA, kA, q1, q2⟩ := Cond.exactly_spec h2
  exact ⟨a, vk_R.of (A := #[]) h1 q1⟩
theorem z_str16 {args : Array Value} {s : State} (hts : ∀ w ∈ lw_tbl, w.before args s = true) (hgv : (Jvm.Cond.and given_1 narrow_1).before args s = true) : ∃ sa, vk_R "KayfabeRing" 212 "that one is hurt, or said a promo today" sa s := by
  have h1 : (Cond.stringRef "KayfabeRing" 212 "that one is hurt, or said a promo today").before args s = true := hts _ (List.mem_of_getElem? (i := 617) (by decide +kernel))
  have h2 : (Cond.exactly (.string "KayfabeRing" 212) "java/lang/String").before args s = true := flat_of_before _ hgv _ (by decide +kernel)
  obtain ⟨a, c, cA, kA, q1, q2⟩ := Cond.exactly_spec h2
  exact ⟨a, vk_R.of (A := #[]) h1 q1⟩
theorem z_str17 {args : Array Value} {s : State} (hts : ∀ w ∈ lw_tbl, w.before args s = true) (hgv : (Jvm.Cond.and given_1 narrow_1).before args s = true) : ∃ sa, vk_R "KayfabeRing" 229 "it is the last day" sa s := by
  have h1 : (Cond.stringRef "KayfabeRing" 229 "it is the last day").before args s = true := hts _ (List.mem_of_getElem? (i := 682) (by decide +kernel))
  have h2 : (Cond.exactly (.string "KayfabeRing" 229) "java/lang/String").before args s = true := flat_of_before _ hgv _ (by decide +kernel)
  obtain ⟨a, c, cA, kA, q1, q2⟩ := Cond.exactly_spec h2
  exact ⟨a, vk_R.of (A := #[]) h1 q1⟩
theorem z_str18 {args : Array Value} {s : State} (hts : ∀ w ∈ lw_tbl, w.before args s = true) (hgv : (Jvm.Cond.and given_1 narrow_1).before args s = true) : ∃ sa, vk_R "KayfabeRing" 246 "what is out of range" sa s := by
  have h1 : (Cond.stringRef "KayfabeRing" 246 "what is out of range").before args s = true := hts _ (List.mem_of_getElem? (i := 694) (by decide +kernel))
  have h2 : (Cond.exactly (.string "KayfabeRing" 246) "java/lang/String").before args s = true := flat_of_before _ hgv _ (by decide +kernel)
  obtain ⟨a, c, cA, kA, q1, q2⟩ := Cond.exactly_spec h2
  exact ⟨a, vk_R.of (A := #[]) h1 q1⟩
theorem z_str19 {args : Array Value} {s : State} (hts : ∀ w ∈ lw_tbl, w.before args s = true) (hgv : (Jvm.Cond.and given_1 narrow_1).before args s = true) : ∃ sa, vk_R "KayfabeRing" 273 "no such title, or not so much in its lineage" sa s := by
  have h1 : (Cond.stringRef "KayfabeRing" 273 "no such title, or not so much in its lineage").before args s = true := hts _ (List.mem_of_getElem? (i := 731) (by decide +kernel))
  have h2 : (Cond.exactly (.string "KayfabeRing" 273) "java/lang/String").before args s = true := flat_of_before _ hgv _ (by decide +kernel)
  obtain ⟨a, c, cA, kA, q1, q2⟩ := Cond.exactly_spec h2
  exact ⟨a, vk_R.of (A := #[]) h1 q1⟩
theorem z_str20 {args : Array Value} {s : State} (hts : ∀ w ∈ lw_tbl, w.before args s = true) (hgv : (Jvm.Cond.and given_1 narrow_1).before args s = true) : ∃ sa, vk_R "KayfabeRing" 281 "no such title" sa s := by
  have h1 : (Cond.stringRef "KayfabeRing" 281 "no such title").before args s = true := hts _ (List.mem_of_getElem? (i := 726) (by decide +kernel))
  have h2 : (Cond.exactly (.string "KayfabeRing" 281) "java/lang/String").before args s = true := flat_of_before _ hgv _ (by decide +kernel)
  obtain ⟨a, c, cA, kA, q1, q2⟩ := Cond.exactly_spec h2
  exact ⟨a, vk_R.of (A := #[]) h1 q1⟩
theorem z_str21 {args : Array Value} {s : State} (hts : ∀ w ∈ lw_tbl, w.before args s = true) (hgv : (Jvm.Cond.and given_1 narrow_1).before args s = true) : ∃ sa, vk_R "KayfabeRing" 292 "no such town" sa s := by
  have h1 : (Cond.stringRef "KayfabeRing" 292 "no such town").before args s = true := hts _ (List.mem_of_getElem? (i := 721) (by decide +kernel))
  have h2 : (Cond.exactly (.string "KayfabeRing" 292) "java/lang/String").before args s = true := flat_of_before _ hgv _ (by decide +kernel)
  obtain ⟨a, c, cA, kA, q1, q2⟩ := Cond.exactly_spec h2
  exact ⟨a, vk_R.of (A := #[]) h1 q1⟩
theorem z_str22 {args : Array Value} {s : State} (hts : ∀ w ∈ lw_tbl, w.before args s = true) (hgv : (Jvm.Cond.and given_1 narrow_1).before args s = true) : ∃ sa, vk_R "KayfabeRing" 314 "there is no card, or it is played" sa s := by
  have h1 : (Cond.stringRef "KayfabeRing" 314 "there is no card, or it is played").before args s = true := hts _ (List.mem_of_getElem? (i := 545) (by decide +kernel))
  have h2 : (Cond.exactly (.string "KayfabeRing" 314) "java/lang/String").before args s = true := flat_of_before _ hgv _ (by decide +kernel)
  obtain ⟨a, c, cA, kA, q1, q2⟩ := Cond.exactly_spec h2
  exact ⟨a, vk_R.of (A := #[]) h1 q1⟩
theorem z_str23 {args : Array Value} {s : State} (hts : ∀ w ∈ lw_tbl, w.before args s = true) (hgv : (Jvm.Cond.and given_1 narrow_1).before args s = true) : ∃ sa, vk_R "KayfabeRing" 323 "too many places are open" sa s := by
  have h1 : (Cond.stringRef "KayfabeRing" 323 "too many places are open").before args s = true := hts _ (List.mem_of_getElem? (i := 564) (by decide +kernel))
  have h2 : (Cond.exactly (.string "KayfabeRing" 323) "java/lang/String").before args s = true := flat_of_before _ hgv _ (by decide +kernel)
  obtain ⟨a, c, cA, kA, q1, q2⟩ := Cond.exactly_spec h2
  exact ⟨a, vk_R.of (A := #[]) h1 q1⟩
theorem z_nc12 {args : Array Value} {s : State} (hgv : (Jvm.Cond.and given_1 narrow_1).before args s = true) : va_Nc "java/lang/IllegalArgumentException" "java/lang/IllegalStateException" s := va_Nc.of (flat_of_before _ hgv _ (by decide +kernel))
theorem z_nc13 {args : Array Value} {s : State} (hgv : (Jvm.Cond.and given_1 narrow_1).before args s = true) : va_Nc "java/lang/IllegalArgumentException" "java/lang/IndexOutOfBoundsException" s := va_Nc.of (flat_of_before _ hgv _ (by decide +kernel))
theorem z_nc21 {args : Array Value} {s : State} (hgv : (Jvm.Cond.and given_1 narrow_1).before args s = true) : va_Nc "java/lang/IllegalStateException" "java/lang/IllegalArgumentException" s := va_Nc.of (flat_of_before _ hgv _ (by decide +kernel))
theorem z_nc23 {args : Array Value} {s : State} (hgv : (Jvm.Cond.and given_1 narrow_1).before args s = true) : va_Nc "java/lang/IllegalStateException" "java/lang/IndexOutOfBoundsException" s := va_Nc.of (flat_of_before _ hgv _ (by decide +kernel))
theorem z_nc31 {args : Array Value} {s : State} (hgv : (Jvm.Cond.and given_1 narrow_1).before args s = true) : va_Nc "java/lang/IndexOutOfBoundsException" "java/lang/IllegalArgumentException" s := va_Nc.of (flat_of_before _ hgv _ (by decide +kernel))
theorem z_nc32 {args : Array Value} {s : State} (hgv : (Jvm.Cond.and given_1 narrow_1).before args s = true) : va_Nc "java/lang/IndexOutOfBoundsException" "java/lang/IllegalStateException" s := va_Nc.of (flat_of_before _ hgv _ (by decide +kernel))
theorem z_sfp {args : Array Value} {s : State} (hts : ∀ w ∈ lw_tbl, w.before args s = true) (hgv : (Jvm.Cond.and given_1 narrow_1).before args s = true) : sfp s.heap.size s s.heap := by
  have hA : ∀ a : Nat, a < s.heap.size → ¬ ab s.heap.size a := fun a ha q => by
    have : s.heap.size ≤ a := q
    omega
  refine ⟨fun w hw ho => okw_use ho (hts w hw), fun k h1 h2 => ?_, fun q hq => ?_, fun e f hef => ?_, ?_, ?_, Nat.le_refl _⟩
  · have : k = 9 ∨ k = 10 ∨ k = 11 ∨ k = 12 := by omega
    rcases this with rfl | rfl | rfl | rfl
    · exact va_AO.of (hts _ (List.mem_of_getElem? (i := 56) (by decide +kernel)))
    · exact va_AO.of (hts _ (List.mem_of_getElem? (i := 63) (by decide +kernel)))
    · exact va_AO.of (hts _ (List.mem_of_getElem? (i := 54) (by decide +kernel)))
    · exact va_AO.of (hts _ (List.mem_of_getElem? (i := 52) (by decide +kernel)))
  · unfold pg_st at hq
    simp only [List.mem_cons, List.not_mem_nil, or_false] at hq
    rcases hq with rfl | rfl | rfl | rfl | rfl | rfl | rfl | rfl | rfl | rfl | rfl | rfl | rfl | rfl | rfl | rfl | rfl | rfl | rfl | rfl | rfl | rfl | rfl | rfl
    · exact z_str0 hts hgv
    · exact z_str1 hts hgv
    · exact z_str2 hts hgv
    · exact z_str3 hts hgv
    · exact z_str4 hts hgv
    · exact z_str5 hts hgv
    · exact z_str6 hts hgv
    · exact z_str7 hts hgv
    · exact z_str8 hts hgv
    · exact z_str9 hts hgv
    · exact z_str10 hts hgv
    · exact z_str11 hts hgv
    · exact z_str12 hts hgv
    · exact z_str13 hts hgv
    · exact z_str14 hts hgv
    · exact z_str15 hts hgv
    · exact z_str16 hts hgv
    · exact z_str17 hts hgv
    · exact z_str18 hts hgv
    · exact z_str19 hts hgv
    · exact z_str20 hts hgv
    · exact z_str21 hts hgv
    · exact z_str22 hts hgv
    · exact z_str23 hts hgv
  · have hcl : ∀ e, pg_ex e = pg_ex 1 ∨ pg_ex e = pg_ex 2 ∨ pg_ex e = pg_ex 3 := fun e => by
      match e with
      | 0 => exact Or.inr (Or.inr rfl)
      | 1 => exact Or.inl rfl
      | 2 => exact Or.inr (Or.inl rfl)
      | n + 3 => exact Or.inr (Or.inr rfl)
    rcases hcl e with h1 | h1 | h1 <;> rcases hcl f with h2 | h2 | h2 <;> rw [h1, h2] at hef ⊢
    · exact absurd rfl hef
    · exact z_nc12 hgv
    · exact z_nc13 hgv
    · exact z_nc21 hgv
    · exact absurd rfl hef
    · exact z_nc23 hgv
    · exact z_nc31 hgv
    · exact z_nc32 hgv
    · exact absurd rfl hef
  · exact vx_Zqof (hts _ (List.mem_of_getElem? (i := 317) (by decide +kernel))) (hts _ (List.mem_of_getElem? (i := 27) (by decide +kernel))) (flat_of_before _ hgv _ (by decide +kernel)) hA
  · exact vx_Zqof (hts _ (List.mem_of_getElem? (i := 319) (by decide +kernel))) (hts _ (List.mem_of_getElem? (i := 27) (by decide +kernel))) (flat_of_before _ hgv _ (by decide +kernel)) hA

set_option maxHeartbeats 1000000 in
/-- from the entry of the law: what the pure machine says is said of the machine -/
theorem whole_start (HM : HMT) {p : Program} {e : Env} {s : State} {m : MethodId} {below : List Frame} {meth : Method} {c : Code} (l : Launch) (hflags : l.flags = flags0) {b L : Nat} {xs : Nat → Int32} (hL : L ≤ 260) (hcx : Cx p s m meth c N_L_law) (hts : ∀ w ∈ lw_tbl, w.before #[Value.ref b] s = true) (hX : va_X b L xs s s.heap) (hbl : b < s.heap.size) (hgv : (Jvm.Cond.and given_1 narrow_1).before #[Value.ref b] s = true) : W p l e room_1 s m #[Value.ref b] below meth c s.heap [] 0 0 (lw_Z below #[Value.ref b] s) (entryFrame m ([Value.ref b] : List Value).toArray 1) := by
  have hlt : l.stackTraces = false := by
    unfold Launch.stackTraces
    rw [hflags]
    decide +kernel
  obtain ⟨c0, j0, k0⟩ := u_known (C := RX0) (T := TX0) (N := 4) (n := 4) (ws := u_ws (clC 0) (clT 0) (nfl 0)) (uws_at (ci := 0) (by decide) (z_sfp hts hgv)) (fun _ q => q) (hts (.instantiable RX0 4) (List.mem_of_getElem? (i := 57) (by decide +kernel)))
  obtain ⟨c1, j1, k1⟩ := u_known (C := RX1) (T := TX1) (N := 6) (n := 6) (ws := u_ws (clC 1) (clT 1) (nfl 1)) (uws_at (ci := 1) (by decide) (z_sfp hts hgv)) (fun _ q => q) (hts (.instantiable RX1 6) (List.mem_of_getElem? (i := 64) (by decide +kernel)))
  obtain ⟨c2, j2, k2⟩ := u_known (C := RX2) (T := TX2) (N := 14) (n := 14) (ws := u_ws (clC 2) (clT 2) (nfl 2)) (uws_at (ci := 2) (by decide) (z_sfp hts hgv)) (fun _ q => q) (hts (.instantiable RX2 14) (List.mem_of_getElem? (i := 122) (by decide +kernel)))
  obtain ⟨c3, j3, k3⟩ := u_known (C := RX3) (T := TX3) (N := 4) (n := 4) (ws := u_ws (clC 3) (clT 3) (nfl 3)) (uws_at (ci := 3) (by decide) (z_sfp hts hgv)) (fun _ q => q) (hts (.instantiable RX3 4) (List.mem_of_getElem? (i := 236) (by decide +kernel)))
  obtain ⟨c4, j4, k4⟩ := u_known (C := RX4) (T := TX4) (N := 14) (n := 14) (ws := u_ws (clC 4) (clT 4) (nfl 4)) (uws_at (ci := 4) (by decide) (z_sfp hts hgv)) (fun _ q => q) (hts (.instantiable RX4 14) (List.mem_of_getElem? (i := 176) (by decide +kernel)))
  obtain ⟨c5, j5, k5⟩ := u_known (C := RX5) (T := TX5) (N := 9) (n := 9) (ws := u_ws (clC 5) (clT 5) (nfl 5)) (uws_at (ci := 5) (by decide) (z_sfp hts hgv)) (fun _ q => q) (hts (.instantiable RX5 9) (List.mem_of_getElem? (i := 44) (by decide +kernel)))
  obtain ⟨dC, dI, hKc⟩ : ∃ (dC : Nat → ClassId) (dI : Nat → Nat → Nat), ∀ (k : Nat) (q : vw_C), vwCl[k]? = some q → u_Kn s q.1 q.2.1 q.2.2 (dC k) (dI k) := by
    refine ⟨fun k => [c0, c1, c2, c3, c4, c5].getD k 0, fun k => [j0, j1, j2, j3, j4, j5].getD k (fun _ => 0), ?_⟩
    intro k q hq
    match k, hq with
    | 0, hq => cases hq; exact k0
    | 1, hq => cases hq; exact k1
    | 2, hq => cases hq; exact k2
    | 3, hq => cases hq; exact k3
    | 4, hq => cases hq; exact k4
    | 5, hq => cases hq; exact k5
    | n + 6, hq =>
      rw [List.getElem?_eq_none (by show 6 ≤ n + 6; omega)] at hq
      cases hq
  have hP0 : hp s.heap.size (dC, dI) (fun _ => b) (K00 L) (I00 xs) R00 s s.heap := by
    refine ⟨[], [], fun _ => .inr (0, []), ⟨hKc, fun k q h => by simp at h⟩, fun k q h => by simp [va_pl] at h, ⟨fun i j p q h => by simp [va_pl] at h, fun k q h => by simp [va_pl] at h⟩, fun L2 k n hk hk2 => ?_, fun L2 n hk => ?_, fun L2 L3 h2 h3 _ => ?_, fun L2 j L3 _ h => by cases h⟩
    · unfold K00 at hk
      split at hk
      · cases hk
        exact absurd rfl hk2
      · cases hk
    · unfold K00 at hk
      split at hk
      · rename_i e2
        cases hk
        refine ⟨?_, hbl⟩
        unfold I00
        rw [if_pos e2]
        exact hX
      · cases hk
    · unfold K00 at h2 h3
      split at h2
      · rename_i e2
        split at h3
        · rename_i e3
          rw [e2, e3]
        · exact absurd rfl h3
      · exact absurd rfl h2
  have hsf := z_sfp hts hgv
  have hsr : sr (fun _ => b) (K00 L) [pR (some SCR)] [Value.ref b] := ⟨⟨rfl, fun h => by unfold K00 at h; rw [if_pos rfl] at h; cases h⟩, trivial⟩
  have hA := snd_all (l := l) hlt (base := s.heap.size) (D := (dC, dI)) HCK (HM L xs hL) p e room_1 s m #[Value.ref b] below meth c s.heap [] 0 0 _ [] (fun _ => b) (fun _ => b) (K00 L) hcx hsf (by decide +kernel) (Nat.le_of_ble_eq_true rfl) (Nat.le_of_ble_eq_true rfl) (Nat.le_of_ble_eq_true rfl) (Nat.le_of_ble_eq_true rfl) hP0 va_S.rf (lr_entry hsr (fun v hv => by rw [List.mem_singleton] at hv; subst hv; trivial) (Nat.le_of_ble_eq_true rfl)) trivial ext_rfl
  rw [lg_entry_eq]
  intro T hT X
  obtain ⟨t, hst, o, ho, hE, hq⟩ := hA T hT X
  refine ⟨t, hst, o, ho, hE, ?_⟩
  rcases hq with ⟨⟨r, K', I', R', am', hr, ho2, -⟩, F, hF, hFb⟩ | ⟨q, rfl, E, ce, F, ⟨e9, K', I', R', am', hr, -⟩, -⟩
  · have hr : r = some (pI 1) := Sum.inl.inj hr
    subst hr
    obtain ⟨v', rfl, hv'⟩ := ho2
    obtain rfl := (show v' = .int 1 from hv')
    refine ⟨rfl, hF.1, hF.2.1, hF.2.2.weaken (fun y hy hlt2 => ?_) (Nat.le_refl _) (Nat.le_refl _)⟩
    exact absurd hlt2 (Nat.not_lt.mpr (hFb y hy))
  · cases hr

-- ===== YOUR PART ENDS =====
set_option maxHeartbeats 4000000 in
theorem lw_walk (HM : HMT) (l : Launch) (hflags : l.flags = flags0) (b : Addr) (xs : List Int32) : MetFree l x (headSpec (Jvm.Cond.code x code maxLocals ret :: tables_1) room_1) (lw_P b xs) (fun _ _ _ _ _ => True) lw_Q := by
  refine MetFree.of_bodyS (code := code) (maxLocals := maxLocals) (ret := ret) (by decide) ?_ ?_
  · intro args s m h hn
    obtain ⟨meth, c, h1, h2, h3, h4, h5, h6, -, -⟩ := Cond.code_spec hn (atoms_spec (ws := Jvm.Cond.code x code maxLocals ret :: tables_1) h _ List.mem_cons_self)
    exact ⟨meth, c, h1, h2, h3, h4, h5, h6⟩
  · intro p e s m args below meth c s₁ B hml0 hP _
    obtain ⟨rfl, hx, hbd, hgv⟩ := hP
    obtain ⟨scr, harrAt, hlist, hof, hsmall⟩ := hx
    obtain ⟨hcb, hkn, -, -⟩ := State.arrayAt?_spec harrAt
    have hown : s.vm.findClass R_law = some m.cls := findClass_of_methodNamed B.named
    have hts0 : ∀ c ∈ (Jvm.Cond.code x code maxLocals ret :: tables_1), c.before #[Value.ref b] s = true := atoms_spec (ws := Jvm.Cond.code x code maxLocals ret :: tables_1) B.pre
    have hts : ∀ w ∈ lw_tbl, w.before #[Value.ref b] s = true := k2_hts_sels lw_privs (fun w hw => hts0 w (List.mem_cons_of_mem _ hw)) lw_privs_ok
    have hml : c.maxLocals = 1 := B.maxLocals_eq (hts0 _ List.mem_cons_self)
    have X₀ : Stand p l e room_1 s m #[Value.ref b] below meth c s₁ [] 0 0 := Stand.of_body B
    have hh0 : s₁.heap = s.heap := by rw [B.state]; rfl
    have hsz : scr.slots.size = xs.length := by rw [← Array.length_toList, hlist, List.length_map]
    have hval : ∀ j : Nat, j < xs.length → scr.slots[j]? = some (.int (xs.getD j 0)) := fun j hj => by
      rw [← Array.getElem?_toList, hlist]
      simp [hj]
    have hbl : b < s.heap.size := (Array.getElem?_eq_some_iff.mp hcb).1
    have hX : va_X b xs.length (fun j => xs.getD j 0) s s.heap := ⟨scr, hcb, hof, hkn, hsz, hval⟩
    have K : W p l e room_1 s m #[Value.ref b] below meth c s₁.heap [] 0 0 (lw_Z below #[Value.ref b] s) (entryFrame m ([Value.ref b] : List Value).toArray 1) := by
      rw [hh0]
      have ht : c.exceptionTable.toList = [] := by
        obtain ⟨meth9, c9, h1, h2, -, -, -, -, h7, -⟩ := Cond.code_spec B.named (hts0 _ List.mem_cons_self)
        cases Option.some.inj (h1.symm.trans B.method)
        cases Option.some.inj (h2.symm.trans (Stand.of_body B).code)
        rw [Array.isEmpty_iff.mp h7]
      exact whole_start HM l hflags hbd ⟨B.exec, B.bytes, B.returns, hml, hown, B.notSynchronized, (name_of_methodNamed B.named B.method).1, ht⟩ hts hX hbl hgv
    obtain ⟨t, a1, o, b1, b2, b3⟩ := K s₁ rfl X₀
    exact ⟨t, o, a1, b1, b2, b3⟩
theorem lw_pre_spec {args : Array Value} {s : State} (h : (Jvm.Cond.and given_1 narrow_1).before args s = true) (hr : rest_1_c.before args s = true) : ∃ (b : Addr) (xs : List Int32), lw_P b xs args s := by
  have hs := flat_of_before _ h
  have hq := flat_of_before _ hr
  have hc : (Cond.count 1).before args s = true := hs _ (by decide +kernel)
  have harr : (Cond.arrayOf (.arg 0) .int).before args s = true := hs _ (by decide +kernel)
  have hle : (Cond.le (.length (.arg 0)) (.int 260)).before args s = true := hs _ (by decide +kernel)
  have hlen : (Cond.isInt (.length (.arg 0))).before args s = true := hq _ (by decide +kernel)
  have hall : (Cond.all (.arg 0) (.isInt (.elem (.arg 0) (.index 0)))).before args s = true := hq _ (by decide +kernel)
  obtain ⟨b, xs, hb, hx⟩ := State.ints_of_pre rfl harr hlen hall
  have hsm : xs.length < 2 ^ 31 := hx.choose_spec.2.2.2
  have hev : (Term.length (.arg 0)).eval args s none [] s = some (.int xs.length.toInt32) := hx.length_eval hb
  have hv := Cond.le_ints hev (show (Term.int 260).eval args s none [] s = some (.int 260) from rfl)
  have hd : xs.length.toInt32 ≤ 260 := by
    simpa [Cond.before, Cond.holds, hv] using hle
  have hN : xs.length ≤ 260 := (Int32.ofNat_le_ofNat hsm (by decide)).mp (show Int32.ofNat xs.length ≤ Int32.ofNat 260 from hd)
  exact ⟨b, xs, Cond.one_arg hc (show args[0]? = some (.ref b) from hb), hx, hN, h⟩
theorem lw_comes (HM : HMT) (l : Launch) (hflags : l.flags = flags0) : Comes l x (Jvm.Cond.code x code maxLocals ret :: tables_1) room_1 (fun tb e args s => Calls_1 tb e args s ∧ rest_1 tb e args s ∧ Pre_1 tb e args s)
    (fun _ _ args s o t => lw_Q args s o t) := by
  intro p e ha hc hk s m args below hf hfit hheap happ hpre
  obtain ⟨b, xs, hP⟩ := lw_pre_spec hpre.2.2 hpre.2.1
  obtain ⟨k, o, h1, h2, h3, hQ⟩ := lw_walk HM l hflags b xs p e ha hc hk s m args below hf ((Spec.applies_iff_loose hf).mp happ).1 hP trivial
  exact ⟨k, o, h1, h2, h3, hQ⟩
theorem lw_frame {s t : State} {o : Outcome} {args : Array Value} (h : Framed s o t [] 721522 6937264) :
    Framed s o t (fieldLocs frame_1_writes args s ++ arrayLocs frame_1_arrays args s ++ staticLocs frame_1_statics s) 721522 6937264 := h
theorem lw_limb (HM : HMT) (L : Cond) (hL : ∀ (args : Array Value) (s t : State), L.after args s (.returned (some (.int 1))) t = true) :
    ArmFor flags0 classFile x code maxLocals ret World_1 tables_1 room_1 Calls_1 rest_1 Pre_1
      (fun tb e a s o t => postC L tb e a s o t ∧ Framed s o t (fieldLocs frame_1_writes a s ++ arrayLocs frame_1_arrays a s ++ staticLocs frame_1_statics s) 721522 6937264) := by
  intro l hflags _ _ p e ha hc hk s m args below hf hfit hheap happ hpre
  obtain ⟨k, o, h1, h2, h3, rfl, hF⟩ := lw_comes HM l hflags p e ha hc hk s m args below hf hfit hheap happ hpre
  exact ⟨k, _, h1, h2, h3, hL args s _, lw_frame hF⟩

