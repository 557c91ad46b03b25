/-! the tables checked against the bytes and the tables' words, by the kernel -/
def okw (w : Cond) : Bool := goodWord w || (match w with
  | .castable .. => true
  | .declares .. => true
  | .methodLinkNest .. => true
  | .fieldLinkNest .. => true
  | _ => false)
def isw (k : Nat) (w : Cond) : Bool := decide (lw_tbl[k]? = some w) && okw w
def dc0 (y i : Nat) (ins : Instr) (len : Nat) : Bool := decide (decode (pg_by y) (pg_pc y i) = .ok (ins, len))
def dc (y i : Nat) (ins : Instr) (len : Nat) : Bool := dc0 y i ins len && decide (pg_pc y (i + 1) = pg_pc y i + len)
def pg_own (y : Nat) : String := (pg_nm y).cls
def pg_off (y i t : Nat) : Int := (pg_pc y t : Int) - (pg_pc y i : Int)
abbrev clT (ci : Nat) : u_T := (vwCl.getD ci ("", TX0, 0)).2.1
abbrev clC (ci : Nat) : String := (vwCl.getD ci ("", TX0, 0)).1
def tyc (ci : Nat) : Nat → FieldType := match ci with
  | 0 => tyX0
  | 1 => tyX1
  | 2 => tyX2
  | 3 => tyX3
  | 4 => tyX4
  | 5 => tyX5
  | _ => tyX6
def isRT (t : FieldType) : Bool := match t with
  | .object _ => true
  | .array _ => true
  | _ => false
def ifI (c : Nat) (off : Int) : Instr := match c with
  | 0 => .ifCond .eq off
  | 1 => .ifCond .ne off
  | 2 => .ifCond .lt off
  | 3 => .ifCond .ge off
  | 4 => .ifCond .gt off
  | _ => .ifCond .le off
def icI (c : Nat) (off : Int) : Instr := match c with
  | 0 => .if_icmp .eq off
  | 1 => .if_icmp .ne off
  | 2 => .if_icmp .lt off
  | 3 => .if_icmp .ge off
  | 4 => .if_icmp .gt off
  | _ => .if_icmp .le off
def fF (a : Nat) : Fin 4 := if h : a < 4 then ⟨a, h⟩ else 0
def elN (k : Nat) : String := clC (elc k)
def thn : List String := ["java/lang/RuntimeException", "java/lang/Exception"]
/-- the code word of a method -/
def pg_cw (y : Nat) : Cond := if pg_hh y = [] then .code (pg_nm y) (pg_by y) (pg_ml y) (pg_rt y) else .codeWith (pg_nm y) (pg_by y) (pg_ml y) (pg_rt y) (pg_hh y)
def chkC (a : Nat) : Bool :=
  let q := pg_qs.getD a pg_q0
  isw q.2.2.2.1 (pg_cw a) && isw q.2.2.2.2.1 (if q.1 then .static (pg_nm a) else .instanceMethod (pg_nm a)) && isw q.2.2.2.2.2.1 (.initialized (pg_own a)) &&
  decide ((pg_nm a).cls ≠ "java/lang/invoke/MethodHandle") && decide ((pg_nm a).cls ≠ "java/lang/invoke/VarHandle") && decide ((parseMethodDescriptor (pg_nm a).desc).map (fun d => d.parameters.length) = some (if q.1 then q.2.1 else q.2.1 - 1)) &&
  plainName (pg_nm a).cls && decide (pg_pc a 0 = 0) && decide (pg_na a ≤ pg_ml a) && decide (pg_ml a ≤ 40) && decide (a < 102) && decide (pg_own a ≠ "java/lang/Math") && (q.1 || decide (1 ≤ q.2.1))
def chkB (y i op a c : Nat) (z : Int) (w : List Nat) : Bool := match op with
    | 0 => dc y i (.iconst z) 1 || (dc y i (.bipush z) 2 && decide ((Int8.ofInt z).toInt32 = Int32.ofInt z)) || (dc y i (.sipush z) 3 && decide ((Int16.ofInt z).toInt32 = Int32.ofInt z)) || (dc y i (.ldc c) 2 && isw (w.getD 0 0) (.constant (pg_own y) c (Int32.ofInt z)))
    | 1 => dc y i (.iload a) 2 || (decide (a < 4) && dc y i (.iload_n (fF a)) 1)
    | 2 => dc y i (.istore a) 2 || (decide (a < 4) && dc y i (.istore_n (fF a)) 1)
    | 3 => dc y i (.aload a) 2 || (decide (a < 4) && dc y i (.aload_n (fF a)) 1)
    | 4 => dc y i (.astore a) 2 || (decide (a < 4) && dc y i (.astore_n (fF a)) 1)
    | 5 => dc y i (.iinc a z) 3
    | 6 => dc y i .iadd 1
    | 7 => dc y i .isub 1
    | 8 => dc y i .imul 1
    | 9 => dc y i .idiv 1
    | 10 => dc y i .irem 1
    | 11 => dc y i .ineg 1
    | 12 => dc y i .iand 1
    | 54 => dc y i .ior 1
    | 55 => dc y i .ixor 1
    | 56 => dc y i .ishl 1
    | 57 => dc y i .ishr 1
    | 13 => dc y i .dup 1
    | 14 => dc y i .dup2 1
    | 15 => dc y i .pop 1
    | 16 => dc0 y i (.goto (pg_off y i a)) 3
    | 17 => dc y i (ifI c (pg_off y i a)) 3
    | 18 => dc y i (icI c (pg_off y i a)) 3
    | 19 => dc y i (.ifnonnull (pg_off y i a)) 3
    | 20 => (match decode (pg_by y) (pg_pc y i) with
      | .ok (.tableswitch dflt lo hi offs, _) => decide (lo = (pg_sw.getD a (0, 0, 0, [])).1) && decide (hi = (pg_sw.getD a (0, 0, 0, [])).2.1) && decide (dflt = pg_off y i (pg_sw.getD a (0, 0, 0, [])).2.2.1) && decide (offs.toList = (pg_sw.getD a (0, 0, 0, [])).2.2.2.map (fun t => pg_off y i t)) && decide (hi - lo + 1 = ((pg_sw.getD a (0, 0, 0, [])).2.2.2.length : Int))
      | _ => false)
    | 21 => dc y i .i2l 1
    | 22 => dc y i .lcmp 1
    | 23 => (decide (z = 0) && dc y i (.lconst 0) 1) || (decide (z = 1) && dc y i (.lconst 1) 1)
    | 24 => dc y i .laload 1
    | 25 => dc y i .lastore 1
    | 26 => dc y i .arraylength 1
    | 27 => dc y i .iaload 1
    | 28 => dc y i .iastore 1
    | 29 => dc y i .baload 1
    | 30 => dc y i .bastore 1
    | 31 => dc y i .aaload 1
    | 32 => dc y i .aastore 1
    | 33 => dc y i (.getfield z.toNat) 3 && decide (a < 6) && decide (c < nfl a) && (decide (tyc a c = .int) || decide (tyc a c = .boolean)) && isw (w.getD 0 0) (.fieldLink (pg_own y) z.toNat (clT a c).1 (clT a c).2.1 (clT a c).2.2.1)
    | 34 => dc y i (.getfield z.toNat) 3 && decide (a < 6) && decide (c < nfl a) && isRT (tyc a c) && isw (w.getD 0 0) (.fieldLink (pg_own y) z.toNat (clT a c).1 (clT a c).2.1 (clT a c).2.2.1)
    | 35 => dc y i (.putfield z.toNat) 3 && decide (a < 6) && decide (c < nfl a) && decide (tyc a c = .int) && decide ((clT a c).2.2.2 = false) && isw (w.getD 0 0) (.fieldLink (pg_own y) z.toNat (clT a c).1 (clT a c).2.1 (clT a c).2.2.1)
    | 36 => dc y i (.putfield z.toNat) 3 && decide (a < 6) && decide (c < nfl a) && isRT (tyc a c) && (decide ((clT a c).2.2.2 = false) || (decide ((pg_nm y).name = "<init>") && decide ((clT a c).1 = pg_own y) && decide ((clT a c).2.2.2 = true))) && isw (w.getD 0 0) (.fieldLink (pg_own y) z.toNat (clT a c).1 (clT a c).2.1 (clT a c).2.2.1)
    | 37 => dc y i (.new z.toNat) 3 && decide (a < 6) && isw (w.getD 0 0) (.classLink (pg_own y) z.toNat (clC a)) && isw (w.getD 1 0) (.instantiable (clC a) (nfl a)) && isw (w.getD 2 0) (.initialized (clC a))
    | 38 => (decide (a = 7) && dc y i (.newarray .int) 2 && isw (w.getD 0 0) (.arrayClass .int)) || (decide (a = 8) && dc y i (.newarray .boolean) 2 && isw (w.getD 0 0) (.arrayClass .boolean)) || (decide (a = 13) && dc y i (.newarray .long) 2 && isw (w.getD 0 0) (.arrayClass .long))
    | 39 => dc y i (.anewarray z.toNat) 3 && decide (9 ≤ a) && decide (a ≤ 12) && isw (w.getD 0 0) (.classLink (pg_own y) z.toNat (elN a))
    | 40 => dc y i (.invokestatic z.toNat) 3 && chkC a && pg_sta a && isw (w.getD 0 0) (.methodLink (pg_own y) z.toNat (pg_nm a))
    | 41 => dc y i (.invokevirtual z.toNat) 3 && chkC a && !(pg_sta a) && decide (pg_hh a = []) && decide (pg_cl a < 6) && decide (pg_own a = clC (pg_cl a)) && isw (w.getD 0 0) (.methodLink (pg_own y) z.toNat (pg_nm a)) && isw (pg_qs.getD a pg_q0).2.2.2.2.2.2 (.selects (pg_own a) (pg_nm a) (pg_nm a))
    | 42 => dc y i (.invokespecial z.toNat) 3 && chkC a && !(pg_sta a) && decide (pg_hh a = []) && decide (pg_cl a < 6) && decide (pg_own a = clC (pg_cl a)) && decide ((pg_nm a).name = "<init>") && decide (pg_rt a = none) && ((decide (c = 0) && isw (w.getD 0 0) (.methodLink (pg_own y) z.toNat (pg_nm a))) || (decide (c = 1) && isw (w.getD 0 0) (.methodLinkNest (pg_own y) z.toNat (pg_nm a) "KayfabeRing")))
    | 43 => dc y i (.invokespecial z.toNat) 3 && isw (w.getD 0 0) (.methodLink (pg_own y) z.toNat Lib.objectInit) && isw (w.getD 1 0) (.instanceMethod Lib.objectInit) && isw (w.getD 2 0) (.code Lib.objectInit ⟨#[0xb1]⟩ 1 none)
    | 44 => decide (pg_own y = RX5) && (decide (a = 1) || decide (a = 2) || decide (a = 3)) && dc0 y i (.new (w.getD 2 0)) 3 && decide (decode (pg_by y) (pg_pc y i + 3) = .ok (.dup, 1)) && decide ((pg_st.getD c ("", 0, "")).1 = RX5) && decide (c < pg_st.length) &&
      ((decide (w.getD 4 0 = 0) && decide (decode (pg_by y) (pg_pc y i + 4) = .ok (.ldc (pg_st.getD c ("", 0, "")).2.1, 2)) && decide (decode (pg_by y) (pg_pc y i + 6) = .ok (.invokespecial (w.getD 3 0), 3)) && decide (decode (pg_by y) (pg_pc y i + 9) = .ok (.athrow, 1))) ||
       (decide (w.getD 4 0 = 1) && decide (decode (pg_by y) (pg_pc y i + 4) = .ok (.ldc_w (pg_st.getD c ("", 0, "")).2.1, 3)) && decide (decode (pg_by y) (pg_pc y i + 7) = .ok (.invokespecial (w.getD 3 0), 3)) && decide (decode (pg_by y) (pg_pc y i + 10) = .ok (.athrow, 1)))) &&
      isw (w.getD 0 0) (.classLink RX5 (w.getD 2 0) (pg_ex a)) && isw (w.getD 1 0) (.initialized (pg_ex a)) && (decide (a = 1 ∧ w.getD 3 0 = 53) || decide (a = 2 ∧ w.getD 3 0 = 64) || decide (a = 3 ∧ w.getD 3 0 = 87))
    | 45 => dc0 y i .ireturn 1 && (decide (pg_rt y = some .int) || decide (pg_rt y = some .boolean))
    | 46 => dc0 y i .areturn 1 && (match pg_rt y with
      | some t => isRT t
      | none => false)
    | 47 => dc0 y i .return_ 1 && decide (pg_rt y = none)
    | 48 => dc y i (.getfield z.toNat) 3 && decide (a < 6) && decide (c < nfl a) && (decide (tyc a c = .int) || decide (tyc a c = .boolean)) && isw (w.getD 0 0) (.fieldLinkNest (pg_own y) z.toNat (clT a c).1 (clT a c).2.1 (clT a c).2.2.1 "KayfabeRing")
    | 51 => dc y i (.invokestatic z.toNat) 3 && isw (w.getD 0 0) (.methodLink (pg_own y) z.toNat Lib.Math.max.name) && isw (w.getD 1 0) (.static Lib.Math.max.name) && isw (w.getD 2 0) (.initialized "java/lang/Math") && isw (w.getD 3 0) (.code Lib.Math.max.name Lib.Math.max.code 2 (some .int))
    | 52 => dc y i (.invokestatic z.toNat) 3 && isw (w.getD 0 0) (.methodLink (pg_own y) z.toNat Lib.Math.min.name) && isw (w.getD 1 0) (.static Lib.Math.min.name) && isw (w.getD 2 0) (.initialized "java/lang/Math") && isw (w.getD 3 0) (.code Lib.Math.min.name Lib.Math.min.code 2 (some .int))
    | 53 => dc y i (.invokestatic z.toNat) 3 && isw (w.getD 0 0) (.methodLink (pg_own y) z.toNat Lib.Math.abs.name) && isw (w.getD 1 0) (.static Lib.Math.abs.name) && isw (w.getD 2 0) (.initialized "java/lang/Math") && isw (w.getD 3 0) (.code Lib.Math.abs.name Lib.Math.abs.code 1 (some .int))
    | 49 => true
    | 50 => dc y i (.putfield z.toNat) 3 && decide (a < 6) && decide (c < nfl a) && decide (tyc a c = .boolean) && decide ((clT a c).2.2.2 = false) && isw (w.getD 0 0) (.fieldLink (pg_own y) z.toNat (clT a c).1 (clT a c).2.1 (clT a c).2.2.1)
    | _ => false
def chk (y i : Nat) : Bool := match pg_at y i with
  | none => true
  | some (op, a, c, z) => chkB y i op a c z (pg_wd y i)
theorem chk_at {y i op a c : Nat} {z : Int} (hi : pg_at y i = some (op, a, c, z)) (h : chk y i = true) : chkB y i op a c z (pg_wd y i) = true := by
  unfold chk at h
  rw [hi] at h
  exact h
theorem dc_at {y i : Nat} {ins : Instr} {len : Nat} (h : dc y i ins len = true) : decode (pg_by y) (pg_pc y i) = .ok (ins, len) ∧ pg_pc y (i + 1) = pg_pc y i + len := by
  unfold dc dc0 at h
  rw [Bool.and_eq_true, decide_eq_true_eq, decide_eq_true_eq] at h
  exact h
/-- the handlers of a method -/
def chkH (y : Nat) : Bool := decide (pg_hh y = (pg_hx y).map (fun h => (h.1, h.2.1, h.2.2.2.2.1, h.2.2.2.2.2.1))) && (pg_hx y).all (fun h => isw h.2.2.2.2.2.2 (.classLink (pg_own y) h.2.2.2.2.2.1 (pg_ex h.2.2.2.1)) && decide (pg_pc y h.2.2.1 = h.2.2.2.2.1) && decide (h.2.2.2.2.2.1 ≠ 0) && (decide (h.2.2.2.1 = 1) || decide (h.2.2.2.1 = 2) || decide (h.2.2.2.1 = 3)))
theorem chkH_all : (List.range 103).all chkH = true := by decide +kernel
