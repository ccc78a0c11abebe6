/-! ===== what the tables' instructions are in bytes, and which words they need ===== -/
def ev_sg (a : Nat) : Int := if a < 2147483648 then (a : Int) else (a : Int) - 4294967296
def ev_f4 (j : Nat) : Fin 4 := ⟨j % 4, Nat.mod_lt _ (by decide)⟩
def ev_num (v : ev_V) : Nat := match v with
  | .inl n => n
  | .inr (.inr (.inl n)) => n
  | _ => 0
def ev_own (m : ev_M) : String := m.2.2.2.2.2.1.cls
noncomputable def ev_off (m : ev_M) (pc t : Nat) : Int := (ev_pc m.1 t : Int) - (pc : Int)
def ev_cq (q : Bool × Bool × Bool) : Jvm.ClassFile.Cond := match q with
  | (true, false, false) => .lt
  | (true, true, false) => .le
  | (false, true, false) => .eq
  | (true, false, true) => .ne
  | (false, false, true) => .gt
  | _ => .ge
def ev_sq (q : Bool × Bool × Bool) : Bool := match q with
  | (true, true, true) => false
  | (false, false, false) => false
  | _ => true
def ev_xpu (x : ev_V × Nat × Nat) : Instr × Nat := match x.2.1 with
  | 0 => (.iconst (ev_sg (ev_num x.1)), 1)
  | 1 => (.bipush (ev_sg (ev_num x.1)), 2)
  | 2 => (.sipush (ev_sg (ev_num x.1)), 3)
  | 3 => (.lconst ⟨ev_num x.1 % 2, Nat.mod_lt _ (by decide)⟩, 1)
  | 4 => (.aconst_null, 1)
  | 5 => (.ldc x.2.2, 2)
  | 6 => (.ldc_w x.2.2, 3)
  | _ => (.ldc2_w x.2.2, 3)
def ev_spu (x : ev_V × Nat × Nat) : Bool := match x.1, x.2.1 with
  | .inl n, 0 => decide (Int32.ofInt (ev_sg n) = Int32.ofNat n)
  | .inl n, 1 => decide ((Int8.ofInt (ev_sg n)).toInt32 = Int32.ofNat n)
  | .inl n, 2 => decide ((Int16.ofInt (ev_sg n)).toInt32 = Int32.ofNat n)
  | .inr (.inr (.inl n)), 3 => decide (n < 2)
  | .inr (.inl 0), 4 => true
  | .inl _, 5 => true
  | .inl _, 6 => true
  | .inr (.inr (.inl _)), 7 => true
  | _, _ => false
def ev_wpu (m : ev_M) (x : ev_V × Nat × Nat) : List Jvm.Cond := match x.2.1 with
  | 5 => [.constant (ev_own m) x.2.2 (Int32.ofNat (ev_num x.1))]
  | 6 => [.constant (ev_own m) x.2.2 (Int32.ofNat (ev_num x.1))]
  | 7 => [.constantLong (ev_own m) x.2.2 (Int64.ofNat (ev_num x.1))]
  | _ => []
def ev_xib (op : Nat) : Instr := match op with
  | 0 => .iadd
  | 1 => .imul
  | 2 => .ishr
  | 3 => .iand
  | 4 => .isub
  | 5 => .ior
  | 6 => .ishl
  | _ => .iushr
def ev_xdv (x : Nat) : Instr × Nat := match x with
  | 0 => (.idiv, 1)
  | i + 1 => (.invokestatic i, 3)
def ev_wdv (m : ev_M) (x : Nat) : List Jvm.Cond := match x with
  | 0 => []
  | i + 1 => [.methodLink (ev_own m) i Lib.Math.min.name, .static Lib.Math.min.name, .initialized "java/lang/Math", .code Lib.Math.min.name Lib.Math.min.code 2 (some .int)]
def ev_xlb (op : Nat) : Instr := match op with
  | 0 => .land
  | 1 => .ladd
  | 2 => .lsub
  | _ => .lor
def ev_xls (op : Nat) : Instr := match op with
  | 0 => .lushr
  | _ => .lshl
def ev_xal (q : Nat) : Instr := match q with
  | 0 => .iaload
  | 1 => .laload
  | _ => .baload
def ev_xas (q : Nat) : Instr := match q with
  | 0 => .iastore
  | 1 => .lastore
  | _ => .bastore
def ev_xre (q : Nat) : Instr := match q with
  | 0 => .ireturn
  | 1 => .areturn
  | _ => .return_
def ev_xca (how idx : Nat) : Instr := match how with
  | 0 => .invokevirtual idx
  | 1 => .invokestatic idx
  | 4 => .invokestatic idx
  | _ => .invokespecial idx
def ev_xun (op : Nat) : Instr := match op with
  | 0 => .l2i
  | _ => .i2b
def ev_xst (op : Nat) : Instr := match op with
  | 0 => .dup
  | 1 => .dup2
  | _ => .pop
def ev_xna (q : Nat) : ArrayType := match q with
  | 0 => .int
  | 1 => .long
  | 2 => .boolean
  | _ => .byte
def ev_aty (q : Nat) : FieldType := match q with
  | 0 => .int
  | 1 => .long
  | 2 => .boolean
  | _ => .byte
def ev_kd (cl : List vw_C) (ci : Nat) : vw_C := cl.getD ci ("", fun _ => ("", "", "", false), 0)
def ev_fl (own : String) (idx : Nat) (q : vw_C) (k : Nat) : Jvm.Cond := .fieldLink own idx (q.2.1 k).1 (q.2.1 k).2.1 (q.2.1 k).2.2.1
def ev_m0 : ev_M := ([], 0, 0, 0, 0, ⟨"", "", ""⟩, ⟨#[]⟩, none)
def ev_mt (pg : List ev_M) (x : Nat) : ev_M := pg.getD x ev_m0
def ev_cw (m : ev_M) : Jvm.Cond := .code m.2.2.2.2.2.1 m.2.2.2.2.2.2.1 m.2.2.2.2.1 m.2.2.2.2.2.2.2
def ev_wca (own : String) (idx how : Nat) (m : ev_M) : List Jvm.Cond := match how with
  | 0 => [.methodLink own idx m.2.2.2.2.2.1, .instanceMethod m.2.2.2.2.2.1, .selects m.2.2.2.2.2.1.cls m.2.2.2.2.2.1 m.2.2.2.2.2.1, .initialized m.2.2.2.2.2.1.cls]
  | 1 => [.methodLink own idx m.2.2.2.2.2.1, .static m.2.2.2.2.2.1, .initialized m.2.2.2.2.2.1.cls]
  | 2 => [.methodLink own idx m.2.2.2.2.2.1, .instanceMethod m.2.2.2.2.2.1, .initialized m.2.2.2.2.2.1.cls]
  | 4 => [.static m.2.2.2.2.2.1, .initialized m.2.2.2.2.2.1.cls]
  | _ => [.instanceMethod m.2.2.2.2.2.1, .initialized m.2.2.2.2.2.1.cls]
/-- a field's kind, by its type -/
def ev_fk (ty : FieldType) : Nat := match ty with
  | .int => 0
  | .boolean => 1
  | .long => 2
  | .object _ => 3
  | .array _ => 3
  | _ => 9
def ev_spf (m : ev_M) (q : vw_C) (k fk : Nat) : Bool := decide (k < q.2.2) && (match parseFieldDescriptor (q.2.1 k).2.2.1 with
  | some ty => decide (ev_fk ty = fk)
  | none => false) && ((!(q.2.1 k).2.2.2) || (decide (m.2.2.2.2.2.1.name = "<init>") && decide ((q.2.1 k).1 = ev_own m)))
def ev_dvt (ty : FieldType) (v : Option ev_V) : Bool := match ty, v with
  | .long, some (.inr (.inr (.inl 0))) => true
  | .object _, some (.inr (.inl 0)) => true
  | .array _, some (.inr (.inl 0)) => true
  | .int, some (.inl 0) => true
  | .boolean, some (.inl 0) => true
  | .byte, some (.inl 0) => true
  | _, _ => false
def ev_snw (q : vw_C) (fs : List ev_V) : Bool := decide (fs.length = q.2.2) && (List.range q.2.2).all (fun j => match parseFieldDescriptor (q.2.1 j).2.2.1 with
  | some ty => ev_dvt ty fs[j]?
  | none => false)
def ev_sca (cl : List vw_C) (pg : List ev_M) (m : ev_M) (x : Nat × Nat × Nat × Nat × Nat × Nat × Nat) : Bool := decide (m.2.2.2.2.1 ≤ 21) && decide (m.2.2.2.2.2.1.cls ≠ "java/lang/invoke/MethodHandle") && decide (m.2.2.2.2.2.1.cls ≠ "java/lang/invoke/VarHandle") && decide (m.2.2.1 = x.2.2.2.2.2.1) && decide (m.2.2.2.1 = x.2.2.2.2.2.2) && (match x.2.2.2.2.1, x.2.2.1 with
  | 0, c + 1 => decide ((parseMethodDescriptor m.2.2.2.2.2.1.desc).map (fun d => d.parameters.length + 1) = some x.2.1) && decide ((ev_kd cl c).1 = m.2.2.2.2.2.1.cls) && (cl[c]?).isSome
  | 1, 0 => decide ((parseMethodDescriptor m.2.2.2.2.2.1.desc).map (fun d => d.parameters.length) = some x.2.1)
  | 2, _ + 1 => decide ((parseMethodDescriptor m.2.2.2.2.2.1.desc).map (fun d => d.parameters.length + 1) = some x.2.1) && decide (m.2.2.2.2.2.1.name = "<init>") && decide (m.2.2.2.2.2.2.2 = none)
  | 4, 0 => decide ((parseMethodDescriptor m.2.2.2.2.2.1.desc).map (fun d => d.parameters.length) = some x.2.1)
  | 5, _ + 1 => decide ((parseMethodDescriptor m.2.2.2.2.2.1.desc).map (fun d => d.parameters.length + 1) = some x.2.1) && decide (m.2.2.2.2.2.1.name = "<init>") && decide (m.2.2.2.2.2.2.2 = none)
  | _, _ => false)
noncomputable def ev_xi (m : ev_M) (pc : Nat) (i : ev_I) : Instr × Nat := match i with
  | .inl (.inl (.inl (.inl (.inl (x))))) => if x < 4 then (.iload_n (ev_f4 x), 1) else (.iload x, 2)
  | .inl (.inl (.inl (.inl (.inr (x))))) => if x < 4 then (.aload_n (ev_f4 x), 1) else (.aload x, 2)
  | .inl (.inl (.inl (.inr (.inl (x))))) => ev_xpu x
  | .inl (.inl (.inl (.inr (.inr (x))))) => (.if_icmp (ev_cq x.1) (ev_off m pc x.2), 3)
  | .inl (.inl (.inr (.inl (.inl (x))))) => (.getfield x.2.2.1, 3)
  | .inl (.inl (.inr (.inl (.inr (x))))) => (.goto (ev_off m pc x), 3)
  | .inl (.inl (.inr (.inr (.inl (x))))) => (.iinc x.1 (ev_sg x.2), 3)
  | .inl (.inl (.inr (.inr (.inr (x))))) => (ev_xib x, 1)
  | .inl (.inr (.inl (.inl (.inl (x))))) => (ev_xal x, 1)
  | .inl (.inr (.inl (.inl (.inr (x))))) => (ev_xas x, 1)
  | .inl (.inr (.inl (.inr (.inl (x))))) => (.ifCond (ev_cq x.1) (ev_off m pc x.2), 3)
  | .inl (.inr (.inl (.inr (.inr (x))))) => (ev_xre x, 1)
  | .inl (.inr (.inr (.inl (.inl (x))))) => (ev_xca x.2.2.2.2.1 x.2.2.2.1, 3)
  | .inl (.inr (.inr (.inl (.inr (x))))) => if x < 4 then (.istore_n (ev_f4 x), 1) else (.istore x, 2)
  | .inl (.inr (.inr (.inr (.inl (x))))) => ev_xdv x
  | .inl (.inr (.inr (.inr (.inr (x))))) => if x < 4 then (.lload_n (ev_f4 x), 1) else (.lload x, 2)
  | .inr (.inl (.inl (.inl (.inl (_))))) => (.nop, 0)
  | .inr (.inl (.inl (.inl (.inr (x))))) => (.putfield x.2.2.2.1, 3)
  | .inr (.inl (.inl (.inr (.inl (x))))) => (ev_xlb x, 1)
  | .inr (.inl (.inl (.inr (.inr (x))))) => (ev_xls x, 1)
  | .inr (.inl (.inr (.inl (.inl (_))))) => (.lcmp, 1)
  | .inr (.inl (.inr (.inl (.inr (x))))) => if x < 4 then (.lstore_n (ev_f4 x), 1) else (.lstore x, 2)
  | .inr (.inl (.inr (.inr (.inl (x))))) => (ev_xun x, 1)
  | .inr (.inl (.inr (.inr (.inr (x))))) => (ev_xst x, 1)
  | .inr (.inr (.inl (.inl (.inl (_))))) => (.arraylength, 1)
  | .inr (.inr (.inl (.inl (.inr (x))))) => (.newarray (ev_xna x), 2)
  | .inr (.inr (.inl (.inr (.inl (x))))) => (.new x.2.1, 3)
  | .inr (.inr (.inl (.inr (.inr (x))))) => (.invokespecial x, 3)
  | .inr (.inr (.inr (.inl (.inl (x))))) => (.invokestatic x, 3)
  | .inr (.inr (.inr (.inl (.inr (x))))) => (.tableswitch (ev_off m pc x.2.1) ((x.1 : Int) - 2147483648) ((x.1 : Int) - 2147483648 + (x.2.2.1.length : Int) - 1) (x.2.2.1.map (ev_off m pc)).toArray, x.2.2.2)
  | .inr (.inr (.inr (.inr (.inl (x))))) => (.ifnonnull (ev_off m pc x), 3)
  | .inr (.inr (.inr (.inr (.inr (x))))) => if x < 4 then (.astore_n (ev_f4 x), 1) else (.astore x, 2)
noncomputable def ev_wi (cl : List vw_C) (pg : List ev_M) (m : ev_M) (i : ev_I) : List Jvm.Cond := match i with
  | .inl (.inl (.inl (.inr (.inl (x))))) => ev_wpu m x
  | .inl (.inl (.inr (.inl (.inl (x))))) => if x.2.2.2 = 0 then [ev_fl (ev_own m) x.2.2.1 (ev_kd cl x.1) x.2.1] else []
  | .inl (.inr (.inr (.inl (.inl (x))))) => ev_wca (ev_own m) x.2.2.2.1 x.2.2.2.2.1 (ev_mt pg x.1)
  | .inl (.inr (.inr (.inr (.inl (x))))) => ev_wdv m x
  | .inr (.inl (.inl (.inl (.inr (x))))) => [ev_fl (ev_own m) x.2.2.2.1 (ev_kd cl x.1) x.2.1]
  | .inr (.inr (.inl (.inl (.inr (x))))) => [.arrayClass (ev_aty x)]
  | .inr (.inr (.inl (.inr (.inl (x))))) => [.classLink (ev_own m) x.2.1 (ev_kd cl x.1).1, .instantiable (ev_kd cl x.1).1 (ev_kd cl x.1).2.2, .initialized (ev_kd cl x.1).1]
  | .inr (.inr (.inl (.inr (.inr (x))))) => [.methodLink (ev_own m) x Lib.objectInit, .instanceMethod Lib.objectInit, .code Lib.objectInit ⟨#[0xb1]⟩ 1 none]
  | .inr (.inr (.inr (.inl (.inl (x))))) => [.methodLink (ev_own m) x arraycopyName, .native arraycopyName, .static arraycopyName, .initialized "java/lang/System"]
  | _ => []
noncomputable def ev_ni (cl : List vw_C) (pg : List ev_M) (m : ev_M) (i : ev_I) : List Jvm.Cond := match i with
  | .inl (.inl (.inr (.inl (.inl (x))))) => if x.2.2.2 = 0 then [] else [.fieldLinkNest (ev_own m) x.2.2.1 ((ev_kd cl x.1).2.1 x.2.1).1 ((ev_kd cl x.1).2.1 x.2.1).2.1 ((ev_kd cl x.1).2.1 x.2.1).2.2.1 "RegisterColours"]
  | .inl (.inr (.inr (.inl (.inl (x))))) => if x.2.2.2.2.1 < 4 then [] else [.methodLinkNest (ev_own m) x.2.2.2.1 (ev_mt pg x.1).2.2.2.2.2.1 "RegisterColours"]
  | _ => []
noncomputable def ev_si (cl : List vw_C) (pg : List ev_M) (m : ev_M) (i : ev_I) : Bool := match i with
  | .inl (.inl (.inl (.inr (.inl (x))))) => ev_spu x
  | .inl (.inl (.inl (.inr (.inr (x))))) => ev_sq x.1
  | .inl (.inl (.inr (.inl (.inl (x))))) => decide (x.2.1 < (ev_kd cl x.1).2.2) && (cl[x.1]?).isSome
  | .inl (.inl (.inr (.inr (.inl (x))))) => decide (x.1 < m.2.2.2.2.1)
  | .inl (.inl (.inr (.inr (.inr (x))))) => decide (x < 8)
  | .inl (.inr (.inl (.inl (.inl (x))))) => decide (x < 4)
  | .inl (.inr (.inl (.inl (.inr (x))))) => decide (x < 4)
  | .inl (.inr (.inl (.inr (.inl (x))))) => ev_sq x.1
  | .inl (.inr (.inl (.inr (.inr (x))))) => decide (x < 3)
  | .inl (.inr (.inr (.inl (.inl (x))))) => ev_sca cl pg (ev_mt pg x.1) x && (pg[x.1]?).isSome
  | .inl (.inr (.inr (.inl (.inr (x))))) => decide (x < m.2.2.2.2.1)
  | .inr (.inl (.inl (.inl (.inr (x))))) => ev_spf m (ev_kd cl x.1) x.2.1 x.2.2.1 && decide (x.2.2.2.2 = 0) && (cl[x.1]?).isSome
  | .inr (.inl (.inl (.inr (.inl (x))))) => decide (x < 4)
  | .inr (.inl (.inl (.inr (.inr (x))))) => decide (x < 2)
  | .inr (.inl (.inr (.inl (.inr (x))))) => decide (x + 1 < m.2.2.2.2.1)
  | .inr (.inl (.inr (.inr (.inl (x))))) => decide (x < 2)
  | .inr (.inl (.inr (.inr (.inr (x))))) => decide (x < 3)
  | .inr (.inr (.inl (.inl (.inr (x))))) => decide (x < 4)
  | .inr (.inr (.inl (.inr (.inl (x))))) => ev_snw (ev_kd cl x.1) x.2.2 && (cl[x.1]?).isSome
  | .inr (.inr (.inr (.inl (.inr (x))))) => decide (2147483648 ≤ x.1 ∧ x.1 + x.2.2.1.length ≤ 4294967296)
  | .inr (.inr (.inr (.inr (.inr (x))))) => decide (x < m.2.2.2.2.1)
  | _ => true
def ev_fal (i : ev_I) : Option Nat := match i with
  | .inr (.inl (.inl (.inl (.inl (x))))) => some x
  | _ => none
/-- the bytes at a place are these instructions, and the words that they need are at hand -/
def ev_okc (cl : List vw_C) (pg : List ev_M) (gw nw : List Jvm.Cond) (m : ev_M) : Nat → List ev_I → Prop
  | _, [] => True
  | pc, i :: r => match ev_fal i with
    | some t => ev_pc m.1 t = pc
    | none => decode m.2.2.2.2.2.2.1 pc = .ok (ev_xi m pc i) ∧ (∀ w ∈ ev_wi cl pg m i, w ∈ gw) ∧ (∀ w ∈ ev_ni cl pg m i, w ∈ nw) ∧ ev_si cl pg m i = true ∧ ev_okc cl pg gw nw m (pc + (ev_xi m pc i).2) r
def ev_mok (cl : List vw_C) (pg : List ev_M) (gw nw : List Jvm.Cond) (m : ev_M) : Prop := (∀ b ∈ m.1, ev_okc cl pg gw nw m b.1 b.2) ∧ ev_pc m.1 m.2.1 = 0 ∧ plainName (ev_own m) = true ∧ ev_cw m ∈ gw ∧ m.2.2.2.2.1 ≤ 21
theorem ev_okc_to {cl : List vw_C} {pg : List ev_M} {gw nw : List Jvm.Cond} {m : ev_M} (hm : ev_mok cl pg gw nw m) (t : Nat) : ev_okc cl pg gw nw m (ev_pc m.1 t) (ev_lb m.1 t) := by
  rcases ev_lb_eq m.1 t with ⟨h, -⟩ | ⟨b, h1, h2, h3⟩
  · rw [h]; trivial
  · rw [h2, h3]
    exact hm.1 b (List.mem_of_getElem? h1)
