/-! instructions into the mini machine's -/
def mTg (pc : Nat) (off : Int) : Option Nat := if 0 ≤ (pc : Int) + off then some ((pc : Int) + off).toNat else none
def mTgs (pc : Nat) : List Int → Option (List Nat)
  | [] => some []
  | o :: r => match mTg pc o, mTgs pc r with
    | some t, some ts => some (t :: ts)
    | _, _ => none
def mCc : Jvm.ClassFile.Cond → Nat
  | .eq => 0
  | .ne => 1
  | .lt => 2
  | .ge => 3
  | .gt => 4
  | .le => 5
def mfF (own idx : Nat) : Option (Nat × Nat × Nat) := (mx_F.find? fun e => e.1 == own && e.2.1 == idx).map fun e => e.2.2
def mfM (own idx : Nat) : Option Nat := (mx_M.find? fun e => e.1 == own && e.2.1 == idx).map fun e => e.2.2.1
def mfN (own idx : Nat) : Option Nat := (mx_N.find? fun e => e.1 == own && e.2.1 == idx).map fun e => e.2.2.1
def mfK (own idx : Nat) : Option Nat := (mx_K.find? fun e => e.1 == own && e.2.1 == idx).map fun e => e.2.2.1
def mfC (own idx : Nat) : Option Int := (mx_C.find? fun e => e.1 == own && e.2.1 == idx).map fun e => e.2.2.1
def mfL (own idx : Nat) : Option Int := (mx_L.find? fun e => e.1 == own && e.2.1 == idx).map fun e => e.2.2.1
def mfX (c f : Nat) : Bool := match mm_cl[c]? with
  | some q => (q.2.1 f).2.2.2
  | none => true
def mCallV (k : Nat) : Option mI := match mT[k]? with
  | some (_, _, _, _, cls, na, kd, mc, ms, _) => if kd = 0 ∧ 1 ≤ na then some (50, 0, k, na - 1, [cls, mc, ms]) else none
  | none => none
def mCallS (k : Nat) : Option mI := match mT[k]? with
  | some (_, _, _, _, cls, na, kd, mc, ms, _) => if kd = 1 then some (51, 0, k, na, [cls, mc, ms]) else none
  | none => none
def mCallI (k : Nat) : Option mI := match mT[k]? with
  | some (_, _, _, _, cls, na, kd, mc, ms, _) => if kd = 2 ∧ 1 ≤ na then some (52, 0, k, na - 1, [cls, mc, ms]) else none
  | none => none
/-- own: the class's number; ini: whether it's a constructor; bz: what it returns (0 int, 1 boolean, 2 long, 3 nothing) -/
def mTr (own pc : Nat) (ini : Bool) (bz : Nat) (i : Instr) : Option mI := match i with
  | .iconst n => some (0, n, 0, 0, [])
  | .bipush n => if (Int8.ofInt n).toInt32 = Int32.ofInt n then some (0, n, 0, 0, []) else none
  | .sipush n => if (Int16.ofInt n).toInt32 = Int32.ofInt n then some (0, n, 0, 0, []) else none
  | .ldc j => (mfC own j).map fun v => (0, v, 0, 0, [])
  | .ldc_w j => (mfC own j).map fun v => (0, v, 0, 0, [])
  | .lconst n => some (1, (n.val : Int), 0, 0, [])
  | .ldc2_w j => (mfL own j).map fun v => (1, v, 0, 0, [])
  | .iload j => some (2, 0, j, 0, [])
  | .iload_n j => some (2, 0, j.val, 0, [])
  | .aload j => some (3, 0, j, 0, [])
  | .aload_n j => some (3, 0, j.val, 0, [])
  | .lload j => some (4, 0, j, 0, [])
  | .lload_n j => some (4, 0, j.val, 0, [])
  | .istore j => some (5, 0, j, 0, [])
  | .istore_n j => some (5, 0, j.val, 0, [])
  | .astore j => some (6, 0, j, 0, [])
  | .astore_n j => some (6, 0, j.val, 0, [])
  | .lstore j => some (7, 0, j, 0, [])
  | .lstore_n j => some (7, 0, j.val, 0, [])
  | .iinc j n => some (8, n, j, 0, [])
  | .iadd => some (9, 0, 0, 0, [])
  | .isub => some (9, 0, 0, 1, [])
  | .imul => some (9, 0, 0, 2, [])
  | .iand => some (9, 0, 0, 3, [])
  | .ior => some (9, 0, 0, 4, [])
  | .ixor => some (9, 0, 0, 5, [])
  | .ishl => some (9, 0, 0, 6, [])
  | .ishr => some (9, 0, 0, 7, [])
  | .iushr => some (9, 0, 0, 8, [])
  | .idiv => some (10, 0, 0, 0, [])
  | .irem => some (11, 0, 0, 0, [])
  | .ladd => some (12, 0, 0, 0, [])
  | .lmul => some (12, 0, 0, 2, [])
  | .land => some (12, 0, 0, 3, [])
  | .lor => some (12, 0, 0, 4, [])
  | .lrem => some (13, 0, 0, 0, [])
  | .lshl => some (14, 0, 0, 0, [])
  | .lshr => some (14, 0, 0, 1, [])
  | .lushr => some (14, 0, 0, 2, [])
  | .i2l => some (15, 0, 0, 0, [])
  | .l2i => some (16, 0, 0, 0, [])
  | .dup => some (17, 0, 0, 0, [])
  | .pop => some (18, 0, 0, 0, [])
  | .dup2 => some (19, 0, 0, 0, [])
  | .ifCond c off => (mTg pc off).map fun t => (20, 0, t, mCc c, [])
  | .if_icmp c off => (mTg pc off).map fun t => (21, 0, t, mCc c, [])
  | .goto off => (mTg pc off).map fun t => (22, 0, t, 0, [])
  | .ifnonnull off => (mTg pc off).map fun t => (23, 0, t, 0, [])
  | .lcmp => some (24, 0, 0, 0, [])
  | .aconst_null => some (25, 0, 0, 0, [])
  | .tableswitch d lo hi offs => match mTg pc d, mTgs pc offs.toList with
    | some t, some ts => if hi + 1 = lo + ts.length then some (26, lo, t, 0, ts) else none
    | _, _ => none
  | .getfield j => (mfF own j).map fun e => (30, 0, e.1, e.2.1, [])
  | .putfield j => match mfF own j with
    | some e => if mfX e.1 e.2.1 = false ∨ (ini = true ∧ own = e.1) then some (31, 0, e.1, e.2.1, []) else none
    | none => none
  | .iaload => some (33, 0, 0, 0, [])
  | .baload => some (34, 0, 0, 0, [])
  | .aaload => some (35, 0, 0, 0, [])
  | .iastore => some (36, 0, 0, 0, [])
  | .bastore => some (37, 0, 0, 0, [])
  | .aastore => some (38, 0, 0, 0, [])
  | .arraylength => some (39, 0, 0, 0, [])
  | .newarray .int => some (40, 0, 0, 0, [])
  | .newarray .boolean => some (40, 0, 0, 1, [])
  | .anewarray j => match mfK own j with
    | some 4 => some (41, 0, 0, 2, [])
    | some 3 => some (41, 0, 0, 3, [])
    | _ => none
  | .new j => match mfK own j with
    | some ci => match mm_cl[ci]? with
      | some q => some (42, 0, ci, q.2.2, [])
      | none => none
    | none => none
  | .invokevirtual j => match mfM own j with
    | some k => mCallV k
    | none => none
  | .invokestatic j => match mfM own j with
    | some 1001 => some (54, 0, 0, 0, [])
    | some 1002 => some (55, 0, 0, 0, [])
    | some 1003 => some (56, 0, 0, 0, [])
    | some k => mCallS k
    | none => match mfN own j with
      | some k => mCallS k
      | none => none
  | .invokespecial j => match mfM own j with
    | some 1000 => some (53, 0, 0, 0, [])
    | some k => mCallI k
    | none => match mfN own j with
      | some k => mCallI k
      | none => none
  | .ireturn => if bz = 0 then some (70, 0, 0, 0, []) else if bz = 1 then some (70, 0, 1, 0, []) else none
  | .lreturn => if bz = 2 then some (71, 0, 0, 0, []) else none
  | .return_ => if bz = 3 then some (72, 0, 0, 0, []) else none
  | _ => none
def mBz : Option FieldType → Nat
  | some .int => 0
  | some .boolean => 1
  | some .long => 2
  | none => 3
  | _ => 4
/-- an instruction's length (a switch's: as it is) -/
def mLen (n : Nat) (i : Instr) : Nat := match i with
  | .bipush _ | .ldc _ | .iload _ | .aload _ | .lload _ | .istore _ | .astore _ | .lstore _ | .newarray _ => 2
  | .sipush _ | .ldc_w _ | .ldc2_w _ | .iinc _ _ | .ifCond _ _ | .if_icmp _ _ | .goto _ | .ifnonnull _ | .getfield _ | .putfield _ | .anewarray _ | .new _ | .invokevirtual _ | .invokestatic _ | .invokespecial _ => 3
  | .tableswitch _ _ _ _ => n
  | _ => 1
def mChI (own : Nat) (ini : Bool) (bz : Nat) (bytes : ByteArray) (e : Nat × Nat × mI) : Bool := match decode bytes e.1 with
  | .ok (i, n) => n == e.2.1 && n == mLen n i && decide (mTr own e.1 ini bz i = some e.2.2)
  | .error _ => false
/-- a word stands at a place of the tables, and keeps -/
def mIn (p : Nat) (w : Cond) : Bool := decide (lw_tbl[p]? = some w) && goodWord w
def mTb : List Cond := lw_tbl.filter goodWord
theorem mIn_ok {p : Nat} {w : Cond} (h : mIn p w = true) : w ∈ mTb := by
  simp only [mIn, Bool.and_eq_true, decide_eq_true_eq] at h
  exact List.mem_filter.mpr ⟨List.mem_of_getElem? h.1, h.2⟩
def mInit : Nat → Nat := fun c => match c with
  | 0 => 108 | 1 => 116 | 2 => 111 | 3 => 113 | 4 => 106 | 5 => 110 | 6 => 107 | 7 => 103 | 8 => 105 | 9 => 109 | 10 => 112 | 11 => 102 | 12 => 114 | 13 => 101 | _ => 115
/-- what the tables say of a method -/
def mChW (r : mR) : Bool := match r with
  | (y, bytes, n, ret, own, na, kd, _, _, _, p1, p2, p3) => mIn p1 (.code y bytes n ret) && mIn (mInit own) (.initialized y.cls) && decide (y.cls = mm_cn own) && plainName y.cls && decide (y.cls ≠ "java/lang/invoke/MethodHandle") && decide (y.cls ≠ "java/lang/invoke/VarHandle") &&
    decide ((parseMethodDescriptor y.desc).map (fun d => d.parameters.length) = some (if kd = 1 then na else na - 1)) && (if kd = 1 then mIn p2 (.static y) else mIn p2 (.instanceMethod y)) && (if kd = 0 then mIn p3 (.selects y.cls y y) else true) && (if kd = 2 then decide (y.name = "<init>") && decide (ret = none) else true) && (if kd = 1 then true else decide (1 ≤ na)) && decide (n ≤ 30) && decide (mBz ret < 4)
