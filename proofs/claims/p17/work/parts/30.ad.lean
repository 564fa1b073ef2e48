/-! WHAT THE TABLES MUST SAY OF AN INSTRUCTION: at pc of method m the bytes decode to what the pure machine does there -/
section AD
variable (P : pm_P) (tbl : List Jvm.Cond) (yN : Nat → MethodName) (byt : Nat → ByteArray) (rT : Nat → Option FieldType) (fr lo : Nat → Nat) (cl : List vw_C) (strs : List (String × Nat × Nat)) (nst : List Jvm.Cond)
def pm_tk : FieldType → Nat
  | .int => 0
  | .long => 1
  | .boolean => 3
  | .object _ => 2
  | .array _ => 2
  | _ => 77
def pm_rk : Option FieldType → Nat
  | none => 0
  | some .int => 1
  | some .long => 2
  | some (.object _) => 3
  | some (.array _) => 3
  | some .boolean => 4
  | _ => 77
/-- a class of the table -/
def pm_Cls (c : Nat) (C : String) (T : u_T) (N : Nat) (ty : Nat → FieldType) : Prop :=
  cl[c]? = some (C, T, N) ∧ N = pm_nf P c ∧ (∀ w ∈ u_ws C T N, w ∈ tbl) ∧ (∀ k, k < N → parseFieldDescriptor (T k).2.2.1 = some (ty k)) ∧ (∀ a, a < N → ∀ b, b < N → a ≠ b → (T a).2.1 ≠ (T b).2.1) ∧ ∀ k, k < N → (pm_fty P c k = pm_tk (ty k) ∧ pm_tk (ty k) < 4)
/-- a field's link -/
def pm_fl (own : String) (i c k : Nat) : Prop := ∃ (C : String) (T : u_T) (N : Nat) (ty : Nat → FieldType), pm_Cls P tbl cl c C T N ty ∧ k < N ∧ k < 64 ∧
  (Jvm.Cond.fieldLink own i (T k).1 (T k).2.1 (T k).2.2.1 ∈ tbl ∨ ∃ host, Jvm.Cond.fieldLinkNest own i (T k).1 (T k).2.1 (T k).2.2.1 host ∈ nst)
/-- a field's link, for writing -/
def pm_fp (own nm : String) (i c k : Nat) : Prop := ∃ (C : String) (T : u_T) (N : Nat) (ty : Nat → FieldType), pm_Cls P tbl cl c C T N ty ∧ k < N ∧ k < 64 ∧
  (((T k).2.2.2 = false ∧ (Jvm.Cond.fieldLink own i (T k).1 (T k).2.1 (T k).2.2.1 ∈ tbl ∨ ∃ host, Jvm.Cond.fieldLinkNest own i (T k).1 (T k).2.1 (T k).2.2.1 host ∈ nst)) ∨
   ((T k).2.2.2 = true ∧ nm = "<init>" ∧ (T k).1 = own ∧ Jvm.Cond.fieldLink own i (T k).1 (T k).2.1 (T k).2.2.1 ∈ tbl))
/-- a call's link -/
def pm_lk1 (own : String) (i k : Nat) : Prop := Jvm.Cond.methodLink own i (yN k) ∈ tbl ∨ ∃ host, Jvm.Cond.methodLinkNest own i (yN k) host ∈ nst
/-- what a call wants of its method -/
def pm_cl1 (m k n : Nat) : Prop := Jvm.Cond.initialized (yN k).cls ∈ tbl ∧ Jvm.Cond.code (yN k) (byt k) (pm_mxl P k) (rT k) ∈ tbl ∧ ((yN k).cls ≠ "java/lang/invoke/MethodHandle" ∧ (yN k).cls ≠ "java/lang/invoke/VarHandle" ∧ (parseMethodDescriptor (yN k).desc).map (fun d => d.parameters.length) = some n) ∧
  0 < k ∧ fr k + 1 ≤ fr m ∧ 8 + (pm_mxl P k + 11) + lo k ≤ lo m
/-- what holds of every method that is called or walked -/
def pm_me (k : Nat) : Prop := plainFor (yN k) = true ∧ pm_ret P k = pm_rk (rT k)
def pm_Ad (m pc : Nat) (x : pm_I) (nx : Nat) : Prop := match x with
  | .inl v => (∃ (n : Int), decode (byt m) pc = .ok (.iconst n, 1) ∧ v = .int (Int32.ofInt n) ∧ nx = pc + 1) ∨
      (∃ (n : Int), decode (byt m) pc = .ok (.bipush n, 2) ∧ v = .int (Int8.ofInt n).toInt32 ∧ nx = pc + 2) ∨
      (∃ (n : Int), decode (byt m) pc = .ok (.sipush n, 3) ∧ v = .int (Int16.ofInt n).toInt32 ∧ nx = pc + 3) ∨
      (∃ (n : Fin 2), decode (byt m) pc = .ok (.lconst n, 1) ∧ v = .long (Int64.ofNat (n : Nat)) ∧ nx = pc + 1) ∨
      (decode (byt m) pc = .ok (.aconst_null, 1) ∧ v = .null ∧ nx = pc + 1) ∨
      (∃ (i : Nat) (z : Int32), decode (byt m) pc = .ok (.ldc i, 2) ∧ v = .int z ∧ nx = pc + 2 ∧ Jvm.Cond.constant (yN m).cls i z ∈ tbl) ∨
      (∃ (i : Nat) (z : Int32), decode (byt m) pc = .ok (.ldc_w i, 3) ∧ v = .int z ∧ nx = pc + 3 ∧ Jvm.Cond.constant (yN m).cls i z ∈ tbl) ∨
      (∃ (i : Nat) (z : Int64), decode (byt m) pc = .ok (.ldc2_w i, 3) ∧ v = .long z ∧ nx = pc + 3 ∧ Jvm.Cond.constantLong (yN m).cls i z ∈ tbl) ∨
      (∃ (i j : Nat), decode (byt m) pc = .ok (.ldc i, 2) ∧ v = .ref (100000 + j) ∧ nx = pc + 2 ∧ ((yN m).cls, i, j) ∈ strs) ∨
      (∃ (i j : Nat), decode (byt m) pc = .ok (.ldc_w i, 3) ∧ v = .ref (100000 + j) ∧ nx = pc + 3 ∧ ((yN m).cls, i, j) ∈ strs)
  | .inr i => match i with
    | .iload k => (∃ n : Fin 4, decode (byt m) pc = .ok (.iload_n n, 1) ∧ (n : Nat) = k ∧ nx = pc + 1) ∨ (decode (byt m) pc = .ok (.iload k, 2) ∧ nx = pc + 2)
    | .lload k => (∃ n : Fin 4, decode (byt m) pc = .ok (.lload_n n, 1) ∧ (n : Nat) = k ∧ nx = pc + 1) ∨ (decode (byt m) pc = .ok (.lload k, 2) ∧ nx = pc + 2)
    | .aload k => (∃ n : Fin 4, decode (byt m) pc = .ok (.aload_n n, 1) ∧ (n : Nat) = k ∧ nx = pc + 1) ∨ (decode (byt m) pc = .ok (.aload k, 2) ∧ nx = pc + 2)
    | .istore k => (∃ n : Fin 4, decode (byt m) pc = .ok (.istore_n n, 1) ∧ (n : Nat) = k ∧ nx = pc + 1) ∨ (decode (byt m) pc = .ok (.istore k, 2) ∧ nx = pc + 2)
    | .lstore k => (∃ n : Fin 4, decode (byt m) pc = .ok (.lstore_n n, 1) ∧ (n : Nat) = k ∧ nx = pc + 1) ∨ (decode (byt m) pc = .ok (.lstore k, 2) ∧ nx = pc + 2)
    | .astore k => (∃ n : Fin 4, decode (byt m) pc = .ok (.astore_n n, 1) ∧ (n : Nat) = k ∧ nx = pc + 1) ∨ (decode (byt m) pc = .ok (.astore k, 2) ∧ nx = pc + 2)
    | .iinc k n => decode (byt m) pc = .ok (.iinc k n, 3) ∧ nx = pc + 3
    | .goto t => ∃ (o : Int) (u : Nat), decode (byt m) pc = .ok (.goto o, 3) ∧ t = (u : Int) ∧ (pc : Int) + o = (u : Int)
    | .ifCond c t => ∃ (o : Int) (u : Nat), decode (byt m) pc = .ok (.ifCond c o, 3) ∧ t = (u : Int) ∧ (pc : Int) + o = (u : Int) ∧ nx = pc + 3
    | .if_icmp c t => ∃ (o : Int) (u : Nat), decode (byt m) pc = .ok (.if_icmp c o, 3) ∧ t = (u : Int) ∧ (pc : Int) + o = (u : Int) ∧ nx = pc + 3
    | .ifnull t => ∃ (o : Int) (u : Nat), decode (byt m) pc = .ok (.ifnull o, 3) ∧ t = (u : Int) ∧ (pc : Int) + o = (u : Int) ∧ nx = pc + 3
    | .ifnonnull t => ∃ (o : Int) (u : Nat), decode (byt m) pc = .ok (.ifnonnull o, 3) ∧ t = (u : Int) ∧ (pc : Int) + o = (u : Int) ∧ nx = pc + 3
    | .tableswitch d a b ts => ∃ (o : Int) (u len : Nat) (os : Array Int), decode (byt m) pc = .ok (.tableswitch o a b os, len) ∧ d = (u : Int) ∧ (pc : Int) + o = (u : Int) ∧ ts = os.map (fun z => (pc : Int) + z) ∧ ∀ z ∈ os, 0 ≤ (pc : Int) + z
    | .lookupswitch d qs => ∃ (o : Int) (u len : Nat) (ps : Array (Int × Int)), decode (byt m) pc = .ok (.lookupswitch o ps, len) ∧ d = (u : Int) ∧ (pc : Int) + o = (u : Int) ∧ qs = ps.map (fun z => (z.1, (pc : Int) + z.2)) ∧ (∀ z ∈ ps, 0 ≤ (pc : Int) + z.2) ∧ (ps.toList.zip (ps.toList.drop 1)).all (fun (a, next) => a.1 < next.1) = true
    | .getfield n => ∃ (j : Nat), decode (byt m) pc = .ok (.getfield j, 3) ∧ nx = pc + 3 ∧ pm_fl P tbl cl nst (yN m).cls j (n / 64) (n % 64)
    | .putfield n => ∃ (j : Nat), decode (byt m) pc = .ok (.putfield j, 3) ∧ nx = pc + 3 ∧ pm_fp P tbl cl nst (yN m).cls (yN m).name j (n / 64) (n % 64)
    | .caload => m = 0 ∧ decode (byt m) pc = .ok (.arraylength, 1) ∧ nx = pc + 1
    | .saload => m = 0 ∧ decode (byt m) pc = .ok (.iaload, 1) ∧ nx = pc + 1
    | .new c => ∃ (j : Nat) (C : String) (T : u_T) (N : Nat) (ty : Nat → FieldType), decode (byt m) pc = .ok (.new j, 3) ∧ nx = pc + 3 ∧ pm_Cls P tbl cl c C T N ty ∧ Jvm.Cond.classLink (yN m).cls j C ∈ tbl ∧ Jvm.Cond.instantiable C N ∈ tbl ∧ Jvm.Cond.initialized C ∈ tbl
    | .newarray t => decode (byt m) pc = .ok (.newarray t, 2) ∧ nx = pc + 2 ∧ Jvm.Cond.arrayClass (newarray.typeOf t) ∈ tbl
    | .anewarray c => ∃ (j : Nat) (C : String) (T : u_T) (N : Nat), decode (byt m) pc = .ok (.anewarray j, 3) ∧ nx = pc + 3 ∧ cl[c]? = some (C, T, N) ∧ Jvm.Cond.classLink (yN m).cls j C ∈ tbl ∧ Jvm.Cond.arrayOver (.object C) ∈ nst
    | .invokestatic k => nx = pc + 3 ∧ ((k = 9000 ∧ ∃ j, decode (byt m) pc = .ok (.invokestatic j, 3) ∧ Jvm.Cond.methodLink (yN m).cls j arraycopyName ∈ tbl ∧ Jvm.Cond.native arraycopyName ∈ tbl ∧ Jvm.Cond.static arraycopyName ∈ tbl ∧ Jvm.Cond.initialized "java/lang/System" ∈ tbl ∧ 1 ≤ fr m ∧ 8 + (nativeFrameWords "java/lang/System" "arraycopy" 5 + 11) ≤ lo m) ∨
        (k < 9000 ∧ ∃ j, decode (byt m) pc = .ok (.invokestatic j, 3) ∧ pm_lk1 tbl yN nst (yN m).cls j k ∧ pm_cl1 P tbl yN byt rT fr lo m k (pm_nar P k) ∧ Jvm.Cond.static (yN k) ∈ tbl ∧ pm_me P yN rT k))
    | .invokespecial k => nx = pc + 3 ∧ ((k = 9003 ∧ ∃ j, decode (byt m) pc = .ok (.invokespecial j, 3) ∧ Jvm.Cond.methodLink (yN m).cls j objectInit ∈ tbl ∧ Jvm.Cond.instanceMethod objectInit ∈ tbl ∧ Jvm.Cond.code objectInit ⟨#[0xb1]⟩ 1 none ∈ tbl ∧ 1 ≤ fr m ∧ 20 ≤ lo m) ∨
        (k < 9000 ∧ ∃ j, decode (byt m) pc = .ok (.invokespecial j, 3) ∧ pm_lk1 tbl yN nst (yN m).cls j k ∧ pm_cl1 P tbl yN byt rT fr lo m k (pm_nar P k - 1) ∧ Jvm.Cond.instanceMethod (yN k) ∈ tbl ∧ (yN k).name = "<init>" ∧ rT k = none ∧ pm_me P yN rT k))
    | .invokevirtual k => nx = pc + 3 ∧ ((9000 < k ∧ k < 9003 ∧ ∃ j, decode (byt m) pc = .ok (.invokevirtual j, 3) ∧ Jvm.Cond.methodLink (yN m).cls j (yN k) ∈ tbl ∧ pm_cl1 P tbl yN byt rT fr lo m k (k - 9001) ∧ Jvm.Cond.instanceMethod (yN k) ∈ tbl ∧ Jvm.Cond.selects (yN k).cls (yN k) (yN k) ∈ tbl ∧ (yN k).cls = "java/lang/String") ∨
        (k < 9000 ∧ ∃ j, decode (byt m) pc = .ok (.invokevirtual j, 3) ∧ pm_lk1 tbl yN nst (yN m).cls j k ∧ pm_cl1 P tbl yN byt rT fr lo m k (pm_nar P k - 1) ∧ Jvm.Cond.instanceMethod (yN k) ∈ tbl ∧ Jvm.Cond.selects (yN k).cls (yN k) (yN k) ∈ tbl ∧ (∃ (T : u_T) (N : Nat), cl[pm_rcv P k]? = some ((yN k).cls, T, N)) ∧ pm_me P yN rT k))
    | i => decode (byt m) pc = .ok (i, 1) ∧ nx = pc + 1
end AD
