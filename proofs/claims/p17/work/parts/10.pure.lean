/-! THE PURE MACHINE: one plain interpreter of the instructions that the system uses, over a heap of three maps. No word of any class stands here. -/
/-- ints, longs, references by address and place; how many cells there are -/
abbrev pm_H : Type := (Nat → Nat → Int32) × (Nat → Nat → Int64) × (Nat → Nat → Option Nat) × Nat
/-- an instruction: a constant that is pushed, or an instruction with resolved operands -/
abbrev pm_I : Type := Value ⊕ Instr
/-- a cell's shape: an object of a class, or an array (kind, length); kinds: 0 int, 1 long, 2 byte, 3 boolean, 4 + c references to class c -/
abbrev pm_S : Type := Nat ⊕ (Nat × Nat)
/-- code; a method's (values that it takes, locals, class of its receiver, kind of its answer: 0 none, 1 int, 2 long, 3 reference, 4 boolean); cells and slots that it may make; shapes; kinds of fields (0 int, 1 long, 2 reference, 3 boolean); how many fields; texts; the script -/
abbrev pm_P : Type := (Nat → Nat → Option (pm_I × Nat)) × (Nat → Nat × Nat × Nat × Nat) × (Nat → Nat × Nat) × (Nat → Option pm_S) × (Nat → Nat → Nat) × (Nat → Nat) × (Nat → List Int32) × List Int32
abbrev pm_cod (P : pm_P) : Nat → Nat → Option (pm_I × Nat) := P.1
abbrev pm_nar (P : pm_P) (m : Nat) : Nat := (P.2.1 m).1
abbrev pm_mxl (P : pm_P) (m : Nat) : Nat := (P.2.1 m).2.1
abbrev pm_rcv (P : pm_P) (m : Nat) : Nat := (P.2.1 m).2.2.1
abbrev pm_ret (P : pm_P) (m : Nat) : Nat := (P.2.1 m).2.2.2
abbrev pm_mc (P : pm_P) (m : Nat) : Nat := (P.2.2.1 m).1
abbrev pm_ms (P : pm_P) (m : Nat) : Nat := (P.2.2.1 m).2
abbrev pm_shp (P : pm_P) : Nat → Option pm_S := P.2.2.2.1
abbrev pm_fty (P : pm_P) : Nat → Nat → Nat := P.2.2.2.2.1
abbrev pm_nf (P : pm_P) : Nat → Nat := P.2.2.2.2.2.1
abbrev pm_txt (P : pm_P) : Nat → List Int32 := P.2.2.2.2.2.2.1
abbrev pm_scr (P : pm_P) : List Int32 := P.2.2.2.2.2.2.2
def pm_u {α : Type} (f : Nat → Nat → α) (a k : Nat) (x : α) : Nat → Nat → α := fun b j => if b = a then (if j = k then x else f b j) else f b j
def pm_r {α : Type} (f : Nat → Nat → α) (a : Nat) (g : Nat → α) : Nat → Nat → α := fun b j => if b = a then g j else f b j
abbrev pm_sI (h : pm_H) (a k : Nat) (x : Int32) : pm_H := (pm_u h.1 a k x, h.2)
abbrev pm_sL (h : pm_H) (a k : Nat) (x : Int64) : pm_H := (h.1, pm_u h.2.1 a k x, h.2.2)
abbrev pm_sR (h : pm_H) (a k : Nat) (x : Option Nat) : pm_H := (h.1, h.2.1, pm_u h.2.2.1 a k x, h.2.2.2)
abbrev pm_sA (h : pm_H) (a : Nat) (g : Nat → Int32) : pm_H := (pm_r h.1 a g, h.2)
/-- a cell's shape, if it is there -/
def pm_sh (P : pm_P) (h : pm_H) (a : Nat) : Option pm_S := if a < h.2.2.2 then pm_shp P a else none
/-- an index within -/
def pm_in (i : Int32) (n : Nat) : Bool := !(decide (i < 0) || decide (n ≤ i.toNatClampNeg))
/-- the place ahead of a local that is written holds no long any more -/
def pm_k (lv : List Value) (i : Nat) : List Value := match i with
  | 0 => lv
  | j + 1 => match lv[j]? with
    | some (.long _) => lv.set j (.retAddr 0)
    | some (.double _) => lv.set j (.retAddr 0)
    | _ => lv
def pm_st1 (lv : List Value) (i : Nat) (v : Value) : List Value := (pm_k lv i).set i v
def pm_st2 (lv : List Value) (i : Nat) (v : Value) : List Value := ((pm_k lv i).set i v).set (i + 1) (.retAddr 0)
/-- locals: loads, stores, iinc -/
def pm_lo (i : Instr) (lv st : List Value) : Option (List Value × List Value) := match i with
  | .iload k => match lv[k]? with
    | some (.int x) => some (lv, .int x :: st)
    | _ => none
  | .lload k => match lv[k]? with
    | some (.long x) => some (lv, .long x :: st)
    | _ => none
  | .aload k => match lv[k]? with
    | some (.ref x) => some (lv, .ref x :: st)
    | some .null => some (lv, .null :: st)
    | _ => none
  | .istore k => match st with
    | .int x :: r => if k < lv.length then some (pm_st1 lv k (.int x), r) else none
    | _ => none
  | .lstore k => match st with
    | .long x :: r => if k + 1 < lv.length then some (pm_st2 lv k (.long x), r) else none
    | _ => none
  | .astore k => match st with
    | .ref x :: r => if k < lv.length then some (pm_st1 lv k (.ref x), r) else none
    | .null :: r => if k < lv.length then some (pm_st1 lv k .null, r) else none
    | _ => none
  | .iinc k n => match lv[k]? with
    | some (.int x) => some (pm_st1 lv k (.int (x + Int32.ofInt n)), st)
    | _ => none
  | _ => none
/-- the stack alone -/
def pm_ar (i : Instr) (st : List Value) : Option (List Value) := match i with
  | .iadd => match st with
    | .int y :: .int x :: r => some (.int (x + y) :: r)
    | _ => none
  | .isub => match st with
    | .int y :: .int x :: r => some (.int (x - y) :: r)
    | _ => none
  | .imul => match st with
    | .int y :: .int x :: r => some (.int (x * y) :: r)
    | _ => none
  | .iand => match st with
    | .int y :: .int x :: r => some (.int (x &&& y) :: r)
    | _ => none
  | .ixor => match st with
    | .int y :: .int x :: r => some (.int (x ^^^ y) :: r)
    | _ => none
  | .idiv => match st with
    | .int y :: .int x :: r => if y = 0 then none else some (.int (x / y) :: r)
    | _ => none
  | .irem => match st with
    | .int y :: .int x :: r => if y = 0 then none else some (.int (x - x / y * y) :: r)
    | _ => none
  | .ineg => match st with
    | .int x :: r => some (.int (-x) :: r)
    | _ => none
  | .ishr => match st with
    | .int y :: .int x :: r => some (.int (x >>> (y &&& 31)) :: r)
    | _ => none
  | .ladd => match st with
    | .long y :: .long x :: r => some (.long (x + y) :: r)
    | _ => none
  | .lsub => match st with
    | .long y :: .long x :: r => some (.long (x - y) :: r)
    | _ => none
  | .lmul => match st with
    | .long y :: .long x :: r => some (.long (x * y) :: r)
    | _ => none
  | .land => match st with
    | .long y :: .long x :: r => some (.long (x &&& y) :: r)
    | _ => none
  | .ldiv => match st with
    | .long y :: .long x :: r => if y = 0 then none else some (.long (x / y) :: r)
    | _ => none
  | .lrem => match st with
    | .long y :: .long x :: r => if y = 0 then none else some (.long (x - x / y * y) :: r)
    | _ => none
  | .lshr => match st with
    | .int y :: .long x :: r => some (.long (x >>> (y.toInt64 &&& 63)) :: r)
    | _ => none
  | .lcmp => match st with
    | .long y :: .long x :: r => some (.int (lg_cmp x y) :: r)
    | _ => none
  | .i2l => match st with
    | .int x :: r => some (.long x.toInt64 :: r)
    | _ => none
  | .l2i => match st with
    | .long x :: r => some (.int x.toInt32 :: r)
    | _ => none
  | .i2b => match st with
    | .int x :: r => some (.int x.toInt8.toInt32 :: r)
    | _ => none
  | .dup => match st with
    | v :: r => if v.category = 1 then some (v :: v :: r) else none
    | _ => none
  | .pop => match st with
    | v :: r => if v.category = 1 then some r else none
    | _ => none
  | .pop2 => match st with
    | v :: r => if v.category = 2 then some r else none
    | _ => none
  | .dup2 => match st with
    | v :: r => if v.category = 2 then some (v :: v :: r) else match r with
      | w :: r => if w.category = 1 then some (v :: w :: v :: w :: r) else none
      | _ => none
    | _ => none
  | _ => none
def pm_cmp (c : ClassFile.Cond) (x y : Int32) : Bool := match c with
  | .eq => decide (x = y)
  | .ne => decide (¬ x = y)
  | .lt => decide (x < y)
  | .ge => decide (y ≤ x)
  | .gt => decide (y < x)
  | .le => decide (x ≤ y)
/-- a switch by pairs -/
def pm_lk : List (Int × Int) → Int → Int → Int
  | [], d, _ => d
  | (k, t) :: r, d, x => if x = k then t else pm_lk r d x
/-- where it goes on; targets are absolute here -/
def pm_br (i : Instr) (nx : Nat) (st : List Value) : Option (Nat × List Value) := match i with
  | .goto t => some (t.toNat, st)
  | .ifCond c t => match st with
    | .int x :: r => some (if pm_cmp c x 0 = true then t.toNat else nx, r)
    | _ => none
  | .if_icmp c t => match st with
    | .int y :: .int x :: r => some (if pm_cmp c x y = true then t.toNat else nx, r)
    | _ => none
  | .ifnull t => match st with
    | .null :: r => some (t.toNat, r)
    | .ref _ :: r => some (nx, r)
    | _ => none
  | .ifnonnull t => match st with
    | .null :: r => some (nx, r)
    | .ref _ :: r => some (t.toNat, r)
    | _ => none
  | .tableswitch d lo hi ts => match st with
    | .int x :: r => if x.toInt < lo ∨ hi < x.toInt then some (d.toNat, r) else match ts[(x.toInt - lo).toNat]? with
      | some t => some (t.toNat, r)
      | none => none
    | _ => none
  | .lookupswitch d ps => match st with
    | .int x :: r => some ((pm_lk ps.toList d x.toInt).toNat, r)
    | _ => none
  | _ => none
/-- what a field, or a place of an array, is read as -/
def pm_g (t : Nat) (h : pm_H) (a k : Nat) : Value := match t with
  | 1 => .long (h.2.1 a k)
  | 2 => va_rf (h.2.2.1 a k)
  | _ => .int (h.1 a k)
/-- a field, or a place of an array, is written -/
def pm_p (t : Nat) (h : pm_H) (a k : Nat) (v : Value) : Option pm_H := match v with
  | .int x => match t with
    | 0 => some (pm_sI h a k x)
    | 3 => if x = 0 ∨ x = 1 then some (pm_sI h a k x) else none
    | _ => none
  | .long x => if t = 1 then some (pm_sL h a k x) else none
  | .ref x => if t = 2 then some (pm_sR h a k (some x)) else none
  | .null => if t = 2 then some (pm_sR h a k none) else none
  | _ => none
/-- the heap: fields, arrays, System.arraycopy of ints (invokestatic 9000), Object.<init> (invokespecial 9003), texts (invokevirtual 9001, 9002), the script (caload: its length, saload: an int of it) -/
def pm_he (P : pm_P) (i : Instr) (st : List Value) (h : pm_H) : Option (List Value × pm_H) := match i with
  | .getfield n => match st with
    | .ref a :: r => if pm_sh P h a = some (.inl (n / 64)) then some (pm_g (pm_fty P (n / 64) (n % 64)) h a (n % 64) :: r, h) else none
    | _ => none
  | .putfield n => match st with
    | v :: .ref a :: r => if pm_sh P h a = some (.inl (n / 64)) then (pm_p (pm_fty P (n / 64) (n % 64)) h a (n % 64) v).map (fun h' => (r, h')) else none
    | _ => none
  | .arraylength => match st with
    | .ref a :: r => match pm_sh P h a with
      | some (.inr (_, n)) => some (.int (Int32.ofNat n) :: r, h)
      | _ => none
    | _ => none
  | .iaload => match st with
    | .int j :: .ref a :: r => match pm_sh P h a with
      | some (.inr (0, n)) => if pm_in j n = true then some (.int (h.1 a j.toNatClampNeg) :: r, h) else none
      | _ => none
    | _ => none
  | .baload => match st with
    | .int j :: .ref a :: r => match pm_sh P h a with
      | some (.inr (2, n)) => if pm_in j n = true then some (.int (h.1 a j.toNatClampNeg) :: r, h) else none
      | some (.inr (3, n)) => if pm_in j n = true then some (.int (h.1 a j.toNatClampNeg) :: r, h) else none
      | _ => none
    | _ => none
  | .laload => match st with
    | .int j :: .ref a :: r => match pm_sh P h a with
      | some (.inr (1, n)) => if pm_in j n = true then some (.long (h.2.1 a j.toNatClampNeg) :: r, h) else none
      | _ => none
    | _ => none
  | .aaload => match st with
    | .int j :: .ref a :: r => match pm_sh P h a with
      | some (.inr (_ + 4, n)) => if pm_in j n = true then some (va_rf (h.2.2.1 a j.toNatClampNeg) :: r, h) else none
      | _ => none
    | _ => none
  | .iastore => match st with
    | .int x :: .int j :: .ref a :: r => match pm_sh P h a with
      | some (.inr (0, n)) => if pm_in j n = true then some (r, pm_sI h a j.toNatClampNeg x) else none
      | _ => none
    | _ => none
  | .bastore => match st with
    | .int x :: .int j :: .ref a :: r => match pm_sh P h a with
      | some (.inr (2, n)) => if pm_in j n = true then some (r, pm_sI h a j.toNatClampNeg (vp_nar .byte x)) else none
      | some (.inr (3, n)) => if pm_in j n = true then some (r, pm_sI h a j.toNatClampNeg (vp_nar .boolean x)) else none
      | _ => none
    | _ => none
  | .lastore => match st with
    | .long x :: .int j :: .ref a :: r => match pm_sh P h a with
      | some (.inr (1, n)) => if pm_in j n = true then some (r, pm_sL h a j.toNatClampNeg x) else none
      | _ => none
    | _ => none
  | .aastore => match st with
    | .ref x :: .int j :: .ref a :: r => match pm_sh P h a with
      | some (.inr (c + 4, n)) => if pm_in j n = true ∧ pm_sh P h x = some (.inl c) then some (r, pm_sR h a j.toNatClampNeg (some x)) else none
      | _ => none
    | _ => none
  | .invokestatic n => if n = 9000 then match st with
      | .int c :: .int dp :: .ref b :: .int sp :: .ref a :: r => match pm_sh P h a, pm_sh P h b with
        | some (.inr (0, n0)), some (.inr (0, n1)) => if ¬ sp < 0 ∧ ¬ dp < 0 ∧ ¬ c < 0 ∧ sp.toNatClampNeg + c.toNatClampNeg ≤ n0 ∧ dp.toNatClampNeg + c.toNatClampNeg ≤ n1 ∧ (r.map Value.category).sum ≤ 8 then some (r, pm_sA h b (va_cpy (h.1 a) (h.1 b) sp.toNatClampNeg dp.toNatClampNeg c.toNatClampNeg)) else none
        | _, _ => none
      | _ => none
    else none
  | .invokespecial n => if n = 9003 then match st with
      | .ref _ :: r => if (r.map Value.category).sum ≤ 8 then some (r, h) else none
      | _ => none
    else none
  | .invokevirtual n => if n = 9001 then match st with
      | .ref a :: r => if (r.map Value.category).sum ≤ 8 ∧ 100000 ≤ a ∧ 0 < (pm_txt P (a - 100000)).length then some (.int (Int32.ofNat (pm_txt P (a - 100000)).length) :: r, h) else none
      | _ => none
    else if n = 9002 then match st with
      | .int j :: .ref a :: r => if (r.map Value.category).sum ≤ 8 ∧ 100000 ≤ a ∧ pm_in j (pm_txt P (a - 100000)).length = true then some (.int ((pm_txt P (a - 100000)).getD j.toNatClampNeg 0) :: r, h) else none
      | _ => none
    else none
  | .caload => match st with
    | .ref a :: r => if a = 99999 then some (.int (Int32.ofNat (pm_scr P).length) :: r, h) else none
    | _ => none
  | .saload => match st with
    | .int j :: .ref a :: r => if a = 99999 ∧ pm_in j (pm_scr P).length = true then some (.int ((pm_scr P).getD j.toNatClampNeg 0) :: r, h) else none
    | _ => none
  | _ => none
def pm_at : ArrayType → Nat
  | .int => 0
  | .long => 1
  | .byte => 2
  | .boolean => 3
  | _ => 4
/-- cells are made -/
def pm_al (P : pm_P) (m : Nat) (i : Instr) (st : List Value) (h : pm_H) (cs : Nat × Nat) : Option (List Value × pm_H × Nat × Nat) := match i with
  | .new c => if pm_shp P h.2.2.2 = some (.inl c) ∧ cs.1 + 1 ≤ pm_mc P m ∧ cs.2 + pm_nf P c ≤ pm_ms P m ∧ h.2.2.2 < 99999 then some (.ref h.2.2.2 :: st, (h.1, h.2.1, h.2.2.1, h.2.2.2 + 1), cs.1 + 1, cs.2 + pm_nf P c) else none
  | .newarray t => match st with
    | .int n :: r => if pm_shp P h.2.2.2 = some (.inr (pm_at t, n.toNatClampNeg)) ∧ pm_at t < 4 ∧ ¬ n < 0 ∧ n.toNatClampNeg ≤ 60000000 ∧ cs.1 + 1 ≤ pm_mc P m ∧ cs.2 + n.toNatClampNeg ≤ pm_ms P m ∧ h.2.2.2 < 99999 then some (.ref h.2.2.2 :: r, (h.1, h.2.1, h.2.2.1, h.2.2.2 + 1), cs.1 + 1, cs.2 + n.toNatClampNeg) else none
    | _ => none
  | .anewarray c => match st with
    | .int n :: r => if pm_shp P h.2.2.2 = some (.inr (c + 4, n.toNatClampNeg)) ∧ ¬ n < 0 ∧ n.toNatClampNeg ≤ 60000000 ∧ cs.1 + 1 ≤ pm_mc P m ∧ cs.2 + n.toNatClampNeg ≤ pm_ms P m ∧ h.2.2.2 < 99999 then some (.ref h.2.2.2 :: r, (h.1, h.2.1, h.2.2.1, h.2.2.2 + 1), cs.1 + 1, cs.2 + n.toNatClampNeg) else none
    | _ => none
  | _ => none
/-- the answer of a method -/
def pm_re (rt : Nat) (i : Instr) (st : List Value) : Option (List Value) := match i with
  | .return_ => match st with
    | [] => if rt = 0 then some [] else none
    | _ => none
  | .ireturn => match st with
    | [.int x] => if rt = 1 ∨ (rt = 4 ∧ (x = 0 ∨ x = 1)) then some [.int x] else none
    | _ => none
  | .lreturn => match st with
    | [.long x] => if rt = 2 then some [.long x] else none
    | _ => none
  | .areturn => match st with
    | [.ref x] => if rt = 3 then some [.ref x] else none
    | [.null] => if rt = 3 then some [.null] else none
    | _ => none
  | _ => none
/-- a method's locals at its entry -/
def pm_sl (vs : List Value) : List Value := vs.flatMap fun v => if v.category = 2 then [v, .retAddr 0] else [v]
def pm_en (vs : List Value) (n : Nat) : List Value := pm_sl vs ++ List.replicate (n - (pm_sl vs).length) (.retAddr 0)
/-- a call of an own method: its number, its values, what stays on the stack -/
def pm_ca (P : pm_P) (i : Instr) (st : List Value) (h : pm_H) : Option (Nat × List Value × List Value) := match i with
  | .invokestatic k => if k < 9000 ∧ pm_nar P k ≤ st.length ∧ ((st.drop (pm_nar P k)).map Value.category).sum ≤ 8 ∧ (pm_sl (st.take (pm_nar P k)).reverse).length ≤ pm_mxl P k then some (k, (st.take (pm_nar P k)).reverse, st.drop (pm_nar P k)) else none
  | .invokespecial k => if k < 9000 ∧ ((st.drop (pm_nar P k)).map Value.category).sum ≤ 8 then match (st.take (pm_nar P k)).reverse with
      | .ref a :: as => if as.length + 1 = pm_nar P k ∧ (pm_sl (.ref a :: as)).length ≤ pm_mxl P k then some (k, .ref a :: as, st.drop (pm_nar P k)) else none
      | _ => none
    else none
  | .invokevirtual k => if k < 9000 ∧ ((st.drop (pm_nar P k)).map Value.category).sum ≤ 8 then match (st.take (pm_nar P k)).reverse with
      | .ref a :: as => if as.length + 1 = pm_nar P k ∧ pm_sh P h a = some (.inl (pm_rcv P k)) ∧ (pm_sl (.ref a :: as)).length ≤ pm_mxl P k then some (k, .ref a :: as, st.drop (pm_nar P k)) else none
      | _ => none
    else none
  | _ => none
/-- one step that is no call and no return -/
def pm_s (P : pm_P) (m : Nat) (i : Instr) (nx : Nat) (lv st : List Value) (h : pm_H) (cs : Nat × Nat) : Option (Nat × List Value × List Value × pm_H × Nat × Nat) :=
  match pm_lo i lv st with
  | some r => some (nx, r.1, r.2, h, cs)
  | none => match pm_ar i st with
    | some r => some (nx, lv, r, h, cs)
    | none => match pm_br i nx st with
      | some r => some (r.1, lv, r.2, h, cs)
      | none => match pm_he P i st h with
        | some r => some (nx, lv, r.1, r.2, cs)
        | none => match pm_al P m i st h cs with
          | some r => some (nx, lv, r.1, r.2.1, r.2.2)
          | none => none
/-- the machine: what a method answers, and the heap behind it -/
def pm_run (P : pm_P) : Nat → Nat → Nat → List Value → List Value → pm_H → Nat × Nat → Option (List Value × pm_H)
  | 0, _, _, _, _, _, _ => none
  | f + 1, m, pc, lv, st, h, cs => match pm_cod P m pc with
    | none => none
    | some (.inl v, nx) => pm_run P f m nx lv (v :: st) h cs
    | some (.inr i, nx) => match pm_re (pm_ret P m) i st with
      | some v => some (v, h)
      | none => match pm_ca P i st h with
        | some (k, as, r) => if cs.1 + pm_mc P k ≤ pm_mc P m ∧ cs.2 + pm_ms P k ≤ pm_ms P m then match pm_run P f k 0 (pm_en as (pm_mxl P k)) [] h (0, 0) with
            | some (v, h') => if pm_mc P k = 0 ∨ h'.2.2.2 = h.2.2.2 + pm_mc P k then pm_run P f m nx lv (v ++ r) h' (cs.1 + pm_mc P k, cs.2 + pm_ms P k) else none
            | none => none
          else none
        | none => match pm_s P m i nx lv st h cs with
          | some (pc', lv', st', h', cs') => pm_run P f m pc' lv' st' h' cs'
          | none => none
/-- a table in two levels: pieces with their bounds -/
def pm_l2 {α : Type} : List (Nat × List (Nat × α)) → Nat → Option α
  | [], _ => none
  | (b, l) :: r, pc => bif Nat.blt pc b then l.lookup pc else pm_l2 r pc
theorem pm_lkm {α : Type} {l : List (Nat × α)} {j : Nat} {x : α} (h : l.lookup j = some x) : (j, x) ∈ l := by
  induction l with
  | nil => simp at h
  | cons a r ih =>
    obtain ⟨k, y⟩ := a
    rw [List.lookup_cons] at h
    split at h
    · rename_i e
      cases h
      rw [show j = k from by simpa using e]
      exact List.mem_cons_self
    · exact List.mem_cons_of_mem _ (ih h)
theorem pm_l2m {α : Type} {L : List (Nat × List (Nat × α))} {j : Nat} {x : α} (h : pm_l2 L j = some x) : ∃ z ∈ L, (j, x) ∈ z.2 := by
  induction L with
  | nil => simp [pm_l2] at h
  | cons a r ih =>
    obtain ⟨b, l⟩ := a
    rw [pm_l2] at h
    cases hb : Nat.blt j b with
    | true => rw [hb] at h; exact ⟨_, List.mem_cons_self, pm_lkm h⟩
    | false =>
      rw [hb] at h
      obtain ⟨z, h1, h2⟩ := ih h
      exact ⟨z, List.mem_cons_of_mem _ h1, h2⟩
/-- from here it comes to an end with Q -/
def pm_W (P : pm_P) (m pc : Nat) (lv st : List Value) (h : pm_H) (cs : Nat × Nat) (Q : List Value → pm_H → Prop) : Prop := ∃ f v h', pm_run P f m pc lv st h cs = some (v, h') ∧ Q v h'
theorem pm_mono {P : pm_P} : ∀ {f m pc : Nat} {lv st : List Value} {h : pm_H} {cs : Nat × Nat} {r : List Value × pm_H}, pm_run P f m pc lv st h cs = some r → pm_run P (f + 1) m pc lv st h cs = some r := by
  intro f
  induction f with
  | zero => intro m pc lv st h cs r e; simp [pm_run] at e
  | succ f ih =>
    intro m pc lv st h cs r e
    rw [pm_run] at e ⊢
    split at e
    · exact absurd e (by simp)
    · exact ih e
    · split at e
      · exact e
      · split at e
        · split at e
          · split at e
            · rename_i h1 _ _ h2
              split at e
              · rw [ih h2]
                rw [if_pos (by assumption)]
                show (if _ then _ else _) = _
                rw [if_pos (by assumption)]
                exact ih e
              · exact absurd e (by simp)
            · exact absurd e (by simp)
          · exact absurd e (by simp)
        · split at e
          · exact ih e
          · exact absurd e (by simp)
theorem pm_mono' {P : pm_P} {f g m pc : Nat} {lv st : List Value} {h : pm_H} {cs : Nat × Nat} {r : List Value × pm_H} (hg : f ≤ g) (e : pm_run P f m pc lv st h cs = some r) : pm_run P g m pc lv st h cs = some r := by
  obtain ⟨d, rfl⟩ := Nat.exists_eq_add_of_le hg
  induction d with
  | zero => exact e
  | succ d ih => exact pm_mono (ih (Nat.le_add_right _ _))
section PW
variable {P : pm_P} {m pc nx : Nat} {lv st : List Value} {h : pm_H} {cs : Nat × Nat} {Q : List Value → pm_H → Prop}
theorem pw_imp {Q' : List Value → pm_H → Prop} (hQ : ∀ v h', Q v h' → Q' v h') (k : pm_W P m pc lv st h cs Q) : pm_W P m pc lv st h cs Q' := by
  obtain ⟨f, v, h', a, b⟩ := k
  exact ⟨f, v, h', a, hQ _ _ b⟩
/-- a constant -/
theorem pw_c {v : Value} (hc : pm_cod P m pc = some (.inl v, nx)) (k : pm_W P m nx lv (v :: st) h cs Q) : pm_W P m pc lv st h cs Q := by
  obtain ⟨f, w, h', a, b⟩ := k
  exact ⟨f + 1, w, h', by rw [pm_run, hc]; exact a, b⟩
/-- a return -/
theorem pw_r {i : Instr} {v : List Value} (hc : pm_cod P m pc = some (.inr i, nx)) (hr : pm_re (pm_ret P m) i st = some v) (k : Q v h) : pm_W P m pc lv st h cs Q :=
  ⟨1, v, h, by rw [pm_run, hc]; simp only [hr], k⟩
/-- a step -/
theorem pw_s {i : Instr} {pc' : Nat} {lv' st' : List Value} {h' : pm_H} {cs' : Nat × Nat} (hc : pm_cod P m pc = some (.inr i, nx)) (hr : pm_re (pm_ret P m) i st = none) (ha : pm_ca P i st h = none) (hs : pm_s P m i nx lv st h cs = some (pc', lv', st', h', cs')) (k : pm_W P m pc' lv' st' h' cs' Q) : pm_W P m pc lv st h cs Q := by
  obtain ⟨f, w, g, a, b⟩ := k
  exact ⟨f + 1, w, g, by rw [pm_run, hc]; simp only [hr, ha, hs]; exact a, b⟩
/-- a call -/
theorem pw_ka {i : Instr} {k : Nat} {as r : List Value} (hc : pm_cod P m pc = some (.inr i, nx)) (hr : pm_re (pm_ret P m) i st = none) (ha : pm_ca P i st h = some (k, as, r)) (hm : cs.1 + pm_mc P k ≤ pm_mc P m ∧ cs.2 + pm_ms P k ≤ pm_ms P m)
    (kk : pm_W P k 0 (pm_en as (pm_mxl P k)) [] h (0, 0) (fun v h' => (pm_mc P k = 0 ∨ h'.2.2.2 = h.2.2.2 + pm_mc P k) ∧ pm_W P m nx lv (v ++ r) h' (cs.1 + pm_mc P k, cs.2 + pm_ms P k) Q)) : pm_W P m pc lv st h cs Q := by
  obtain ⟨f, v, h', a, hz, g, w, h'', b, q⟩ := kk
  refine ⟨f + g + 1, w, h'', ?_, q⟩
  rw [pm_run, hc]
  simp only [hr, ha]
  rw [if_pos hm, pm_mono' (Nat.le_add_right f g) a]
  show (if _ then _ else _) = _
  rw [if_pos hz]
  exact pm_mono' (Nat.le_add_left g f) b
/-- a call of a method that makes no cell -/
theorem pw_k {i : Instr} {k : Nat} {as r : List Value} (hc : pm_cod P m pc = some (.inr i, nx)) (hr : pm_re (pm_ret P m) i st = none) (ha : pm_ca P i st h = some (k, as, r)) (hz : P.2.2.1 k = (0, 0)) (hm : cs.1 ≤ pm_mc P m ∧ cs.2 ≤ pm_ms P m)
    (kk : pm_W P k 0 (pm_en as (pm_mxl P k)) [] h (0, 0) (fun v h' => pm_W P m nx lv (v ++ r) h' cs Q)) : pm_W P m pc lv st h cs Q := by
  refine pw_ka hc hr ha (by simp only [pm_mc, pm_ms, hz]; exact hm) (pw_imp (fun v h' q => ⟨Or.inl (by simp only [pm_mc, hz]), ?_⟩) kk)
  have e : (cs.1 + pm_mc P k, cs.2 + pm_ms P k) = cs := by simp only [pm_mc, pm_ms, hz]; rfl
  rw [e]
  exact q
end PW
theorem pm_he_n {P : pm_P} {i : Instr} {st st' : List Value} {h h' : pm_H} (e : pm_he P i st h = some (st', h')) : h'.2.2.2 = h.2.2.2 := by
  unfold pm_he at e
  repeat' split at e
  all_goals first | (cases e; rfl; done) | (obtain ⟨h1, hp1, hp2⟩ := Option.map_eq_some_iff.mp e; cases hp2; unfold pm_p at hp1; repeat' split at hp1) | (cases e; done)
  all_goals first | (cases hp1; rfl; done) | (cases hp1; done)
theorem pm_n0 {P : pm_P} : ∀ {f m pc : Nat} {lv st : List Value} {h : pm_H} {cs : Nat × Nat} {v : List Value} {h' : pm_H}, pm_mc P m = 0 → pm_run P f m pc lv st h cs = some (v, h') → h'.2.2.2 = h.2.2.2 := by
  intro f
  induction f with
  | zero => intro m pc lv st h cs v h' _ e; simp [pm_run] at e
  | succ f ih =>
    intro m pc lv st h cs v h' hm e
    rw [pm_run] at e
    split at e
    · exact absurd e (by simp)
    · exact ih hm e
    · split at e
      · cases e; rfl
      · split at e
        · rename_i k as r _
          split at e
          · rename_i hk
            have hk0 : pm_mc P k = 0 := by omega
            split at e
            · rename_i e1
              split at e
              · rw [ih hm e, ih hk0 e1]
              · exact absurd e (by simp)
            · exact absurd e (by simp)
          · exact absurd e (by simp)
        · split at e
          · rename_i e1
            rw [ih hm e]
            unfold pm_s at e1
            repeat' split at e1
            all_goals first | (cases e1; rfl; done) | (cases e1; done) | skip
            · rename_i e2
              cases e1
              exact pm_he_n e2
            · rename_i e2
              cases e1
              unfold pm_al at e2
              repeat' split at e2
              all_goals first | (rename_i hq; omega) | (cases e2; done)
          · exact absurd e (by simp)
