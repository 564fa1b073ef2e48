section
/-! THE PURE MACHINE: one plain interpreter of the instructions that the system uses, over a heap of three maps. No word of any class stands here. -/
/-- ints, longs, references by address and place; how many cells there are -/
abbrev pm_H : Type := (Nat → Nat → Int32) × (Nat → Nat → Int64) × (Nat → Nat → Option Nat) × Nat
/-- an instruction: a constant that is pushed, or an instruction with resolved operands -/
abbrev pm_I : Type := Value ⊕ Instr
/-- a cell's shape: an object of a class, or an array (kind, length); kinds: 0 int, 1 long, 2 byte, 3 boolean, 4 + c references to class c -/
abbrev pm_S : Type := Nat ⊕ (Nat × Nat)
/-- code; a method's (values that it takes, locals, class of its receiver, kind of its answer: 0 none, 1 int, 2 long, 3 reference, 4 boolean); cells and slots that it may make; shapes; kinds of fields (0 int, 1 long, 2 reference, 3 boolean); how many fields; texts; the script -/
abbrev pm_P : Type := (Nat → Nat → Option (pm_I × Nat)) × (Nat → Nat × Nat × Nat × Nat) × (Nat → Nat × Nat) × (Nat → Option pm_S) × (Nat → Nat → Nat) × (Nat → Nat) × (Nat → List Int32) × List Int32
abbrev pm_cod (P : pm_P) : Nat → Nat → Option (pm_I × Nat) := P.1
abbrev pm_nar (P : pm_P) (m : Nat) : Nat := (P.2.1 m).1
abbrev pm_mxl (P : pm_P) (m : Nat) : Nat := (P.2.1 m).2.1
abbrev pm_rcv (P : pm_P) (m : Nat) : Nat := (P.2.1 m).2.2.1
abbrev pm_ret (P : pm_P) (m : Nat) : Nat := (P.2.1 m).2.2.2
abbrev pm_mc (P : pm_P) (m : Nat) : Nat := (P.2.2.1 m).1
abbrev pm_ms (P : pm_P) (m : Nat) : Nat := (P.2.2.1 m).2
abbrev pm_shp (P : pm_P) : Nat → Option pm_S := P.2.2.2.1
abbrev pm_fty (P : pm_P) : Nat → Nat → Nat := P.2.2.2.2.1
abbrev pm_nf (P : pm_P) : Nat → Nat := P.2.2.2.2.2.1
abbrev pm_txt (P : pm_P) : Nat → List Int32 := P.2.2.2.2.2.2.1
abbrev pm_scr (P : pm_P) : List Int32 := P.2.2.2.2.2.2.2
def pm_u {α : Type} (f : Nat → Nat → α) (a k : Nat) (x : α) : Nat → Nat → α := fun b j => if b = a then (if j = k then x else f b j) else f b j
def pm_r {α : Type} (f : Nat → Nat → α) (a : Nat) (g : Nat → α) : Nat → Nat → α := fun b j => if b = a then g j else f b j
abbrev pm_sI (h : pm_H) (a k : Nat) (x : Int32) : pm_H := (pm_u h.1 a k x, h.2)
abbrev pm_sL (h : pm_H) (a k : Nat) (x : Int64) : pm_H := (h.1, pm_u h.2.1 a k x, h.2.2)
abbrev pm_sR (h : pm_H) (a k : Nat) (x : Option Nat) : pm_H := (h.1, h.2.1, pm_u h.2.2.1 a k x, h.2.2.2)
abbrev pm_sA (h : pm_H) (a : Nat) (g : Nat → Int32) : pm_H := (pm_r h.1 a g, h.2)
/-- a cell's shape, if it is there -/
def pm_sh (P : pm_P) (h : pm_H) (a : Nat) : Option pm_S := if a < h.2.2.2 then pm_shp P a else none
/-- an index within -/
def pm_in (i : Int32) (n : Nat) : Bool := !(decide (i < 0) || decide (n ≤ i.toNatClampNeg))
/-- the place ahead of a local that is written holds no long any more -/
def pm_k (lv : List Value) (i : Nat) : List Value := match i with
  | 0 => lv
  | j + 1 => match lv[j]? with
    | some (.long _) => lv.set j (.retAddr 0)
    | some (.double _) => lv.set j (.retAddr 0)
    | _ => lv
def pm_st1 (lv : List Value) (i : Nat) (v : Value) : List Value := (pm_k lv i).set i v
def pm_st2 (lv : List Value) (i : Nat) (v : Value) : List Value := ((pm_k lv i).set i v).set (i + 1) (.retAddr 0)
/-- locals: loads, stores, iinc -/
def pm_lo (i : Instr) (lv st : List Value) : Option (List Value × List Value) := match i with
  | .iload k => match lv[k]? with
    | some (.int x) => some (lv, .int x :: st)
    | _ => none
  | .lload k => match lv[k]? with
    | some (.long x) => some (lv, .long x :: st)
    | _ => none
  | .aload k => match lv[k]? with
    | some (.ref x) => some (lv, .ref x :: st)
    | some .null => some (lv, .null :: st)
    | _ => none
  | .istore k => match st with
    | .int x :: r => if k < lv.length then some (pm_st1 lv k (.int x), r) else none
    | _ => none
  | .lstore k => match st with
    | .long x :: r => if k + 1 < lv.length then some (pm_st2 lv k (.long x), r) else none
    | _ => none
  | .astore k => match st with
    | .ref x :: r => if k < lv.length then some (pm_st1 lv k (.ref x), r) else none
    | .null :: r => if k < lv.length then some (pm_st1 lv k .null, r) else none
    | _ => none
  | .iinc k n => match lv[k]? with
    | some (.int x) => some (pm_st1 lv k (.int (x + Int32.ofInt n)), st)
    | _ => none
  | _ => none
/-- the stack alone -/
def pm_ar (i : Instr) (st : List Value) : Option (List Value) := match i with
  | .iadd => match st with
    | .int y :: .int x :: r => some (.int (x + y) :: r)
    | _ => none
  | .isub => match st with
    | .int y :: .int x :: r => some (.int (x - y) :: r)
    | _ => none
  | .imul => match st with
    | .int y :: .int x :: r => some (.int (x * y) :: r)
    | _ => none
  | .iand => match st with
    | .int y :: .int x :: r => some (.int (x &&& y) :: r)
    | _ => none
  | .ixor => match st with
    | .int y :: .int x :: r => some (.int (x ^^^ y) :: r)
    | _ => none
  | .idiv => match st with
    | .int y :: .int x :: r => if y = 0 then none else some (.int (x / y) :: r)
    | _ => none
  | .irem => match st with
    | .int y :: .int x :: r => if y = 0 then none else some (.int (x - x / y * y) :: r)
    | _ => none
  | .ineg => match st with
    | .int x :: r => some (.int (-x) :: r)
    | _ => none
  | .ishr => match st with
    | .int y :: .int x :: r => some (.int (x >>> (y &&& 31)) :: r)
    | _ => none
  | .ladd => match st with
    | .long y :: .long x :: r => some (.long (x + y) :: r)
    | _ => none
  | .lsub => match st with
    | .long y :: .long x :: r => some (.long (x - y) :: r)
    | _ => none
  | .lmul => match st with
    | .long y :: .long x :: r => some (.long (x * y) :: r)
    | _ => none
  | .land => match st with
    | .long y :: .long x :: r => some (.long (x &&& y) :: r)
    | _ => none
  | .ldiv => match st with
    | .long y :: .long x :: r => if y = 0 then none else some (.long (x / y) :: r)
    | _ => none
  | .lrem => match st with
    | .long y :: .long x :: r => if y = 0 then none else some (.long (x - x / y * y) :: r)
    | _ => none
  | .lshr => match st with
    | .int y :: .long x :: r => some (.long (x >>> (y.toInt64 &&& 63)) :: r)
    | _ => none
  | .lcmp => match st with
    | .long y :: .long x :: r => some (.int (lg_cmp x y) :: r)
    | _ => none
  | .i2l => match st with
    | .int x :: r => some (.long x.toInt64 :: r)
    | _ => none
  | .l2i => match st with
    | .long x :: r => some (.int x.toInt32 :: r)
    | _ => none
  | .i2b => match st with
    | .int x :: r => some (.int x.toInt8.toInt32 :: r)
    | _ => none
  | .dup => match st with
    | v :: r => if v.category = 1 then some (v :: v :: r) else none
    | _ => none
  | .pop => match st with
    | v :: r => if v.category = 1 then some r else none
    | _ => none
  | .dup2 => match st with
    | v :: r => if v.category = 2 then some (v :: v :: r) else match r with
      | w :: r => if w.category = 1 then some (v :: w :: v :: w :: r) else none
      | _ => none
    | _ => none
  | _ => none
def pm_cmp (c : ClassFile.Cond) (x y : Int32) : Bool := match c with
  | .eq => decide (x = y)
  | .ne => decide (¬ x = y)
  | .lt => decide (x < y)
  | .ge => decide (y ≤ x)
  | .gt => decide (y < x)
  | .le => decide (x ≤ y)
/-- a switch by pairs -/
def pm_lk : List (Int × Int) → Int → Int → Int
  | [], d, _ => d
  | (k, t) :: r, d, x => if x = k then t else pm_lk r d x
/-- where it goes on; targets are absolute here -/
def pm_br (i : Instr) (nx : Nat) (st : List Value) : Option (Nat × List Value) := match i with
  | .goto t => some (t.toNat, st)
  | .ifCond c t => match st with
    | .int x :: r => some (if pm_cmp c x 0 = true then t.toNat else nx, r)
    | _ => none
  | .if_icmp c t => match st with
    | .int y :: .int x :: r => some (if pm_cmp c x y = true then t.toNat else nx, r)
    | _ => none
  | .ifnull t => match st with
    | .null :: r => some (t.toNat, r)
    | .ref _ :: r => some (nx, r)
    | _ => none
  | .ifnonnull t => match st with
    | .null :: r => some (nx, r)
    | .ref _ :: r => some (t.toNat, r)
    | _ => none
  | .tableswitch d lo hi ts => match st with
    | .int x :: r => if x.toInt < lo ∨ hi < x.toInt then some (d.toNat, r) else match ts[(x.toInt - lo).toNat]? with
      | some t => some (t.toNat, r)
      | none => none
    | _ => none
  | .lookupswitch d ps => match st with
    | .int x :: r => some ((pm_lk ps.toList d x.toInt).toNat, r)
    | _ => none
  | _ => none
/-- what a field, or a place of an array, is read as -/
def pm_g (t : Nat) (h : pm_H) (a k : Nat) : Value := match t with
  | 1 => .long (h.2.1 a k)
  | 2 => va_rf (h.2.2.1 a k)
  | _ => .int (h.1 a k)
/-- a field, or a place of an array, is written -/
def pm_p (t : Nat) (h : pm_H) (a k : Nat) (v : Value) : Option pm_H := match v with
  | .int x => match t with
    | 0 => some (pm_sI h a k x)
    | 3 => if x = 0 ∨ x = 1 then some (pm_sI h a k x) else none
    | _ => none
  | .long x => if t = 1 then some (pm_sL h a k x) else none
  | .ref x => if t = 2 then some (pm_sR h a k (some x)) else none
  | .null => if t = 2 then some (pm_sR h a k none) else none
  | _ => none
/-- the heap: fields, arrays, System.arraycopy of ints (invokestatic 9000), Object.<init> (invokespecial 9003), texts (invokevirtual 9001, 9002), the script (caload: its length, saload: an int of it) -/
def pm_he (P : pm_P) (i : Instr) (st : List Value) (h : pm_H) : Option (List Value × pm_H) := match i with
  | .getfield n => match st with
    | .ref a :: r => if pm_sh P h a = some (.inl (n / 64)) then some (pm_g (pm_fty P (n / 64) (n % 64)) h a (n % 64) :: r, h) else none
    | _ => none
  | .putfield n => match st with
    | v :: .ref a :: r => if pm_sh P h a = some (.inl (n / 64)) then (pm_p (pm_fty P (n / 64) (n % 64)) h a (n % 64) v).map (fun h' => (r, h')) else none
    | _ => none
  | .arraylength => match st with
    | .ref a :: r => match pm_sh P h a with
      | some (.inr (_, n)) => some (.int (Int32.ofNat n) :: r, h)
      | _ => none
    | _ => none
  | .iaload => match st with
    | .int j :: .ref a :: r => match pm_sh P h a with
      | some (.inr (0, n)) => if pm_in j n = true then some (.int (h.1 a j.toNatClampNeg) :: r, h) else none
      | _ => none
    | _ => none
  | .baload => match st with
    | .int j :: .ref a :: r => match pm_sh P h a with
      | some (.inr (2, n)) => if pm_in j n = true then some (.int (h.1 a j.toNatClampNeg) :: r, h) else none
      | some (.inr (3, n)) => if pm_in j n = true then some (.int (h.1 a j.toNatClampNeg) :: r, h) else none
      | _ => none
    | _ => none
  | .laload => match st with
    | .int j :: .ref a :: r => match pm_sh P h a with
      | some (.inr (1, n)) => if pm_in j n = true then some (.long (h.2.1 a j.toNatClampNeg) :: r, h) else none
      | _ => none
    | _ => none
  | .aaload => match st with
    | .int j :: .ref a :: r => match pm_sh P h a with
      | some (.inr (_ + 4, n)) => if pm_in j n = true then some (va_rf (h.2.2.1 a j.toNatClampNeg) :: r, h) else none
      | _ => none
    | _ => none
  | .iastore => match st with
    | .int x :: .int j :: .ref a :: r => match pm_sh P h a with
      | some (.inr (0, n)) => if pm_in j n = true then some (r, pm_sI h a j.toNatClampNeg x) else none
      | _ => none
    | _ => none
  | .bastore => match st with
    | .int x :: .int j :: .ref a :: r => match pm_sh P h a with
      | some (.inr (2, n)) => if pm_in j n = true then some (r, pm_sI h a j.toNatClampNeg (vp_nar .byte x)) else none
      | some (.inr (3, n)) => if pm_in j n = true then some (r, pm_sI h a j.toNatClampNeg (vp_nar .boolean x)) else none
      | _ => none
    | _ => none
  | .lastore => match st with
    | .long x :: .int j :: .ref a :: r => match pm_sh P h a with
      | some (.inr (1, n)) => if pm_in j n = true then some (r, pm_sL h a j.toNatClampNeg x) else none
      | _ => none
    | _ => none
  | .aastore => match st with
    | .ref x :: .int j :: .ref a :: r => match pm_sh P h a with
      | some (.inr (c + 4, n)) => if pm_in j n = true ∧ pm_sh P h x = some (.inl c) then some (r, pm_sR h a j.toNatClampNeg (some x)) else none
      | _ => none
    | _ => none
  | .invokestatic n => if n = 9000 then match st with
      | .int c :: .int dp :: .ref b :: .int sp :: .ref a :: r => match pm_sh P h a, pm_sh P h b with
        | some (.inr (0, n0)), some (.inr (0, n1)) => if ¬ sp < 0 ∧ ¬ dp < 0 ∧ ¬ c < 0 ∧ sp.toNatClampNeg + c.toNatClampNeg ≤ n0 ∧ dp.toNatClampNeg + c.toNatClampNeg ≤ n1 ∧ (r.map Value.category).sum ≤ 8 then some (r, pm_sA h b (va_cpy (h.1 a) (h.1 b) sp.toNatClampNeg dp.toNatClampNeg c.toNatClampNeg)) else none
        | _, _ => none
      | _ => none
    else none
  | .invokespecial n => if n = 9003 then match st with
      | .ref _ :: r => if (r.map Value.category).sum ≤ 8 then some (r, h) else none
      | _ => none
    else none
  | .invokevirtual n => if n = 9001 then match st with
      | .ref a :: r => if (r.map Value.category).sum ≤ 8 ∧ 100000 ≤ a ∧ 0 < (pm_txt P (a - 100000)).length then some (.int (Int32.ofNat (pm_txt P (a - 100000)).length) :: r, h) else none
      | _ => none
    else if n = 9002 then match st with
      | .int j :: .ref a :: r => if (r.map Value.category).sum ≤ 8 ∧ 100000 ≤ a ∧ pm_in j (pm_txt P (a - 100000)).length = true then some (.int ((pm_txt P (a - 100000)).getD j.toNatClampNeg 0) :: r, h) else none
      | _ => none
    else none
  | .caload => match st with
    | .ref a :: r => if a = 99999 then some (.int (Int32.ofNat (pm_scr P).length) :: r, h) else none
    | _ => none
  | .saload => match st with
    | .int j :: .ref a :: r => if a = 99999 ∧ pm_in j (pm_scr P).length = true then some (.int ((pm_scr P).getD j.toNatClampNeg 0) :: r, h) else none
    | _ => none
  | _ => none
def pm_at : ArrayType → Nat
  | .int => 0
  | .long => 1
  | .byte => 2
  | .boolean => 3
  | _ => 4
/-- cells are made -/
def pm_al (P : pm_P) (m : Nat) (i : Instr) (st : List Value) (h : pm_H) (cs : Nat × Nat) : Option (List Value × pm_H × Nat × Nat) := match i with
  | .new c => if pm_shp P h.2.2.2 = some (.inl c) ∧ cs.1 + 1 ≤ pm_mc P m ∧ cs.2 + pm_nf P c ≤ pm_ms P m ∧ h.2.2.2 < 99999 then some (.ref h.2.2.2 :: st, (h.1, h.2.1, h.2.2.1, h.2.2.2 + 1), cs.1 + 1, cs.2 + pm_nf P c) else none
  | .newarray t => match st with
    | .int n :: r => if pm_shp P h.2.2.2 = some (.inr (pm_at t, n.toNatClampNeg)) ∧ pm_at t < 4 ∧ ¬ n < 0 ∧ n.toNatClampNeg ≤ 60000000 ∧ cs.1 + 1 ≤ pm_mc P m ∧ cs.2 + n.toNatClampNeg ≤ pm_ms P m ∧ h.2.2.2 < 99999 then some (.ref h.2.2.2 :: r, (h.1, h.2.1, h.2.2.1, h.2.2.2 + 1), cs.1 + 1, cs.2 + n.toNatClampNeg) else none
    | _ => none
  | .anewarray c => match st with
    | .int n :: r => if pm_shp P h.2.2.2 = some (.inr (c + 4, n.toNatClampNeg)) ∧ ¬ n < 0 ∧ n.toNatClampNeg ≤ 60000000 ∧ cs.1 + 1 ≤ pm_mc P m ∧ cs.2 + n.toNatClampNeg ≤ pm_ms P m ∧ h.2.2.2 < 99999 then some (.ref h.2.2.2 :: r, (h.1, h.2.1, h.2.2.1, h.2.2.2 + 1), cs.1 + 1, cs.2 + n.toNatClampNeg) else none
    | _ => none
  | _ => none
/-- the answer of a method -/
def pm_re (rt : Nat) (i : Instr) (st : List Value) : Option (List Value) := match i with
  | .return_ => match st with
    | [] => if rt = 0 then some [] else none
    | _ => none
  | .ireturn => match st with
    | [.int x] => if rt = 1 ∨ (rt = 4 ∧ (x = 0 ∨ x = 1)) then some [.int x] else none
    | _ => none
  | .lreturn => match st with
    | [.long x] => if rt = 2 then some [.long x] else none
    | _ => none
  | .areturn => match st with
    | [.ref x] => if rt = 3 then some [.ref x] else none
    | [.null] => if rt = 3 then some [.null] else none
    | _ => none
  | _ => none
/-- a method's locals at its entry -/
def pm_sl (vs : List Value) : List Value := vs.flatMap fun v => if v.category = 2 then [v, .retAddr 0] else [v]
def pm_en (vs : List Value) (n : Nat) : List Value := pm_sl vs ++ List.replicate (n - (pm_sl vs).length) (.retAddr 0)
/-- a call of an own method: its number, its values, what stays on the stack -/
def pm_ca (P : pm_P) (i : Instr) (st : List Value) (h : pm_H) : Option (Nat × List Value × List Value) := match i with
  | .invokestatic k => if k < 9000 ∧ pm_nar P k ≤ st.length ∧ ((st.drop (pm_nar P k)).map Value.category).sum ≤ 8 ∧ (pm_sl (st.take (pm_nar P k)).reverse).length ≤ pm_mxl P k then some (k, (st.take (pm_nar P k)).reverse, st.drop (pm_nar P k)) else none
  | .invokespecial k => if k < 9000 ∧ ((st.drop (pm_nar P k)).map Value.category).sum ≤ 8 then match (st.take (pm_nar P k)).reverse with
      | .ref a :: as => if as.length + 1 = pm_nar P k ∧ (pm_sl (.ref a :: as)).length ≤ pm_mxl P k then some (k, .ref a :: as, st.drop (pm_nar P k)) else none
      | _ => none
    else none
  | .invokevirtual k => if k < 9000 ∧ ((st.drop (pm_nar P k)).map Value.category).sum ≤ 8 then match (st.take (pm_nar P k)).reverse with
      | .ref a :: as => if as.length + 1 = pm_nar P k ∧ pm_sh P h a = some (.inl (pm_rcv P k)) ∧ (pm_sl (.ref a :: as)).length ≤ pm_mxl P k then some (k, .ref a :: as, st.drop (pm_nar P k)) else none
      | _ => none
    else none
  | _ => none
/-- one step that is no call and no return -/
def pm_s (P : pm_P) (m : Nat) (i : Instr) (nx : Nat) (lv st : List Value) (h : pm_H) (cs : Nat × Nat) : Option (Nat × List Value × List Value × pm_H × Nat × Nat) :=
  match pm_lo i lv st with
  | some r => some (nx, r.1, r.2, h, cs)
  | none => match pm_ar i st with
    | some r => some (nx, lv, r, h, cs)
    | none => match pm_br i nx st with
      | some r => some (r.1, lv, r.2, h, cs)
      | none => match pm_he P i st h with
        | some r => some (nx, lv, r.1, r.2, cs)
        | none => match pm_al P m i st h cs with
          | some r => some (nx, lv, r.1, r.2.1, r.2.2)
          | none => none
/-- the machine: what a method answers, and the heap behind it -/
def pm_run (P : pm_P) : Nat → Nat → Nat → List Value → List Value → pm_H → Nat × Nat → Option (List Value × pm_H)
  | 0, _, _, _, _, _, _ => none
  | f + 1, m, pc, lv, st, h, cs => match pm_cod P m pc with
    | none => none
    | some (.inl v, nx) => pm_run P f m nx lv (v :: st) h cs
    | some (.inr i, nx) => match pm_re (pm_ret P m) i st with
      | some v => some (v, h)
      | none => match pm_ca P i st h with
        | some (k, as, r) => if cs.1 + pm_mc P k ≤ pm_mc P m ∧ cs.2 + pm_ms P k ≤ pm_ms P m then match pm_run P f k 0 (pm_en as (pm_mxl P k)) [] h (0, 0) with
            | some (v, h') => if pm_mc P k = 0 ∨ h'.2.2.2 = h.2.2.2 + pm_mc P k then pm_run P f m nx lv (v ++ r) h' (cs.1 + pm_mc P k, cs.2 + pm_ms P k) else none
            | none => none
          else none
        | none => match pm_s P m i nx lv st h cs with
          | some (pc', lv', st', h', cs') => pm_run P f m pc' lv' st' h' cs'
          | none => none
/-- from here it comes to an end with Q -/
def pm_W (P : pm_P) (m pc : Nat) (lv st : List Value) (h : pm_H) (cs : Nat × Nat) (Q : List Value → pm_H → Prop) : Prop := ∃ f v h', pm_run P f m pc lv st h cs = some (v, h') ∧ Q v h'
theorem pm_mono {P : pm_P} : ∀ {f m pc : Nat} {lv st : List Value} {h : pm_H} {cs : Nat × Nat} {r : List Value × pm_H}, pm_run P f m pc lv st h cs = some r → pm_run P (f + 1) m pc lv st h cs = some r := by
  intro f
  induction f with
  | zero => intro m pc lv st h cs r e; simp [pm_run] at e
  | succ f ih =>
    intro m pc lv st h cs r e
    rw [pm_run] at e ⊢
    split at e
    · exact absurd e (by simp)
    · exact ih e
    · split at e
      · exact e
      · split at e
        · split at e
          · split at e
            · rename_i h1 _ _ h2
              split at e
              · rw [ih h2]
                rw [if_pos (by assumption)]
                show (if _ then _ else _) = _
                rw [if_pos (by assumption)]
                exact ih e
              · exact absurd e (by simp)
            · exact absurd e (by simp)
          · exact absurd e (by simp)
        · split at e
          · exact ih e
          · exact absurd e (by simp)
theorem pm_mono' {P : pm_P} {f g m pc : Nat} {lv st : List Value} {h : pm_H} {cs : Nat × Nat} {r : List Value × pm_H} (hg : f ≤ g) (e : pm_run P f m pc lv st h cs = some r) : pm_run P g m pc lv st h cs = some r := by
  obtain ⟨d, rfl⟩ := Nat.exists_eq_add_of_le hg
  induction d with
  | zero => exact e
  | succ d ih => exact pm_mono (ih (Nat.le_add_right _ _))
section PW
variable {P : pm_P} {m pc nx : Nat} {lv st : List Value} {h : pm_H} {cs : Nat × Nat} {Q : List Value → pm_H → Prop}
theorem pw_imp {Q' : List Value → pm_H → Prop} (hQ : ∀ v h', Q v h' → Q' v h') (k : pm_W P m pc lv st h cs Q) : pm_W P m pc lv st h cs Q' := by
  obtain ⟨f, v, h', a, b⟩ := k
  exact ⟨f, v, h', a, hQ _ _ b⟩
/-- a constant -/
theorem pw_c {v : Value} (hc : pm_cod P m pc = some (.inl v, nx)) (k : pm_W P m nx lv (v :: st) h cs Q) : pm_W P m pc lv st h cs Q := by
  obtain ⟨f, w, h', a, b⟩ := k
  exact ⟨f + 1, w, h', by rw [pm_run, hc]; exact a, b⟩
/-- a return -/
theorem pw_r {i : Instr} {v : List Value} (hc : pm_cod P m pc = some (.inr i, nx)) (hr : pm_re (pm_ret P m) i st = some v) (k : Q v h) : pm_W P m pc lv st h cs Q :=
  ⟨1, v, h, by rw [pm_run, hc]; simp only [hr], k⟩
/-- a step -/
theorem pw_s {i : Instr} {pc' : Nat} {lv' st' : List Value} {h' : pm_H} {cs' : Nat × Nat} (hc : pm_cod P m pc = some (.inr i, nx)) (hr : pm_re (pm_ret P m) i st = none) (ha : pm_ca P i st h = none) (hs : pm_s P m i nx lv st h cs = some (pc', lv', st', h', cs')) (k : pm_W P m pc' lv' st' h' cs' Q) : pm_W P m pc lv st h cs Q := by
  obtain ⟨f, w, g, a, b⟩ := k
  exact ⟨f + 1, w, g, by rw [pm_run, hc]; simp only [hr, ha, hs]; exact a, b⟩
/-- a call -/
theorem pw_ka {i : Instr} {k : Nat} {as r : List Value} (hc : pm_cod P m pc = some (.inr i, nx)) (hr : pm_re (pm_ret P m) i st = none) (ha : pm_ca P i st h = some (k, as, r)) (hm : cs.1 + pm_mc P k ≤ pm_mc P m ∧ cs.2 + pm_ms P k ≤ pm_ms P m)
    (kk : pm_W P k 0 (pm_en as (pm_mxl P k)) [] h (0, 0) (fun v h' => (pm_mc P k = 0 ∨ h'.2.2.2 = h.2.2.2 + pm_mc P k) ∧ pm_W P m nx lv (v ++ r) h' (cs.1 + pm_mc P k, cs.2 + pm_ms P k) Q)) : pm_W P m pc lv st h cs Q := by
  obtain ⟨f, v, h', a, hz, g, w, h'', b, q⟩ := kk
  refine ⟨f + g + 1, w, h'', ?_, q⟩
  rw [pm_run, hc]
  simp only [hr, ha]
  rw [if_pos hm, pm_mono' (Nat.le_add_right f g) a]
  show (if _ then _ else _) = _
  rw [if_pos hz]
  exact pm_mono' (Nat.le_add_left g f) b
/-- a call of a method that makes no cell -/
theorem pw_k {i : Instr} {k : Nat} {as r : List Value} (hc : pm_cod P m pc = some (.inr i, nx)) (hr : pm_re (pm_ret P m) i st = none) (ha : pm_ca P i st h = some (k, as, r)) (hz : P.2.2.1 k = (0, 0)) (hm : cs.1 ≤ pm_mc P m ∧ cs.2 ≤ pm_ms P m)
    (kk : pm_W P k 0 (pm_en as (pm_mxl P k)) [] h (0, 0) (fun v h' => pm_W P m nx lv (v ++ r) h' cs Q)) : pm_W P m pc lv st h cs Q := by
  refine pw_ka hc hr ha (by simp only [pm_mc, pm_ms, hz]; exact hm) (pw_imp (fun v h' q => ⟨Or.inl (by simp only [pm_mc, hz]), ?_⟩) kk)
  have e : (cs.1 + pm_mc P k, cs.2 + pm_ms P k) = cs := by simp only [pm_mc, pm_ms, hz]; rfl
  rw [e]
  exact q
end PW
theorem pm_he_n {P : pm_P} {i : Instr} {st st' : List Value} {h h' : pm_H} (e : pm_he P i st h = some (st', h')) : h'.2.2.2 = h.2.2.2 := by
  unfold pm_he at e
  repeat' split at e
  all_goals first | (cases e; rfl; done) | (obtain ⟨h1, hp1, hp2⟩ := Option.map_eq_some_iff.mp e; cases hp2; unfold pm_p at hp1; repeat' split at hp1) | (cases e; done)
  all_goals first | (cases hp1; rfl; done) | (cases hp1; done)
theorem pm_n0 {P : pm_P} : ∀ {f m pc : Nat} {lv st : List Value} {h : pm_H} {cs : Nat × Nat} {v : List Value} {h' : pm_H}, pm_mc P m = 0 → pm_run P f m pc lv st h cs = some (v, h') → h'.2.2.2 = h.2.2.2 := by
  intro f
  induction f with
  | zero => intro m pc lv st h cs v h' _ e; simp [pm_run] at e
  | succ f ih =>
    intro m pc lv st h cs v h' hm e
    rw [pm_run] at e
    split at e
    · exact absurd e (by simp)
    · exact ih hm e
    · split at e
      · cases e; rfl
      · split at e
        · rename_i k as r _
          split at e
          · rename_i hk
            have hk0 : pm_mc P k = 0 := by omega
            split at e
            · rename_i e1
              split at e
              · rw [ih hm e, ih hk0 e1]
              · exact absurd e (by simp)
            · exact absurd e (by simp)
          · exact absurd e (by simp)
        · split at e
          · rename_i e1
            rw [ih hm e]
            unfold pm_s at e1
            repeat' split at e1
            all_goals first | (cases e1; rfl; done) | (cases e1; done) | skip
            · rename_i e2
              cases e1
              exact pm_he_n e2
            · rename_i e2
              cases e1
              unfold pm_al at e2
              repeat' split at e2
              all_goals first | (rename_i hq; omega) | (cases e2; done)
          · exact absurd e (by simp)
end
section
/-! THE PURE HEAP IN THE REAL ONE -/
/-- a pure value as the real machine has it: ρ says where a pure address lies -/
def pm_c (ρ : Nat → Nat) : Value → Value
  | .ref a => .ref (ρ a)
  | v => v
theorem pm_c_cat (ρ : Nat → Nat) (v : Value) : (pm_c ρ v).category = v.category := by cases v <;> rfl
theorem pm_c_rf (ρ : Nat → Nat) (o : Option Nat) : pm_c ρ (va_rf o) = va_rf (o.map ρ) := by cases o <;> rfl
theorem pm_c_sum (ρ : Nat → Nat) (r : List Value) : ((r.map (pm_c ρ)).map fun v => v.category).sum = (r.map Value.category).sum := by
  induction r with
  | nil => rfl
  | cons v r ih => simp only [List.map_cons, List.sum_cons, ih, pm_c_cat]
/-- a cell -/
def pm_E (P : pm_P) (tA : Nat → ClassId) (ρ : Nat → Nat) (h : pm_H) (a : Nat) : va_E := match pm_shp P a with
  | some (.inl c) => .inr (c, (List.range (pm_nf P c)).map fun k => pm_c ρ (pm_g (pm_fty P c k) h a k))
  | some (.inr (0, n)) => .inl (tA 0, n, .inl (h.1 a))
  | some (.inr (1, n)) => .inl (tA 1, n, .inr (.inl (h.2.1 a)))
  | some (.inr (2, n)) => .inl (tA 2, n, .inl (h.1 a))
  | some (.inr (3, n)) => .inl (tA 3, n, .inl (h.1 a))
  | some (.inr (t + 4, n)) => .inl (tA (t + 4), n, .inr (.inr (.inr (.inr fun i => (h.2.2.1 a i).map ρ))))
  | none => .inr (0, [])
def pm_w (P : pm_P) (tA : Nat → ClassId) (ρ : Nat → Nat) (h : pm_H) : va_W := (List.range h.2.2.2).map fun a => (ρ a, pm_E P tA ρ h a)
theorem pm_w_get {P : pm_P} {tA : Nat → ClassId} {ρ : Nat → Nat} {h : pm_H} {a : Nat} (ha : a < h.2.2.2) : (pm_w P tA ρ h)[a]? = some (ρ a, pm_E P tA ρ h a) := by
  simp [pm_w, ha]
theorem pm_w_len {P : pm_P} {tA : Nat → ClassId} {ρ : Nat → Nat} {h : pm_H} : (pm_w P tA ρ h).length = h.2.2.2 := by simp [pm_w]
theorem pm_w_set {P : pm_P} {tA : Nat → ClassId} {ρ : Nat → Nat} {h h' : pm_H} {a : Nat} {e : va_E} (hn : h'.2.2.2 = h.2.2.2) (he : e = pm_E P tA ρ h' a) (ho : ∀ b, b ≠ a → pm_E P tA ρ h' b = pm_E P tA ρ h b) : (pm_w P tA ρ h).set a (ρ a, e) = pm_w P tA ρ h' := by
  subst he
  apply List.ext_getElem?
  intro j
  rw [List.getElem?_set]
  by_cases hj : a = j
  · subst hj
    by_cases hl : a < h.2.2.2
    · rw [if_pos rfl, if_pos (by rw [pm_w_len]; exact hl), pm_w_get (by rw [hn]; exact hl)]
    · rw [if_pos rfl, if_neg (by rw [pm_w_len]; exact hl)]
      symm
      rw [List.getElem?_eq_none_iff, pm_w_len]
      omega
  · rw [if_neg hj]
    by_cases hl : j < h.2.2.2
    · rw [pm_w_get hl, pm_w_get (by rw [hn]; exact hl), ho j (fun q => hj q.symm)]
    · rw [List.getElem?_eq_none_iff.mpr (by rw [pm_w_len]; omega), List.getElem?_eq_none_iff.mpr (by rw [pm_w_len]; omega)]
/-- nothing is there yet from n on -/
def pm_Z (h : pm_H) : Prop := ∀ a k, h.2.2.2 ≤ a → h.1 a k = 0 ∧ h.2.1 a k = 0 ∧ h.2.2.1 a k = none
def pm_Rel (P : pm_P) (tA : Nat → ClassId) (ρ : Nat → Nat) (base : Nat) (D : va_G) (cl : List vw_C) (h : pm_H) (H : Heap) : Prop :=
  va_P D cl (pm_w P tA ρ h) H ∧ h.2.2.2 ≤ 99999 ∧ pm_Z h
theorem pm_D {P : pm_P} {tA : Nat → ClassId} {ρ : Nat → Nat} {base : Nat} {h : pm_H} (hρ : ∀ a, a < 99999 → ρ a = base + a) (hn : h.2.2.2 ≤ 99999) : va_D (fun q : Nat => base ≤ q) (pm_w P tA ρ h) := by
  have key : ∀ (k : Nat) (q : Nat × va_E), (pm_w P tA ρ h)[k]? = some q → q.1 = base + k := by
    intro k q hq
    have hk : k < h.2.2.2 := by
      have := (List.getElem?_eq_some_iff.mp hq).1
      rwa [pm_w_len] at this
    rw [pm_w_get hk] at hq
    cases hq
    exact hρ k (by omega)
  refine ⟨fun i j p q hp hq e => ?_, fun k q hq => ?_⟩
  · have h1 := key i p hp
    have h2 := key j q hq
    omega
  · have h1 := key k q hq
    show base ≤ q.1
    omega
/-- the locals -/
def pm_L (ρ : Nat → Nat) (ls : Array Slot) (lv : List Value) : Prop := ls.size = lv.length ∧ lv_wf ls ∧ ∀ (i : Nat) (v : Value), lv[i]? = some v → (∀ q, v ≠ .retAddr q) → ls[i]? = some (.val (pm_c ρ v))
def pm_ll (ρ : Nat → Nat) (lv : List Value) : List (Nat × Value) := (List.range lv.length).filterMap fun j => match (lv[j]? : Option Value) with
  | some (Value.retAddr _) => none
  | some v => some (j, pm_c ρ v)
  | none => none
theorem pm_ll_mem {ρ : Nat → Nat} {lv : List Value} {j : Nat} {w : Value} : (j, w) ∈ pm_ll ρ lv ↔ ∃ v, lv[j]? = some v ∧ (∀ q, v ≠ .retAddr q) ∧ w = pm_c ρ v := by
  unfold pm_ll
  rw [List.mem_filterMap]
  constructor
  · rintro ⟨i, hi, e⟩
    cases hv : lv[i]? with
    | none => rw [hv] at e; cases e
    | some v =>
      rw [hv] at e
      cases v <;> first | (cases e; done) | (cases e; exact ⟨_, hv, fun q => by simp, rfl⟩)
  · rintro ⟨v, hv, hq, rfl⟩
    refine ⟨j, List.mem_range.mpr (List.getElem?_eq_some_iff.mp hv).1, ?_⟩
    rw [hv]
    cases v <;> first | rfl | exact absurd rfl (hq _)
theorem pm_L_has {ρ : Nat → Nat} {ls : Array Slot} {lv : List Value} (h : pm_L ρ ls lv) : lv_has ls lv.length (pm_ll ρ lv) := by
  refine ⟨h.1, h.2.1, fun q hq => ?_⟩
  obtain ⟨v, h1, h2, h3⟩ := pm_ll_mem.mp (show (q.1, q.2) ∈ _ from hq)
  rw [h3]
  exact h.2.2 _ _ h1 h2
theorem pm_k_len (lv : List Value) (i : Nat) : (pm_k lv i).length = lv.length := by
  unfold pm_k
  split
  · rfl
  · split <;> simp
theorem pm_st1_len (lv : List Value) (i : Nat) (v : Value) : (pm_st1 lv i v).length = lv.length := by simp [pm_st1, pm_k_len]
theorem pm_st2_len (lv : List Value) (i : Nat) (v : Value) : (pm_st2 lv i v).length = lv.length := by simp [pm_st2, pm_k_len]
theorem pm_k_get {lv : List Value} {i j : Nat} {u : Value} (h : (pm_k lv i)[j]? = some u) (hu : ∀ q, u ≠ .retAddr q) : lv[j]? = some u ∧ ¬ (j + 1 = i ∧ u.category = 2) := by
  unfold pm_k at h
  split at h
  · exact ⟨h, fun q => by omega⟩
  · rename_i n
    have key : ∀ x, (lv.set n (.retAddr 0))[j]? = some u → lv[n]? = some x → lv[j]? = some u ∧ ¬ (j + 1 = n + 1 ∧ u.category = 2) := by
      intro x e hx
      by_cases hj : n = j
      · subst hj
        rw [List.getElem?_set, if_pos rfl, if_pos (List.getElem?_eq_some_iff.mp hx).1] at e
        cases e
        exact absurd rfl (hu 0)
      · rw [List.getElem?_set, if_neg hj] at e
        exact ⟨e, fun q => hj (by omega)⟩
    split at h
    · exact key _ h (by assumption)
    · exact key _ h (by assumption)
    · rename_i h1 h2
      refine ⟨h, fun q => ?_⟩
      have : j = n := by omega
      subst this
      cases u with
      | long z => exact h1 z h
      | double z => exact h2 z h
      | _ => simp [Value.category] at q
theorem pm_L_st1 {ρ : Nat → Nat} {ls' : Array Slot} {lv : List Value} {i : Nat} {v : Value} (hh : lv_has ls' lv.length ((i, pm_c ρ v) :: (pm_ll ρ lv).filter (fun q => !(q.1 == i) && !(q.1 + 1 == i && q.2.category == 2)))) : pm_L ρ ls' (pm_st1 lv i v) := by
  obtain ⟨h1, h2, h3⟩ := hh
  refine ⟨by rw [h1, pm_st1_len], h2, fun j u hj hu => ?_⟩
  unfold pm_st1 at hj
  rw [List.getElem?_set] at hj
  by_cases e : i = j
  · subst e
    rw [if_pos rfl] at hj
    split at hj
    · cases hj
      exact h3 (i, pm_c ρ v) List.mem_cons_self
    · cases hj
  · rw [if_neg e] at hj
    obtain ⟨g1, g2⟩ := pm_k_get hj hu
    refine h3 (j, pm_c ρ u) (List.mem_cons_of_mem _ (List.mem_filter.mpr ⟨pm_ll_mem.mpr ⟨u, g1, hu, rfl⟩, ?_⟩))
    simp only [pm_c_cat, Bool.and_eq_true, Bool.not_eq_true', beq_eq_false_iff_ne, ne_eq, Bool.and_eq_false_iff]
    refine ⟨fun q => e q.symm, ?_⟩
    by_cases q1 : j + 1 = i
    · exact Or.inr fun q2 => g2 ⟨q1, q2⟩
    · exact Or.inl q1
theorem pm_L_st2 {ρ : Nat → Nat} {ls' : Array Slot} {lv : List Value} {i : Nat} {v : Value} (hh : lv_has ls' lv.length ((i, pm_c ρ v) :: (pm_ll ρ lv).filter (fun q => !(q.1 == i) && (!(q.1 == i + 1) && !(q.1 + 1 == i && q.2.category == 2))))) : pm_L ρ ls' (pm_st2 lv i v) := by
  obtain ⟨h1, h2, h3⟩ := hh
  refine ⟨by rw [h1, pm_st2_len], h2, fun j u hj hu => ?_⟩
  unfold pm_st2 at hj
  rw [List.getElem?_set] at hj
  by_cases e1 : i + 1 = j
  · subst e1
    rw [if_pos rfl] at hj
    split at hj
    · cases hj
      exact absurd rfl (hu 0)
    · cases hj
  · rw [if_neg e1, List.getElem?_set] at hj
    by_cases e : i = j
    · subst e
      rw [if_pos rfl] at hj
      split at hj
      · cases hj
        exact h3 (i, pm_c ρ v) List.mem_cons_self
      · cases hj
    · rw [if_neg e] at hj
      obtain ⟨g1, g2⟩ := pm_k_get hj hu
      refine h3 (j, pm_c ρ u) (List.mem_cons_of_mem _ (List.mem_filter.mpr ⟨pm_ll_mem.mpr ⟨u, g1, hu, rfl⟩, ?_⟩))
      simp only [pm_c_cat, Bool.and_eq_true, Bool.not_eq_true', beq_eq_false_iff_ne, ne_eq, Bool.and_eq_false_iff]
      refine ⟨fun q => e q.symm, fun q => e1 q.symm, ?_⟩
      by_cases q1 : j + 1 = i
      · exact Or.inr fun q2 => g2 ⟨q1, q2⟩
      · exact Or.inl q1
theorem pm_sl_len (vs : List Value) (ρ : Nat → Nat) : (lg_sl (vs.map (pm_c ρ))).length = (pm_sl vs).length := by
  unfold lg_sl pm_sl
  induction vs with
  | nil => rfl
  | cons v vs ih =>
    simp only [List.map_cons, List.flatMap_cons, List.length_append, ih, pm_c_cat]
    by_cases h : v.category = 2
    · rw [if_pos h, if_pos h]; rfl
    · rw [if_neg h, if_neg h]; rfl
theorem pm_args_mem {ρ : Nat → Nat} (vs : List Value) : ∀ (i j : Nat) (u : Value), (pm_sl vs)[j]? = some u → (∀ q, u ≠ .retAddr q) → (i + j, pm_c ρ u) ∈ lv_args i (vs.map (pm_c ρ)) := by
  induction vs with
  | nil => intro i j u h; simp [pm_sl] at h
  | cons v vs ih =>
    intro i j u h hu
    simp only [pm_sl, List.flatMap_cons] at h
    simp only [List.map_cons, lv_args, pm_c_cat]
    by_cases hc : v.category = 2
    · rw [if_pos hc] at h ⊢
      match j, h with
      | 0, h =>
        simp at h
        subst h
        exact List.mem_cons_self
      | 1, h =>
        simp at h
        exact absurd h.symm (hu 0)
      | j + 2, h =>
        refine List.mem_cons_of_mem _ ?_
        have := ih (i + 2) j u (by simpa [pm_sl] using h) hu
        rwa [show i + 2 + j = i + (j + 2) by omega] at this
    · rw [if_neg hc] at h ⊢
      match j, h with
      | 0, h =>
        simp at h
        subst h
        exact List.mem_cons_self
      | j + 1, h =>
        refine List.mem_cons_of_mem _ ?_
        have := ih (i + 1) j u (by simpa [pm_sl] using h) hu
        rwa [show i + 1 + j = i + (j + 1) by omega] at this
theorem pm_en_len {vs : List Value} {n : Nat} (h : (pm_sl vs).length ≤ n) : (pm_en vs n).length = n := by
  simp [pm_en]; omega
theorem pm_L_entry {ρ : Nat → Nat} {vs : List Value} {n : Nat} (h : (pm_sl vs).length ≤ n) : pm_L ρ ((lg_sl (vs.map (pm_c ρ)) ++ List.replicate (n - (lg_sl (vs.map (pm_c ρ))).length) Slot.unset).toArray) (pm_en vs n) := by
  obtain ⟨h1, h2, h3⟩ := lv_entry (vs.map (pm_c ρ)) (n := n) (by rw [pm_sl_len]; exact h)
  refine ⟨by rw [h1, pm_en_len h], h2, fun j u hj hu => ?_⟩
  unfold pm_en at hj
  rw [List.getElem?_append] at hj
  split at hj
  · have := pm_args_mem (ρ := ρ) vs 0 j u hj hu
    rw [Nat.zero_add] at this
    exact h3 _ this
  · rw [List.getElem?_replicate] at hj
    split at hj
    · cases hj
      exact absurd rfl (hu 0)
    · cases hj
end
section
/-! WHAT THE TABLES MUST SAY OF AN INSTRUCTION: at pc of method m the bytes decode to what the pure machine does there -/
section AD
variable (P : pm_P) (tbl : List Jvm.Cond) (yN : Nat → MethodName) (byt : Nat → ByteArray) (rT : Nat → Option FieldType) (fr lo : Nat → Nat) (cl : List vw_C) (strs : List (String × Nat × Nat)) (nst : List Jvm.Cond)
def pm_tk : FieldType → Nat
  | .int => 0
  | .long => 1
  | .boolean => 3
  | .object _ => 2
  | .array _ => 2
  | _ => 77
def pm_rk : Option FieldType → Nat
  | none => 0
  | some .int => 1
  | some .long => 2
  | some (.object _) => 3
  | some (.array _) => 3
  | some .boolean => 4
  | _ => 77
/-- a class of the table -/
def pm_Cls (c : Nat) (C : String) (T : u_T) (N : Nat) (ty : Nat → FieldType) : Prop :=
  cl[c]? = some (C, T, N) ∧ N = pm_nf P c ∧ (∀ w ∈ u_ws C T N, w ∈ tbl) ∧ (∀ k, k < N → parseFieldDescriptor (T k).2.2.1 = some (ty k)) ∧ (∀ a, a < N → ∀ b, b < N → a ≠ b → (T a).2.1 ≠ (T b).2.1) ∧ ∀ k, k < N → (pm_fty P c k = pm_tk (ty k) ∧ pm_tk (ty k) < 4)
/-- a field's link -/
def pm_fl (own : String) (i c k : Nat) : Prop := ∃ (C : String) (T : u_T) (N : Nat) (ty : Nat → FieldType), pm_Cls P tbl cl c C T N ty ∧ k < N ∧ k < 64 ∧
  (Jvm.Cond.fieldLink own i (T k).1 (T k).2.1 (T k).2.2.1 ∈ tbl ∨ ∃ host, Jvm.Cond.fieldLinkNest own i (T k).1 (T k).2.1 (T k).2.2.1 host ∈ nst)
/-- a field's link, for writing -/
def pm_fp (own nm : String) (i c k : Nat) : Prop := ∃ (C : String) (T : u_T) (N : Nat) (ty : Nat → FieldType), pm_Cls P tbl cl c C T N ty ∧ k < N ∧ k < 64 ∧
  (((T k).2.2.2 = false ∧ (Jvm.Cond.fieldLink own i (T k).1 (T k).2.1 (T k).2.2.1 ∈ tbl ∨ ∃ host, Jvm.Cond.fieldLinkNest own i (T k).1 (T k).2.1 (T k).2.2.1 host ∈ nst)) ∨
   ((T k).2.2.2 = true ∧ nm = "<init>" ∧ (T k).1 = own ∧ Jvm.Cond.fieldLink own i (T k).1 (T k).2.1 (T k).2.2.1 ∈ tbl))
/-- a call's link -/
def pm_lk1 (own : String) (i k : Nat) : Prop := Jvm.Cond.methodLink own i (yN k) ∈ tbl ∨ ∃ host, Jvm.Cond.methodLinkNest own i (yN k) host ∈ nst
/-- what a call wants of its method -/
def pm_cl1 (m k n : Nat) : Prop := Jvm.Cond.initialized (yN k).cls ∈ tbl ∧ Jvm.Cond.code (yN k) (byt k) (pm_mxl P k) (rT k) ∈ tbl ∧ ((yN k).cls ≠ "java/lang/invoke/MethodHandle" ∧ (yN k).cls ≠ "java/lang/invoke/VarHandle" ∧ (parseMethodDescriptor (yN k).desc).map (fun d => d.parameters.length) = some n) ∧
  0 < k ∧ fr k + 1 ≤ fr m ∧ 8 + (pm_mxl P k + 11) + lo k ≤ lo m
/-- what holds of every method that is called or walked -/
def pm_me (k : Nat) : Prop := plainName (yN k).cls = true ∧ pm_ret P k = pm_rk (rT k)
def pm_Ad (m pc : Nat) (x : pm_I) (nx : Nat) : Prop := match x with
  | .inl v => (∃ (n : Int), decode (byt m) pc = .ok (.iconst n, 1) ∧ v = .int (Int32.ofInt n) ∧ nx = pc + 1) ∨
      (∃ (n : Int), decode (byt m) pc = .ok (.bipush n, 2) ∧ v = .int (Int8.ofInt n).toInt32 ∧ nx = pc + 2) ∨
      (∃ (n : Int), decode (byt m) pc = .ok (.sipush n, 3) ∧ v = .int (Int16.ofInt n).toInt32 ∧ nx = pc + 3) ∨
      (∃ (n : Fin 2), decode (byt m) pc = .ok (.lconst n, 1) ∧ v = .long (Int64.ofNat (n : Nat)) ∧ nx = pc + 1) ∨
      (decode (byt m) pc = .ok (.aconst_null, 1) ∧ v = .null ∧ nx = pc + 1) ∨
      (∃ (i : Nat) (z : Int32), decode (byt m) pc = .ok (.ldc i, 2) ∧ v = .int z ∧ nx = pc + 2 ∧ Jvm.Cond.constant (yN m).cls i z ∈ tbl) ∨
      (∃ (i : Nat) (z : Int32), decode (byt m) pc = .ok (.ldc_w i, 3) ∧ v = .int z ∧ nx = pc + 3 ∧ Jvm.Cond.constant (yN m).cls i z ∈ tbl) ∨
      (∃ (i : Nat) (z : Int64), decode (byt m) pc = .ok (.ldc2_w i, 3) ∧ v = .long z ∧ nx = pc + 3 ∧ Jvm.Cond.constantLong (yN m).cls i z ∈ tbl) ∨
      (∃ (i j : Nat), decode (byt m) pc = .ok (.ldc i, 2) ∧ v = .ref (100000 + j) ∧ nx = pc + 2 ∧ ((yN m).cls, i, j) ∈ strs) ∨
      (∃ (i j : Nat), decode (byt m) pc = .ok (.ldc_w i, 3) ∧ v = .ref (100000 + j) ∧ nx = pc + 3 ∧ ((yN m).cls, i, j) ∈ strs)
  | .inr i => match i with
    | .iload k => (∃ n : Fin 4, decode (byt m) pc = .ok (.iload_n n, 1) ∧ (n : Nat) = k ∧ nx = pc + 1) ∨ (decode (byt m) pc = .ok (.iload k, 2) ∧ nx = pc + 2)
    | .lload k => (∃ n : Fin 4, decode (byt m) pc = .ok (.lload_n n, 1) ∧ (n : Nat) = k ∧ nx = pc + 1) ∨ (decode (byt m) pc = .ok (.lload k, 2) ∧ nx = pc + 2)
    | .aload k => (∃ n : Fin 4, decode (byt m) pc = .ok (.aload_n n, 1) ∧ (n : Nat) = k ∧ nx = pc + 1) ∨ (decode (byt m) pc = .ok (.aload k, 2) ∧ nx = pc + 2)
    | .istore k => (∃ n : Fin 4, decode (byt m) pc = .ok (.istore_n n, 1) ∧ (n : Nat) = k ∧ nx = pc + 1) ∨ (decode (byt m) pc = .ok (.istore k, 2) ∧ nx = pc + 2)
    | .lstore k => (∃ n : Fin 4, decode (byt m) pc = .ok (.lstore_n n, 1) ∧ (n : Nat) = k ∧ nx = pc + 1) ∨ (decode (byt m) pc = .ok (.lstore k, 2) ∧ nx = pc + 2)
    | .astore k => (∃ n : Fin 4, decode (byt m) pc = .ok (.astore_n n, 1) ∧ (n : Nat) = k ∧ nx = pc + 1) ∨ (decode (byt m) pc = .ok (.astore k, 2) ∧ nx = pc + 2)
    | .iinc k n => decode (byt m) pc = .ok (.iinc k n, 3) ∧ nx = pc + 3
    | .goto t => ∃ (o : Int) (u : Nat), decode (byt m) pc = .ok (.goto o, 3) ∧ t = (u : Int) ∧ (pc : Int) + o = (u : Int)
    | .ifCond c t => ∃ (o : Int) (u : Nat), decode (byt m) pc = .ok (.ifCond c o, 3) ∧ t = (u : Int) ∧ (pc : Int) + o = (u : Int) ∧ nx = pc + 3
    | .if_icmp c t => ∃ (o : Int) (u : Nat), decode (byt m) pc = .ok (.if_icmp c o, 3) ∧ t = (u : Int) ∧ (pc : Int) + o = (u : Int) ∧ nx = pc + 3
    | .ifnull t => ∃ (o : Int) (u : Nat), decode (byt m) pc = .ok (.ifnull o, 3) ∧ t = (u : Int) ∧ (pc : Int) + o = (u : Int) ∧ nx = pc + 3
    | .ifnonnull t => ∃ (o : Int) (u : Nat), decode (byt m) pc = .ok (.ifnonnull o, 3) ∧ t = (u : Int) ∧ (pc : Int) + o = (u : Int) ∧ nx = pc + 3
    | .tableswitch d a b ts => ∃ (o : Int) (u len : Nat) (os : Array Int), decode (byt m) pc = .ok (.tableswitch o a b os, len) ∧ d = (u : Int) ∧ (pc : Int) + o = (u : Int) ∧ ts = os.map (fun z => (pc : Int) + z) ∧ ∀ z ∈ os, 0 ≤ (pc : Int) + z
    | .lookupswitch d qs => ∃ (o : Int) (u len : Nat) (ps : Array (Int × Int)), decode (byt m) pc = .ok (.lookupswitch o ps, len) ∧ d = (u : Int) ∧ (pc : Int) + o = (u : Int) ∧ qs = ps.map (fun z => (z.1, (pc : Int) + z.2)) ∧ (∀ z ∈ ps, 0 ≤ (pc : Int) + z.2) ∧ (ps.toList.zip (ps.toList.drop 1)).all (fun (a, next) => a.1 < next.1) = true
    | .getfield n => ∃ (j : Nat), decode (byt m) pc = .ok (.getfield j, 3) ∧ nx = pc + 3 ∧ pm_fl P tbl cl nst (yN m).cls j (n / 64) (n % 64)
    | .putfield n => ∃ (j : Nat), decode (byt m) pc = .ok (.putfield j, 3) ∧ nx = pc + 3 ∧ pm_fp P tbl cl nst (yN m).cls (yN m).name j (n / 64) (n % 64)
    | .caload => m = 0 ∧ decode (byt m) pc = .ok (.arraylength, 1) ∧ nx = pc + 1
    | .saload => m = 0 ∧ decode (byt m) pc = .ok (.iaload, 1) ∧ nx = pc + 1
    | .new c => ∃ (j : Nat) (C : String) (T : u_T) (N : Nat) (ty : Nat → FieldType), decode (byt m) pc = .ok (.new j, 3) ∧ nx = pc + 3 ∧ pm_Cls P tbl cl c C T N ty ∧ Jvm.Cond.classLink (yN m).cls j C ∈ tbl ∧ Jvm.Cond.instantiable C N ∈ tbl ∧ Jvm.Cond.initialized C ∈ tbl
    | .newarray t => decode (byt m) pc = .ok (.newarray t, 2) ∧ nx = pc + 2 ∧ Jvm.Cond.arrayClass (newarray.typeOf t) ∈ tbl
    | .anewarray c => ∃ (j : Nat) (C : String) (T : u_T) (N : Nat), decode (byt m) pc = .ok (.anewarray j, 3) ∧ nx = pc + 3 ∧ cl[c]? = some (C, T, N) ∧ Jvm.Cond.classLink (yN m).cls j C ∈ tbl ∧ Jvm.Cond.arrayOver (.object C) ∈ nst
    | .invokestatic k => nx = pc + 3 ∧ ((k = 9000 ∧ ∃ j, decode (byt m) pc = .ok (.invokestatic j, 3) ∧ Jvm.Cond.methodLink (yN m).cls j arraycopyName ∈ tbl ∧ Jvm.Cond.native arraycopyName ∈ tbl ∧ Jvm.Cond.static arraycopyName ∈ tbl ∧ Jvm.Cond.initialized "java/lang/System" ∈ tbl ∧ 1 ≤ fr m ∧ 8 + (nativeFrameWords "java/lang/System" "arraycopy" 5 + 11) ≤ lo m) ∨
        (k < 9000 ∧ ∃ j, decode (byt m) pc = .ok (.invokestatic j, 3) ∧ pm_lk1 tbl yN nst (yN m).cls j k ∧ pm_cl1 P tbl yN byt rT fr lo m k (pm_nar P k) ∧ Jvm.Cond.static (yN k) ∈ tbl ∧ pm_me P yN rT k))
    | .invokespecial k => nx = pc + 3 ∧ ((k = 9003 ∧ ∃ j, decode (byt m) pc = .ok (.invokespecial j, 3) ∧ Jvm.Cond.methodLink (yN m).cls j objectInit ∈ tbl ∧ Jvm.Cond.instanceMethod objectInit ∈ tbl ∧ Jvm.Cond.code objectInit ⟨#[0xb1]⟩ 1 none ∈ tbl ∧ 1 ≤ fr m ∧ 20 ≤ lo m) ∨
        (k < 9000 ∧ ∃ j, decode (byt m) pc = .ok (.invokespecial j, 3) ∧ pm_lk1 tbl yN nst (yN m).cls j k ∧ pm_cl1 P tbl yN byt rT fr lo m k (pm_nar P k - 1) ∧ Jvm.Cond.instanceMethod (yN k) ∈ tbl ∧ (yN k).name = "<init>" ∧ rT k = none ∧ pm_me P yN rT k))
    | .invokevirtual k => nx = pc + 3 ∧ ((9000 < k ∧ k < 9003 ∧ ∃ j, decode (byt m) pc = .ok (.invokevirtual j, 3) ∧ Jvm.Cond.methodLink (yN m).cls j (yN k) ∈ tbl ∧ pm_cl1 P tbl yN byt rT fr lo m k (k - 9001) ∧ Jvm.Cond.instanceMethod (yN k) ∈ tbl ∧ Jvm.Cond.selects (yN k).cls (yN k) (yN k) ∈ tbl ∧ (yN k).cls = "java/lang/String") ∨
        (k < 9000 ∧ ∃ j, decode (byt m) pc = .ok (.invokevirtual j, 3) ∧ pm_lk1 tbl yN nst (yN m).cls j k ∧ pm_cl1 P tbl yN byt rT fr lo m k (pm_nar P k - 1) ∧ Jvm.Cond.instanceMethod (yN k) ∈ tbl ∧ Jvm.Cond.selects (yN k).cls (yN k) (yN k) ∈ tbl ∧ (∃ (T : u_T) (N : Nat), cl[pm_rcv P k]? = some ((yN k).cls, T, N)) ∧ pm_me P yN rT k))
    | i => decode (byt m) pc = .ok (i, 1) ∧ nx = pc + 1
end AD
end
section
/-! ONE STEP OF THE REAL MACHINE FOR ONE OF THE PURE ONE: locals, stack, branches -/
section SMA
variable {P : pm_P} {tbl : List Jvm.Cond} {yN : Nat → MethodName} {byt : Nat → ByteArray} {rT : Nat → Option FieldType} {fr lo : Nat → Nat} {cl : List vw_C} {strs : List (String × Nat × Nat)} {nst : List Jvm.Cond} {ρ : Nat → Nat}
variable {p : Program} {l : Launch} {e : Env} {R : Room} {s : State} {mi : MethodId} {args : Array Value} {below : List Frame} {meth : Method} {c : Code} {H : Heap} {locs : List Loc} {cells slots : Nat} {Q : State → Prop}
variable {m pc nx : Nat} {i : Instr} {lv st : List Value} {ls : Array Slot}
set_option maxHeartbeats 4000000 in
theorem sm_lo {lv' st' : List Value} (hx : p.tables.exec = Jvm.exec) (hb : c.code = byt m) (ad : pm_Ad P tbl yN byt rT fr lo cl strs nst m pc (.inr i) nx) (hL : pm_L ρ ls lv) (h : pm_lo i lv st = some (lv', st'))
    (kk : ∀ ls' : Array Slot, pm_L ρ ls' lv' → W p l e R s mi args below meth c H locs cells slots Q (F0 mi nx ls' (st'.map (pm_c ρ)))) : W p l e R s mi args below meth c H locs cells slots Q (F0 mi pc ls (st.map (pm_c ρ))) := by
  unfold pm_lo at h
  split at h
  · rename_i k
    split at h
    · rename_i x hv
      cases h
      have hl := hL.2.2 k (.int x) hv (by simp)
      rcases ad with ⟨n, hd, hn, rfl⟩ | ⟨hd, rfl⟩
      · exact lv_iload_n hx hb hd hn hl (kk ls hL)
      · exact lv_iload hx hb hd hl (kk ls hL)
    · cases h
  · rename_i k
    split at h
    · rename_i x hv
      cases h
      have hl := hL.2.2 k (.long x) hv (by simp)
      rcases ad with ⟨n, hd, hn, rfl⟩ | ⟨hd, rfl⟩
      · exact lv_lload_n hx hb hd hn hl (kk ls hL)
      · exact lv_lload hx hb hd hl (kk ls hL)
    · cases h
  · rename_i k
    split at h
    · rename_i x hv
      cases h
      have hl := hL.2.2 k (.ref x) hv (by simp)
      rcases ad with ⟨n, hd, hn, rfl⟩ | ⟨hd, rfl⟩
      · exact lv_aload_n hx hb hd hn hl (kk ls hL)
      · exact lv_aload hx hb hd hl (kk ls hL)
    · rename_i hv
      cases h
      have hl := hL.2.2 k .null hv (by simp)
      rcases ad with ⟨n, hd, hn, rfl⟩ | ⟨hd, rfl⟩
      · exact lv_aload_nN hx hb hd hn hl (kk ls hL)
      · exact lv_aloadN hx hb hd hl (kk ls hL)
    · cases h
  · rename_i k
    split at h
    · rename_i x r
      split at h
      · rename_i hk
        cases h
        rcases ad with ⟨n, hd, hn, rfl⟩ | ⟨hd, rfl⟩
        · exact lv_istore_n hx hb hd hn (pm_L_has hL) hk rfl (fun ls' h' => kk ls' (pm_L_st1 (v := .int x) h'))
        · exact lv_istore hx hb hd (pm_L_has hL) hk rfl (fun ls' h' => kk ls' (pm_L_st1 (v := .int x) h'))
      · cases h
    · cases h
  · rename_i k
    split at h
    · rename_i x r
      split at h
      · rename_i hk
        cases h
        rcases ad with ⟨n, hd, hn, rfl⟩ | ⟨hd, rfl⟩
        · exact lv_lstore_n hx hb hd hn (pm_L_has hL) hk rfl (fun ls' h' => kk ls' (pm_L_st2 (v := .long x) h'))
        · exact lv_lstore hx hb hd (pm_L_has hL) hk rfl (fun ls' h' => kk ls' (pm_L_st2 (v := .long x) h'))
      · cases h
    · cases h
  · rename_i k
    split at h
    · rename_i x r
      split at h
      · rename_i hk
        cases h
        rcases ad with ⟨n, hd, hn, rfl⟩ | ⟨hd, rfl⟩
        · exact lv_astore_n hx hb hd hn (pm_L_has hL) hk rfl (fun ls' h' => kk ls' (pm_L_st1 (v := .ref x) h'))
        · exact lv_astore hx hb hd (pm_L_has hL) hk rfl (fun ls' h' => kk ls' (pm_L_st1 (v := .ref x) h'))
      · cases h
    · rename_i r
      split at h
      · rename_i hk
        cases h
        rcases ad with ⟨n, hd, hn, rfl⟩ | ⟨hd, rfl⟩
        · exact lv_astore_nN hx hb hd hn (pm_L_has hL) hk rfl (fun ls' h' => kk ls' (pm_L_st1 (v := .null) h'))
        · exact lv_astoreN hx hb hd (pm_L_has hL) hk rfl (fun ls' h' => kk ls' (pm_L_st1 (v := .null) h'))
      · cases h
    · cases h
  · rename_i k n
    split at h
    · rename_i x hv
      cases h
      obtain ⟨hd, rfl⟩ := ad
      have hm : (k, Value.int x) ∈ pm_ll ρ lv := pm_ll_mem.mpr ⟨.int x, hv, by simp, rfl⟩
      obtain ⟨q, hq⟩ := List.getElem?_of_mem hm
      exact lv_iinc hx hb hd (pm_L_has hL) hq rfl (List.getElem?_eq_some_iff.mp hv).1 rfl (fun ls' h' => kk ls' (pm_L_st1 (v := .int (x + Int32.ofInt n)) h'))
    · cases h
  · cases h
set_option maxHeartbeats 4000000 in
theorem sm_ar {st' : List Value} (hx : p.tables.exec = Jvm.exec) (hb : c.code = byt m) (ad : pm_Ad P tbl yN byt rT fr lo cl strs nst m pc (.inr i) nx) (h : pm_ar i st = some st')
    (kk : W p l e R s mi args below meth c H locs cells slots Q (F0 mi nx ls (st'.map (pm_c ρ)))) : W p l e R s mi args below meth c H locs cells slots Q (F0 mi pc ls (st.map (pm_c ρ))) := by
  unfold pm_ar at h
  split at h
  · split at h
    · cases h; obtain ⟨hd, rfl⟩ := ad; exact lv_iadd hx hb hd kk
    · cases h
  · split at h
    · cases h; obtain ⟨hd, rfl⟩ := ad; exact lv_isub hx hb hd kk
    · cases h
  · split at h
    · cases h; obtain ⟨hd, rfl⟩ := ad; exact lv_imul hx hb hd kk
    · cases h
  · split at h
    · cases h; obtain ⟨hd, rfl⟩ := ad; exact lv_iand hx hb hd kk
    · cases h
  · split at h
    · cases h; obtain ⟨hd, rfl⟩ := ad; exact lv_ixor hx hb hd kk
    · cases h
  · split at h
    · split at h
      · cases h
      · rename_i h0; cases h; obtain ⟨hd, rfl⟩ := ad; exact lv_idiv hx hb hd h0 kk
    · cases h
  · split at h
    · split at h
      · cases h
      · rename_i h0; cases h; obtain ⟨hd, rfl⟩ := ad; exact lv_irem hx hb hd h0 kk
    · cases h
  · split at h
    · cases h; obtain ⟨hd, rfl⟩ := ad; exact lv_ineg hx hb hd kk
    · cases h
  · split at h
    · cases h; obtain ⟨hd, rfl⟩ := ad; exact lv_ishr hx hb hd kk
    · cases h
  · split at h
    · cases h; obtain ⟨hd, rfl⟩ := ad; exact lv_ladd hx hb hd kk
    · cases h
  · split at h
    · cases h; obtain ⟨hd, rfl⟩ := ad; exact lv_lsub hx hb hd kk
    · cases h
  · split at h
    · cases h; obtain ⟨hd, rfl⟩ := ad; exact lv_lmul hx hb hd kk
    · cases h
  · split at h
    · cases h; obtain ⟨hd, rfl⟩ := ad; exact lv_land hx hb hd kk
    · cases h
  · split at h
    · split at h
      · cases h
      · rename_i h0; cases h; obtain ⟨hd, rfl⟩ := ad; exact lv_ldiv hx hb hd h0 kk
    · cases h
  · split at h
    · split at h
      · cases h
      · rename_i h0; cases h; obtain ⟨hd, rfl⟩ := ad; exact lv_lrem hx hb hd h0 kk
    · cases h
  · split at h
    · cases h; obtain ⟨hd, rfl⟩ := ad; exact lv_lshr hx hb hd rfl kk
    · cases h
  · split at h
    · cases h; obtain ⟨hd, rfl⟩ := ad; exact W.lcmp hx hb hd kk
    · cases h
  · split at h
    · cases h; obtain ⟨hd, rfl⟩ := ad; exact lv_i2l hx hb hd rfl kk
    · cases h
  · split at h
    · cases h; obtain ⟨hd, rfl⟩ := ad; exact lv_l2i hx hb hd rfl kk
    · cases h
  · split at h
    · cases h; obtain ⟨hd, rfl⟩ := ad; exact lv_i2b hx hb hd rfl kk
    · cases h
  · split at h
    · split at h
      · rename_i h0; cases h; obtain ⟨hd, rfl⟩ := ad; exact lv_dup hx hb hd (by rw [pm_c_cat]; exact h0) kk
      · cases h
    · cases h
  · split at h
    · split at h
      · rename_i h0; cases h; obtain ⟨hd, rfl⟩ := ad; exact lv_pop hx hb hd (by rw [pm_c_cat]; exact h0) kk
      · cases h
    · cases h
  · split at h
    · rename_i v r
      split at h
      · rename_i h0; cases h; obtain ⟨hd, rfl⟩ := ad; exact lv_dup2_2 hx hb hd (by rw [pm_c_cat]; exact h0) kk
      · rename_i h0
        split at h
        · split at h
          · rename_i h1; cases h; obtain ⟨hd, rfl⟩ := ad
            exact lv_dup2_11 hx hb hd (by rw [pm_c_cat]; rcases lv_cat v with q | q; exact q; exact absurd q h0) (by rw [pm_c_cat]; exact h1) kk
          · cases h
        · cases h
    · cases h
  · cases h
theorem pm_lk_map {pc : Nat} {ps : List (Int × Int)} {d x : Int} : pm_lk (ps.map fun z => (z.1, (pc : Int) + z.2)) ((pc : Int) + d) x = (pc : Int) + Op.lookupswitch.offset ps d x := by
  induction ps with
  | nil => rfl
  | cons z r ih =>
    obtain ⟨k, o⟩ := z
    rw [List.map_cons, pm_lk, Op.lookupswitch.offset]
    by_cases h : x = k
    · subst h; simp
    · rw [if_neg h, ih]
      have h' : ¬ k = x := fun q => h q.symm
      simp [h, h']
theorem pm_lk_in {ps : List (Int × Int)} {d x : Int} : Op.lookupswitch.offset ps d x = d ∨ ∃ z ∈ ps, Op.lookupswitch.offset ps d x = z.2 := by
  induction ps with
  | nil => exact Or.inl rfl
  | cons z r ih =>
    obtain ⟨k, o⟩ := z
    rw [Op.lookupswitch.offset]
    by_cases h : x = k
    · subst h
      exact Or.inr ⟨(x, o), List.mem_cons_self, by simp⟩
    · have h' : ¬ k = x := fun q => h q.symm
      rcases ih with q | ⟨z, q1, q2⟩
      · exact Or.inl (by simpa [h, h'] using q)
      · exact Or.inr ⟨z, List.mem_cons_of_mem _ q1, by simpa [h, h'] using q2⟩
set_option maxHeartbeats 4000000 in
theorem sm_br {pc' : Nat} {st' : List Value} (hx : p.tables.exec = Jvm.exec) (hb : c.code = byt m) (ad : pm_Ad P tbl yN byt rT fr lo cl strs nst m pc (.inr i) nx) (h : pm_br i nx st = some (pc', st'))
    (kk : W p l e R s mi args below meth c H locs cells slots Q (F0 mi pc' ls (st'.map (pm_c ρ)))) : W p l e R s mi args below meth c H locs cells slots Q (F0 mi pc ls (st.map (pm_c ρ))) := by
  unfold pm_br at h
  split at h
  · cases h
    obtain ⟨o, u, hd, rfl, ht⟩ := ad
    exact lv_goto hx hb hd ht kk
  · rename_i cc t
    split at h
    · rename_i x r
      cases h
      obtain ⟨o, u, hd, rfl, ht, rfl⟩ := ad
      cases cc
      · exact lv_if_eq hx hb hd ht (fun q => by simpa [pm_cmp, q] using kk) (fun q => by simpa [pm_cmp, q] using kk)
      · exact lv_if_ne hx hb hd ht (fun q => by simpa [pm_cmp, q] using kk) (fun q => by simpa [pm_cmp, q] using kk)
      · exact lv_if_lt hx hb hd ht (fun q => by simpa [pm_cmp, q] using kk) (fun q => by simpa [pm_cmp, q] using kk)
      · exact lv_if_ge hx hb hd ht (fun q => by simpa [pm_cmp, q] using kk) (fun q => by simpa [pm_cmp, q] using kk)
      · exact lv_if_gt hx hb hd ht (fun q => by simpa [pm_cmp, q] using kk) (fun q => by simpa [pm_cmp, q] using kk)
      · exact lv_if_le hx hb hd ht (fun q => by simpa [pm_cmp, q] using kk) (fun q => by simpa [pm_cmp, q] using kk)
    · cases h
  · rename_i cc t
    split at h
    · rename_i y x r
      cases h
      obtain ⟨o, u, hd, rfl, ht, rfl⟩ := ad
      cases cc
      · exact lv_icmp_eq hx hb hd ht (fun q => by simpa [pm_cmp, q] using kk) (fun q => by simpa [pm_cmp, q] using kk)
      · exact lv_icmp_ne hx hb hd ht (fun q => by simpa [pm_cmp, q] using kk) (fun q => by simpa [pm_cmp, q] using kk)
      · exact lv_icmp_lt hx hb hd ht (fun q => by simpa [pm_cmp, q] using kk) (fun q => by simpa [pm_cmp, q] using kk)
      · exact lv_icmp_ge hx hb hd ht (fun q => by simpa [pm_cmp, q] using kk) (fun q => by simpa [pm_cmp, q] using kk)
      · exact lv_icmp_gt hx hb hd ht (fun q => by simpa [pm_cmp, q] using kk) (fun q => by simpa [pm_cmp, q] using kk)
      · exact lv_icmp_le hx hb hd ht (fun q => by simpa [pm_cmp, q] using kk) (fun q => by simpa [pm_cmp, q] using kk)
    · cases h
  · split at h
    · cases h
      obtain ⟨o, u, hd, rfl, ht, rfl⟩ := ad
      exact lv_ifnullN hx hb hd ht kk
    · cases h
      obtain ⟨o, u, hd, rfl, ht, rfl⟩ := ad
      exact lv_ifnull hx hb hd kk
    · cases h
  · split at h
    · cases h
      obtain ⟨o, u, hd, rfl, ht, rfl⟩ := ad
      exact lv_ifnonnullN hx hb hd kk
    · cases h
      obtain ⟨o, u, hd, rfl, ht, rfl⟩ := ad
      exact lv_ifnonnull hx hb hd ht kk
    · cases h
  · split at h
    · rename_i x r
      obtain ⟨o, u, len, os, hd, rfl, ht, rfl, hall⟩ := ad
      split at h
      · rename_i hq
        cases h
        exact lv_tableOut hx hb hd hq ht kk
      · rename_i hq
        split at h
        · rename_i t ho
          cases h
          rw [Array.getElem?_map] at ho
          obtain ⟨z, hz, rfl⟩ := Option.map_eq_some_iff.mp ho
          have h0 := hall z (Array.mem_of_getElem? hz)
          exact lv_tableIn hx hb hd (fun q => hq (Or.inl q)) (fun q => hq (Or.inr q)) hz (tgt := ((pc : Int) + z).toNat) (by omega) kk
        · cases h
    · cases h
  · split at h
    · rename_i x r
      obtain ⟨o, u, len, ps, hd, rfl, ht, rfl, hall, hp⟩ := ad
      cases h
      rw [Array.toList_map, ← ht, pm_lk_map] at kk
      have h0 : 0 ≤ (pc : Int) + Op.lookupswitch.offset ps.toList o x.toInt := by
        rcases pm_lk_in (ps := ps.toList) (d := o) (x := x.toInt) with q | ⟨z, q1, q2⟩
        · rw [q, ht]; exact Int.natCast_nonneg u
        · rw [q2]; exact hall z (Array.mem_toList_iff.mp q1)
      exact lv_lookup hx hb hd hp rfl (tgt := ((pc : Int) + Op.lookupswitch.offset ps.toList o x.toInt).toNat) (by omega) kk
    · cases h
  · cases h
end SMA
end
section
/-! ONE STEP: the heap -/
def pm_ft (cl : List vw_C) : Nat → FieldType
  | 0 => .int
  | 1 => .long
  | 2 => .byte
  | 3 => .boolean
  | t + 4 => .object ((cl[t]?).getD ("", fun _ => ("", "", "", false), 0)).1
theorem pm_in_vp {i : Int32} {n : Nat} (h : pm_in i n = true) : vp_in i n := by
  unfold pm_in at h
  unfold vp_in
  intro q
  rcases q with q | q
  · simp [q] at h
  · simp [q] at h
theorem pm_E_congr {P : pm_P} {tA : Nat → ClassId} {ρ : Nat → Nat} {h h' : pm_H} {b : Nat} (h1 : h'.1 b = h.1 b) (h2 : h'.2.1 b = h.2.1 b) (h3 : h'.2.2.1 b = h.2.2.1 b) : pm_E P tA ρ h' b = pm_E P tA ρ h b := by
  unfold pm_E pm_g
  simp only [h1, h2, h3]
theorem pm_u_ne {α : Type} {f : Nat → Nat → α} {a k b : Nat} {x : α} (h : b ≠ a) : pm_u f a k x b = f b := by
  funext j
  simp [pm_u, h]
theorem pm_r_ne {α : Type} {f : Nat → Nat → α} {a b : Nat} {g : Nat → α} (h : b ≠ a) : pm_r f a g b = f b := by
  funext j
  simp [pm_r, h]
theorem pm_u_eq {α : Type} {f : Nat → Nat → α} {a k : Nat} {x : α} : pm_u f a k x a = fun j => if j = k then x else f a j := by
  funext j
  simp [pm_u]
theorem pm_r_eq {α : Type} {f : Nat → Nat → α} {a : Nat} {g : Nat → α} : pm_r f a g a = g := by
  funext j
  simp [pm_r]
/-- what a written place leaves as it was, and what it holds -/
theorem pm_p_spec {t : Nat} {h h' : pm_H} {a k : Nat} {v : Value} (e : pm_p t h a k v = some h') : h'.2.2.2 = h.2.2.2 ∧ pm_g t h' a k = v ∧ (∀ j, j ≠ k → ∀ t', pm_g t' h' a j = pm_g t' h a j) ∧ (∀ b, b ≠ a → h'.1 b = h.1 b ∧ h'.2.1 b = h.2.1 b ∧ h'.2.2.1 b = h.2.2.1 b) ∧ ∀ ty, pm_tk ty = t → ∀ ρ, narrow ty (pm_c ρ v) = pm_c ρ v ∧ fits ty (pm_c ρ v) = true := by
  unfold pm_p at e
  split at e
  · rename_i x
    split at e
    · cases e
      refine ⟨rfl, by simp [pm_g, pm_u_eq], fun j hj t' => ?_, fun b hb => ⟨pm_u_ne hb, rfl, rfl⟩, fun ty ht ρ => ?_⟩
      · unfold pm_g; split <;> simp [pm_u_eq, hj]
      · cases ty <;> simp [pm_tk] at ht
        exact ⟨rfl, rfl⟩
    · split at e
      · rename_i hx
        cases e
        refine ⟨rfl, by simp [pm_g, pm_u_eq], fun j hj t' => ?_, fun b hb => ⟨pm_u_ne hb, rfl, rfl⟩, fun ty ht ρ => ?_⟩
        · unfold pm_g; split <;> simp [pm_u_eq, hj]
        · cases ty <;> simp [pm_tk] at ht
          rcases hx with rfl | rfl <;> exact ⟨rfl, rfl⟩
      · cases e
    · cases e
  · split at e
    · rename_i ht0
      cases e
      subst ht0
      refine ⟨rfl, by simp [pm_g, pm_u_eq], fun j hj t' => ?_, fun b hb => ⟨rfl, pm_u_ne hb, rfl⟩, fun ty ht ρ => ?_⟩
      · unfold pm_g; split <;> simp [pm_u_eq, hj]
      · cases ty <;> simp [pm_tk] at ht
        exact ⟨rfl, rfl⟩
    · cases e
  · split at e
    · rename_i ht0
      cases e
      subst ht0
      refine ⟨rfl, by simp [pm_g, pm_u_eq, va_rf], fun j hj t' => ?_, fun b hb => ⟨rfl, rfl, pm_u_ne hb⟩, fun ty ht ρ => ?_⟩
      · unfold pm_g; split <;> simp [pm_u_eq, hj]
      · cases ty <;> simp [pm_tk] at ht <;> exact ⟨rfl, rfl⟩
    · cases e
  · split at e
    · rename_i ht0
      cases e
      subst ht0
      refine ⟨rfl, by simp [pm_g, pm_u_eq, va_rf], fun j hj t' => ?_, fun b hb => ⟨rfl, rfl, pm_u_ne hb⟩, fun ty ht ρ => ?_⟩
      · unfold pm_g; split <;> simp [pm_u_eq, hj]
      · cases ty <;> simp [pm_tk] at ht <;> exact ⟨rfl, rfl⟩
    · cases e
  · cases e
theorem pm_map_set {N k : Nat} {f g : Nat → Value} {v : Value} (hv : g k = v) (ho : ∀ j, j ≠ k → g j = f j) : ((List.range N).map f).set k v = (List.range N).map g := by
  apply List.ext_getElem?
  intro j
  rw [List.getElem?_set]
  by_cases e : k = j
  · subst e
    simp only [if_true, List.length_map, List.length_range, List.getElem?_map, List.getElem?_range]
    by_cases h : k < N
    · simp [h, hv]
    · simp [h]
  · rw [if_neg e]
    simp only [List.getElem?_map]
    by_cases h : j < N
    · simp [h, ho j (fun q => e q.symm)]
    · simp [h]
theorem pm_sh_spec {P : pm_P} {h : pm_H} {a : Nat} {x : pm_S} (e : pm_sh P h a = some x) : a < h.2.2.2 ∧ pm_shp P a = some x := by
  unfold pm_sh at e
  split at e
  · exact ⟨by assumption, e⟩
  · cases e
theorem pm_Z_of {h h' : pm_H} (hz : pm_Z h) {a : Nat} (ha : a < h.2.2.2) (hn : h'.2.2.2 = h.2.2.2) (ho : ∀ b, b ≠ a → h'.1 b = h.1 b ∧ h'.2.1 b = h.2.1 b ∧ h'.2.2.1 b = h.2.2.1 b) : pm_Z h' := by
  intro b k hb
  have hne : b ≠ a := by omega
  obtain ⟨h1, h2, h3⟩ := ho b hne
  rw [h1, h2, h3]
  exact hz b k (by omega)
section SMH
variable {P : pm_P} {tbl : List Jvm.Cond} {yN : Nat → MethodName} {byt : Nat → ByteArray} {rT : Nat → Option FieldType} {fr lo : Nat → Nat} {cl : List vw_C} {strs : List (String × Nat × Nat)} {nst : List Jvm.Cond} {ρ : Nat → Nat} {tA : Nat → ClassId} {base : Nat} {D : va_G} {tys : List (ClassId × FieldType)}
variable {p : Program} {l : Launch} {e : Env} {R : Room} {s : State} {mi : MethodId} {args : Array Value} {below : List Frame} {meth : Method} {c : Code} {H : Heap} {locs : List Loc} {cells slots : Nat} {Q : State → Prop}
variable {m pc nx : Nat} {i : Instr} {lv st : List Value} {ls : Array Slot} {h : pm_H}
set_option maxHeartbeats 4000000 in
theorem sm_he {st' : List Value} {h' : pm_H} (hx : p.tables.exec = Jvm.exec) (hb : c.code = byt m) (hml : c.maxLocals = ls.size) (hown : s.vm.findClass (yN m).cls = some mi.cls) (hname : meth.name = (yN m).name) (hts : ∀ w ∈ tbl, w.before args s = true) (hnst : ∀ w ∈ nst, w.before args s = true) (hK : va_K D cl tys s)
    (hty : ∀ (a t n : Nat), pm_shp P a = some (.inr (t, n)) → ∃ t0 : Nat, tys[t0]? = some (tA t, pm_ft cl t)) (hρ : ∀ a, a < 99999 → ρ a = base + a) (hR : R.frames = fr m ∧ R.locals = lo m)
    (hscr : i = .caload ∨ i = .saload → ∃ L xs, va_X (ρ 99999) L xs s s.heap ∧ ρ 99999 < base ∧ ρ 99999 < s.heap.size ∧ L = (pm_scr P).length ∧ ∀ j, j < L → xs j = (pm_scr P).getD j 0)
    (ad : pm_Ad P tbl yN byt rT fr lo cl strs nst m pc (.inr i) nx) (hrel : pm_Rel P tA ρ base D cl h H) (hS : va_S (fun q : Nat => base ≤ q) s.heap H locs) (hnt : i ≠ .invokevirtual 9001 ∧ i ≠ .invokevirtual 9002) (hh : pm_he P i st h = some (st', h'))
    (kk : ∀ (H' : Heap) (locs' : List Loc), pm_Rel P tA ρ base D cl h' H' → va_S (fun q : Nat => base ≤ q) s.heap H' locs' → W p l e R s mi args below meth c H' locs' cells slots Q (F0 mi nx ls (st'.map (pm_c ρ)))) : W p l e R s mi args below meth c H locs cells slots Q (F0 mi pc ls (st.map (pm_c ρ))) := by
  obtain ⟨hP, hn9, hZ⟩ := id hrel
  have hD := pm_D (P := P) (tA := tA) (h := h) hρ hn9
  unfold pm_he at hh
  split at hh
  · -- getfield
    rename_i n
    split at hh
    · rename_i a r
      split at hh
      · rename_i hsh
        cases hh
        obtain ⟨ha, hs⟩ := pm_sh_spec hsh
        obtain ⟨j, hd, rfl, C, T, N, ty, ⟨hc, hN, hin, hty0, hnm, hft⟩, hk, -, hl⟩ := ad
        have he : (pm_w P tA ρ h)[a]? = some (ρ a, .inr (n / 64, (List.range (pm_nf P (n / 64))).map fun k => pm_c ρ (pm_g (pm_fty P (n / 64) k) h a k))) := by
          rw [pm_w_get ha]; simp only [pm_E, hs]
        have hv : ((List.range (pm_nf P (n / 64))).map fun k => pm_c ρ (pm_g (pm_fty P (n / 64) k) h a k))[n % 64]? = some (pm_c ρ (pm_g (pm_fty P (n / 64) (n % 64)) h a (n % 64))) := by
          rw [← hN]; simp [hk]
        rcases hl with hl | ⟨host, hl⟩
        · exact va_get hx hb hts hin hown hK hP a he hc (n % 64) hk (hts _ hl) (fun _ q => q) hv hd (kk H locs hrel hS)
        · exact va_getN hx hb hts hin hown hK hP a he hc (n % 64) hk (hnst _ hl) (fun _ q => q) hv hd (kk H locs hrel hS)
      · cases hh
    · cases hh
  · -- putfield
    rename_i n
    split at hh
    · rename_i v a r
      split at hh
      · rename_i hsh
        obtain ⟨h1, hp1, hp2⟩ := Option.map_eq_some_iff.mp hh
        cases hp2
        obtain ⟨ha, hs⟩ := pm_sh_spec hsh
        obtain ⟨j, hd, rfl, C, T, N, ty, ⟨hc, hN, hin, hty0, hnm, hft⟩, hk, -, hl⟩ := ad
        obtain ⟨q1, q2, q3, q4, q5⟩ := pm_p_spec hp1
        obtain ⟨q6, q7⟩ := q5 (ty (n % 64)) (hft _ hk).1.symm ρ
        have he : (pm_w P tA ρ h)[a]? = some (ρ a, .inr (n / 64, (List.range (pm_nf P (n / 64))).map fun k => pm_c ρ (pm_g (pm_fty P (n / 64) k) h a k))) := by
          rw [pm_w_get ha]; simp only [pm_E, hs]
        have hset : (pm_w P tA ρ h).set a (ρ a, .inr (n / 64, ((List.range (pm_nf P (n / 64))).map fun k => pm_c ρ (pm_g (pm_fty P (n / 64) k) h a k)).set (n % 64) (pm_c ρ v))) = pm_w P tA ρ h' := by
          refine pm_w_set q1 ?_ (fun b hb9 => pm_E_congr (q4 b hb9).1 (q4 b hb9).2.1 (q4 b hb9).2.2)
          simp only [pm_E, hs]
          rw [pm_map_set (f := fun k => pm_c ρ (pm_g (pm_fty P (n / 64) k) h a k)) (g := fun k => pm_c ρ (pm_g (pm_fty P (n / 64) k) h' a k)) (by show pm_c ρ _ = _; rw [q2]) (fun j9 hj9 => by show pm_c ρ _ = pm_c ρ _; rw [q3 j9 hj9])]
        have fin : ∀ (H1 : Heap) (locs1 : List Loc), va_P D cl ((pm_w P tA ρ h).set a (ρ a, .inr (n / 64, ((List.range (pm_nf P (n / 64))).map fun k => pm_c ρ (pm_g (pm_fty P (n / 64) k) h a k)).set (n % 64) (pm_c ρ v)))) H1 → va_S (fun q : Nat => base ≤ q) s.heap H1 locs1 → W p l e R s mi args below meth c H1 locs1 cells slots Q (F0 mi (pc + 3) ls (st'.map (pm_c ρ))) := by
          intro H1 locs1 hP1 hS1
          rw [hset] at hP1
          exact kk H1 locs1 ⟨hP1, by rw [q1]; exact hn9, pm_Z_of hZ ha q1 q4⟩ hS1
        have hlen : n % 64 < ((List.range (pm_nf P (n / 64))).map fun k => pm_c ρ (pm_g (pm_fty P (n / 64) k) h a k)).length := by rw [← hN]; simp [hk]
        rcases hl with ⟨hf, hl⟩ | ⟨hf, hi0, hdc, hl⟩
        · rcases hl with hl | ⟨host, hl⟩
          · exact va_put hx hb hts hin ty hty0 hnm hown hK hP hD hS a he hc (n % 64) hk (hts _ hl) (fun _ q => q) hf (hty0 _ hk) q6 q7 hlen hd (fun H1 locs1 hP1 hD1 hS1 => fin H1 locs1 hP1 hS1)
          · exact va_putN hx hb hts hin ty hty0 hnm hown hK hP hD hS a he hc (n % 64) hk (hnst _ hl) (fun _ q => q) hf (hty0 _ hk) q6 q7 hlen hd (fun H1 locs1 hP1 hD1 hS1 => fin H1 locs1 hP1 hS1)
        · exact va_putF hx hb hts hin ty hty0 hnm hown hK hP hD hS a he hc (n % 64) hk (hts _ hl) (fun _ q => q) hf (hname.trans hi0) hdc (hty0 _ hk) q6 q7 hlen hd (fun H1 locs1 hP1 hD1 hS1 => fin H1 locs1 hP1 hS1)
      · cases hh
    · cases hh
  · -- arraylength
    split at hh
    · rename_i a r
      split at hh
      · rename_i t n hsh
        cases hh
        obtain ⟨ha, hs⟩ := pm_sh_spec hsh
        obtain ⟨hd, rfl⟩ := ad
        obtain ⟨t0, ht⟩ := hty a t n hs
        have he : ∃ x : vp_A, (pm_w P tA ρ h)[a]? = some (ρ a, .inl (tA t, x)) ∧ x.1 = n := by
          rw [pm_w_get ha]
          match t, hs with
          | 0, hs => exact ⟨(n, _), by simp only [pm_E, hs]; rfl, rfl⟩
          | 1, hs => exact ⟨(n, _), by simp only [pm_E, hs]; rfl, rfl⟩
          | 2, hs => exact ⟨(n, _), by simp only [pm_E, hs]; rfl, rfl⟩
          | 3, hs => exact ⟨(n, _), by simp only [pm_E, hs]; rfl, rfl⟩
          | t + 4, hs => exact ⟨(n, _), by simp only [pm_E, hs]; rfl, rfl⟩
        obtain ⟨x, he, hxn⟩ := he
        exact va_alen hx hb hK hP a t0 he ht (by rw [hxn]) hd (kk H locs hrel hS)
      · cases hh
    · cases hh
  · -- iaload
    split at hh
    · rename_i j a r
      split at hh
      · rename_i n hsh
        split at hh
        · rename_i hj
          cases hh
          obtain ⟨ha, hs⟩ := pm_sh_spec hsh
          obtain ⟨hd, rfl⟩ := ad
          obtain ⟨t0, ht⟩ := hty a 0 n hs
          have he : (pm_w P tA ρ h)[a]? = some (ρ a, .inl (tA 0, n, .inl (h.1 a))) := by rw [pm_w_get ha]; simp only [pm_E, hs]
          exact va_iald hx hb hK hP a t0 he ht (pm_in_vp hj) hd (kk H locs hrel hS)
        · cases hh
      · cases hh
    · cases hh
  · -- baload
    split at hh
    · rename_i j a r
      split at hh
      · rename_i n hsh
        split at hh
        · rename_i hj
          cases hh
          obtain ⟨ha, hs⟩ := pm_sh_spec hsh
          obtain ⟨hd, rfl⟩ := ad
          obtain ⟨t0, ht⟩ := hty a 2 n hs
          have he : (pm_w P tA ρ h)[a]? = some (ρ a, .inl (tA 2, n, .inl (h.1 a))) := by rw [pm_w_get ha]; simp only [pm_E, hs]
          exact va_bald hx hb hK hP a t0 he ht (pm_in_vp hj) hd (kk H locs hrel hS)
        · cases hh
      · rename_i n hsh
        split at hh
        · rename_i hj
          cases hh
          obtain ⟨ha, hs⟩ := pm_sh_spec hsh
          obtain ⟨hd, rfl⟩ := ad
          obtain ⟨t0, ht⟩ := hty a 3 n hs
          have he : (pm_w P tA ρ h)[a]? = some (ρ a, .inl (tA 3, n, .inl (h.1 a))) := by rw [pm_w_get ha]; simp only [pm_E, hs]
          exact va_zald hx hb hK hP a t0 he ht (pm_in_vp hj) hd (kk H locs hrel hS)
        · cases hh
      · cases hh
    · cases hh
  · -- laload
    split at hh
    · rename_i j a r
      split at hh
      · rename_i n hsh
        split at hh
        · rename_i hj
          cases hh
          obtain ⟨ha, hs⟩ := pm_sh_spec hsh
          obtain ⟨hd, rfl⟩ := ad
          obtain ⟨t0, ht⟩ := hty a 1 n hs
          have he : (pm_w P tA ρ h)[a]? = some (ρ a, .inl (tA 1, n, .inr (.inl (h.2.1 a)))) := by rw [pm_w_get ha]; simp only [pm_E, hs]
          exact va_lald hx hb hK hP a t0 he ht (pm_in_vp hj) hd (kk H locs hrel hS)
        · cases hh
      · cases hh
    · cases hh
  · -- aaload
    split at hh
    · rename_i j a r
      split at hh
      · rename_i t n hsh
        split at hh
        · rename_i hj
          cases hh
          obtain ⟨ha, hs⟩ := pm_sh_spec hsh
          obtain ⟨hd, rfl⟩ := ad
          obtain ⟨t0, ht⟩ := hty a (t + 4) n hs
          have he : (pm_w P tA ρ h)[a]? = some (ρ a, .inl (tA (t + 4), n, .inr (.inr (.inr (.inr fun i => (h.2.2.1 a i).map ρ))))) := by rw [pm_w_get ha]; simp only [pm_E, hs]
          have kk1 := kk H locs hrel hS
          rw [List.map_cons, pm_c_rf] at kk1
          exact va_aldq hx hb hK hP a t0 he ht (pm_in_vp hj) hd kk1
        · cases hh
      · cases hh
    · cases hh
  · -- iastore
    split at hh
    · rename_i x j a r
      split at hh
      · rename_i n hsh
        split at hh
        · rename_i hj
          cases hh
          obtain ⟨ha, hs⟩ := pm_sh_spec hsh
          obtain ⟨hd, rfl⟩ := ad
          obtain ⟨t0, ht⟩ := hty a 0 n hs
          have he : (pm_w P tA ρ h)[a]? = some (ρ a, .inl (tA 0, n, .inl (h.1 a))) := by rw [pm_w_get ha]; simp only [pm_E, hs]
          refine va_iast hx hb hK hP hD hS a t0 he ht (pm_in_vp hj) hd (fun H1 locs1 hP1 hD1 hS1 => ?_)
          have hset : (pm_w P tA ρ h).set a (ρ a, .inl (tA 0, n, .inl (upd (h.1 a) j.toNatClampNeg x))) = pm_w P tA ρ (pm_sI h a j.toNatClampNeg x) := by
            refine pm_w_set rfl ?_ (fun b hb9 => pm_E_congr (pm_u_ne hb9) rfl rfl)
            simp only [pm_E, hs, pm_u_eq]
            rfl
          rw [hset] at hP1
          exact kk H1 locs1 ⟨hP1, hn9, pm_Z_of hZ ha rfl (fun b hb9 => ⟨pm_u_ne hb9, rfl, rfl⟩)⟩ hS1
        · cases hh
      · cases hh
    · cases hh
  · -- bastore
    split at hh
    · rename_i x j a r
      split at hh
      · rename_i n hsh
        split at hh
        · rename_i hj
          cases hh
          obtain ⟨ha, hs⟩ := pm_sh_spec hsh
          obtain ⟨hd, rfl⟩ := ad
          obtain ⟨t0, ht⟩ := hty a 2 n hs
          have he : (pm_w P tA ρ h)[a]? = some (ρ a, .inl (tA 2, n, .inl (h.1 a))) := by rw [pm_w_get ha]; simp only [pm_E, hs]
          refine va_bast hx hb hK hP hD hS a t0 he ht (pm_in_vp hj) hd (fun H1 locs1 hP1 hD1 hS1 => ?_)
          have hset : (pm_w P tA ρ h).set a (ρ a, .inl (tA 2, n, .inl (upd (h.1 a) j.toNatClampNeg (vp_nar .byte x)))) = pm_w P tA ρ (pm_sI h a j.toNatClampNeg (vp_nar .byte x)) := by
            refine pm_w_set rfl ?_ (fun b hb9 => pm_E_congr (pm_u_ne hb9) rfl rfl)
            simp only [pm_E, hs, pm_u_eq]
            rfl
          rw [hset] at hP1
          exact kk H1 locs1 ⟨hP1, hn9, pm_Z_of hZ ha rfl (fun b hb9 => ⟨pm_u_ne hb9, rfl, rfl⟩)⟩ hS1
        · cases hh
      · rename_i n hsh
        split at hh
        · rename_i hj
          cases hh
          obtain ⟨ha, hs⟩ := pm_sh_spec hsh
          obtain ⟨hd, rfl⟩ := ad
          obtain ⟨t0, ht⟩ := hty a 3 n hs
          have he : (pm_w P tA ρ h)[a]? = some (ρ a, .inl (tA 3, n, .inl (h.1 a))) := by rw [pm_w_get ha]; simp only [pm_E, hs]
          refine va_zast hx hb hK hP hD hS a t0 he ht (pm_in_vp hj) hd (fun H1 locs1 hP1 hD1 hS1 => ?_)
          have hset : (pm_w P tA ρ h).set a (ρ a, .inl (tA 3, n, .inl (upd (h.1 a) j.toNatClampNeg (vp_nar .boolean x)))) = pm_w P tA ρ (pm_sI h a j.toNatClampNeg (vp_nar .boolean x)) := by
            refine pm_w_set rfl ?_ (fun b hb9 => pm_E_congr (pm_u_ne hb9) rfl rfl)
            simp only [pm_E, hs, pm_u_eq]
            rfl
          rw [hset] at hP1
          exact kk H1 locs1 ⟨hP1, hn9, pm_Z_of hZ ha rfl (fun b hb9 => ⟨pm_u_ne hb9, rfl, rfl⟩)⟩ hS1
        · cases hh
      · cases hh
    · cases hh
  · -- lastore
    split at hh
    · rename_i x j a r
      split at hh
      · rename_i n hsh
        split at hh
        · rename_i hj
          cases hh
          obtain ⟨ha, hs⟩ := pm_sh_spec hsh
          obtain ⟨hd, rfl⟩ := ad
          obtain ⟨t0, ht⟩ := hty a 1 n hs
          have he : (pm_w P tA ρ h)[a]? = some (ρ a, .inl (tA 1, n, .inr (.inl (h.2.1 a)))) := by rw [pm_w_get ha]; simp only [pm_E, hs]
          refine va_last hx hb hK hP hD hS a t0 he ht (pm_in_vp hj) hd (fun H1 locs1 hP1 hD1 hS1 => ?_)
          have hset : (pm_w P tA ρ h).set a (ρ a, .inl (tA 1, n, .inr (.inl (vp_updL (h.2.1 a) j.toNatClampNeg x)))) = pm_w P tA ρ (pm_sL h a j.toNatClampNeg x) := by
            refine pm_w_set rfl ?_ (fun b hb9 => pm_E_congr rfl (pm_u_ne hb9) rfl)
            simp only [pm_E, hs, pm_u_eq]
            rfl
          rw [hset] at hP1
          exact kk H1 locs1 ⟨hP1, hn9, pm_Z_of hZ ha rfl (fun b hb9 => ⟨rfl, pm_u_ne hb9, rfl⟩)⟩ hS1
        · cases hh
      · cases hh
    · cases hh
  · -- aastore
    split at hh
    · rename_i x j a r
      split at hh
      · rename_i t n hsh
        split at hh
        · rename_i hj
          cases hh
          obtain ⟨ha, hs⟩ := pm_sh_spec hsh
          obtain ⟨hj, hshx⟩ := hj
          obtain ⟨hxa, hsx⟩ := pm_sh_spec hshx
          obtain ⟨hd, rfl⟩ := ad
          obtain ⟨t0, ht⟩ := hty a (t + 4) n hs
          have he : (pm_w P tA ρ h)[a]? = some (ρ a, .inl (tA (t + 4), n, .inr (.inr (.inr (.inr fun i => (h.2.2.1 a i).map ρ))))) := by rw [pm_w_get ha]; simp only [pm_E, hs]
          have hex : ∃ vs, (pm_w P tA ρ h)[x]? = some (ρ x, .inr (t, vs)) := ⟨_, by rw [pm_w_get hxa]; simp only [pm_E, hsx]; rfl⟩
          obtain ⟨vs, hex⟩ := hex
          obtain ⟨r0, hr0, -⟩ := hP x _ hex
          have ht' : tys[t0]? = some (tA (t + 4), .object r0.1) := by rw [ht]; simp only [pm_ft]; rw [show cl[t]? = some r0 from hr0]; rfl
          refine va_astq hx hb hK hP hD hS a t0 x t he ht' hex hr0 (pm_in_vp hj) hd (fun H1 locs1 hP1 hD1 hS1 => ?_)
          have hset : (pm_w P tA ρ h).set a (ρ a, .inl (tA (t + 4), n, .inr (.inr (.inr (.inr (va_up (fun i => (h.2.2.1 a i).map ρ) j.toNatClampNeg (some (ρ x)))))))) = pm_w P tA ρ (pm_sR h a j.toNatClampNeg (some x)) := by
            refine pm_w_set rfl ?_ (fun b hb9 => pm_E_congr rfl rfl (pm_u_ne hb9))
            simp only [pm_E, hs, pm_u_eq]
            congr 7
            funext q
            by_cases hq : q = j.toNatClampNeg <;> simp [va_up, hq]
          rw [hset] at hP1
          exact kk H1 locs1 ⟨hP1, hn9, pm_Z_of hZ ha rfl (fun b hb9 => ⟨rfl, rfl, pm_u_ne hb9⟩)⟩ hS1
        · cases hh
      · cases hh
    · cases hh
  · -- arraycopy
    rename_i n
    split at hh
    · rename_i hn
      subst hn
      split at hh
      · rename_i cn dp b sp a r
        split at hh
        · rename_i n0 n1 hsa hsb
          split at hh
          · rename_i hq
            cases hh
            obtain ⟨g1, g2, g3, g4, g5, g6⟩ := hq
            obtain ⟨ha, hs⟩ := pm_sh_spec hsa
            obtain ⟨hb1, hs1⟩ := pm_sh_spec hsb
            obtain ⟨rfl, hor⟩ := ad
            rcases hor with ⟨-, j, hd, w1, w2, w3, w4, w5, w6⟩ | ⟨h0, -⟩
            · obtain ⟨t0, ht⟩ := hty a 0 n0 hs
              obtain ⟨t1, ht1⟩ := hty b 0 n1 hs1
              have he : (pm_w P tA ρ h)[a]? = some (ρ a, .inl (tA 0, n0, .inl (h.1 a))) := by rw [pm_w_get ha]; simp only [pm_E, hs]
              have he1 : (pm_w P tA ρ h)[b]? = some (ρ b, .inl (tA 0, n1, .inl (h.1 b))) := by rw [pm_w_get hb1]; simp only [pm_E, hs1]
              refine va_copyi hx hb hml hown (hts _ w1) (hts _ w2) (hts _ w3) (hts _ w4) hK hP hD hS a b t0 t1 he he1 ht ht1 rfl g1 g2 g3 g4 g5 (fun _ _ => rfl) (by rw [hR.1]; exact w5) (by rw [hR.2, pm_c_sum]; omega) hd (fun H1 locs1 hP1 hD1 hS1 => ?_)
              have hset : (pm_w P tA ρ h).set b (ρ b, .inl (tA 0, n1, .inl (va_cpy (h.1 a) (h.1 b) sp.toNatClampNeg dp.toNatClampNeg cn.toNatClampNeg))) = pm_w P tA ρ (pm_sA h b (va_cpy (h.1 a) (h.1 b) sp.toNatClampNeg dp.toNatClampNeg cn.toNatClampNeg)) := by
                refine pm_w_set rfl ?_ (fun b hb9 => pm_E_congr (pm_r_ne hb9) rfl rfl)
                simp only [pm_E, hs1, pm_r_eq]
              rw [hset] at hP1
              exact kk H1 locs1 ⟨hP1, hn9, pm_Z_of hZ hb1 rfl (fun b hb9 => ⟨pm_r_ne hb9, rfl, rfl⟩)⟩ hS1
            · omega
          · cases hh
        · cases hh
      · cases hh
    · cases hh
  · -- Object.<init>
    rename_i n
    split at hh
    · rename_i hn
      subst hn
      split at hh
      · rename_i a r
        split at hh
        · rename_i hq
          cases hh
          obtain ⟨rfl, hor⟩ := ad
          rcases hor with ⟨-, j, hd, w1, w2, w3, w4, w5⟩ | ⟨h0, -⟩
          · exact W.objInit (g := F0 mi pc ls _) hx hb hown (hts _ w1) (hts _ w2) (hts _ w3) rfl hml.symm rfl hd (by rw [hR.1]; exact w4) (by rw [hR.2, pm_c_sum]; show 2 * 0 + _ + 12 ≤ _; omega) (kk H locs hrel hS)
          · omega
        · cases hh
      · cases hh
    · cases hh
  · -- texts
    split at hh
    · rename_i hn
      subst hn
      exact absurd rfl hnt.1
    · split at hh
      · rename_i hn
        subst hn
        exact absurd rfl hnt.2
      · cases hh
  · -- the script's length
    split at hh
    · rename_i a r
      split at hh
      · rename_i hn
        subst hn
        cases hh
        obtain ⟨-, hd, rfl⟩ := ad
        obtain ⟨L, xs, hX, hlb, hbl, hL, hxs⟩ := hscr (Or.inl rfl)
        have kk1 := kk H locs hrel hS
        rw [List.map_cons] at kk1 ⊢
        rw [show (pm_c ρ (.int (Int32.ofNat (pm_scr P).length))) = Value.int (Int32.ofNat L) by rw [hL]; rfl] at kk1
        exact va_slen hx hb hX hbl (by omega) hS hd kk1
      · cases hh
    · cases hh
  · -- an int of the script
    split at hh
    · rename_i j a r
      split at hh
      · rename_i hn
        obtain ⟨hn, hj⟩ := hn
        subst hn
        cases hh
        obtain ⟨-, hd, rfl⟩ := ad
        obtain ⟨L, xs, hX, hlb, hbl, hL, hxs⟩ := hscr (Or.inr rfl)
        have hin := pm_in_vp hj
        have kk1 := kk H locs hrel hS
        rw [List.map_cons] at kk1
        rw [show (pm_c ρ (.int ((pm_scr P).getD j.toNatClampNeg 0))) = Value.int (xs j.toNatClampNeg) by
          rw [hxs _ (by rw [hL]; exact Nat.not_le.mp fun q => hin (Or.inr q))]; rfl] at kk1
        exact va_sld hx hb hX hbl (by omega) hS (by rw [hL]; exact hin) hd kk1
      · cases hh
    · cases hh
  · cases hh
end SMH
end
section
/-! ONE STEP: cells are made; constants -/
theorem pm_w_push {P : pm_P} {tA : Nat → ClassId} {ρ : Nat → Nat} {h : pm_H} : pm_w P tA ρ (h.1, h.2.1, h.2.2.1, h.2.2.2 + 1) = pm_w P tA ρ h ++ [(ρ h.2.2.2, pm_E P tA ρ h h.2.2.2)] := by
  unfold pm_w
  simp only [List.range_succ, List.map_append, List.map_cons, List.map_nil]
  rfl
theorem pm_Z_push {h : pm_H} (hz : pm_Z h) : pm_Z (h.1, h.2.1, h.2.2.1, h.2.2.2 + 1) := fun a k ha => hz a k (Nat.le_of_succ_le ha)
section SML
variable {P : pm_P} {tbl : List Jvm.Cond} {yN : Nat → MethodName} {byt : Nat → ByteArray} {rT : Nat → Option FieldType} {fr lo : Nat → Nat} {cl : List vw_C} {strs : List (String × Nat × Nat)} {nst : List Jvm.Cond} {ρ : Nat → Nat} {tA : Nat → ClassId} {base : Nat} {D : va_G} {tys : List (ClassId × FieldType)}
variable {p : Program} {l : Launch} {e : Env} {R : Room} {s : State} {mi : MethodId} {args : Array Value} {below : List Frame} {meth : Method} {c : Code} {H : Heap} {locs : List Loc} {Q : State → Prop} {cs : Nat × Nat}
variable {m pc nx : Nat} {i : Instr} {lv st : List Value} {ls : Array Slot} {h : pm_H}
/-- a cell at the end -/
theorem sm_push {H1 : Heap} (hρ : ∀ a, a < 99999 → ρ a = base + a) (hrel : pm_Rel P tA ρ base D cl h H) (hS : va_S (fun q : Nat => base ≤ q) s.heap H locs) (hsz : H.size = base + h.2.2.2) (hn : h.2.2.2 < 99999)
    (o1 : ∀ q, q < H.size → H1[q]? = H[q]?) (z1 : H1.size = H.size + 1) (hat : va_at D cl (ρ h.2.2.2, pm_E P tA ρ h h.2.2.2) H1) : pm_Rel P tA ρ base D cl (h.1, h.2.1, h.2.2.1, h.2.2.2 + 1) H1 ∧ va_S (fun q : Nat => base ≤ q) s.heap H1 locs := by
  obtain ⟨hP, hn9, hZ⟩ := hrel
  refine ⟨⟨?_, by show h.2.2.2 + 1 ≤ _; omega, pm_Z_push hZ⟩, ⟨Nat.le_trans hS.1 (by omega), fun x h1 h2 => (o1 x (Nat.lt_of_lt_of_le h1 hS.1)).trans (hS.2.1 x h1 h2), hS.2.2⟩⟩
  rw [pm_w_push]
  have hk : ∀ (k : Nat) (x : Nat × va_E), (pm_w P tA ρ h)[k]? = some x → H1[x.1]? = H[x.1]? := fun k x hx => o1 x.1 ((hP k x hx).lt)
  refine (hP.kept hk).app (fun k x hx => ?_)
  have hz : k < 1 := (List.getElem?_eq_some_iff.mp hx).1
  rw [show k = 0 by omega] at hx
  cases hx
  exact hat
set_option maxHeartbeats 4000000 in
theorem sm_al {st' : List Value} {h' : pm_H} {cs' : Nat × Nat} (hx : p.tables.exec = Jvm.exec) (hb : c.code = byt m) (hown : s.vm.findClass (yN m).cls = some mi.cls) (hts : ∀ w ∈ tbl, w.before args s = true) (hnst : ∀ w ∈ nst, w.before args s = true) (hK : va_K D cl tys s)
    (hty : ∀ (a t n : Nat), pm_shp P a = some (.inr (t, n)) → ∃ t0 : Nat, tys[t0]? = some (tA t, pm_ft cl t)) (hρ : ∀ a, a < 99999 → ρ a = base + a) (hRc : R.cells = pm_mc P m ∧ R.slots = pm_ms P m)
    (ad : pm_Ad P tbl yN byt rT fr lo cl strs nst m pc (.inr i) nx) (hrel : pm_Rel P tA ρ base D cl h H) (hS : va_S (fun q : Nat => base ≤ q) s.heap H locs) (hsz : H.size = base + h.2.2.2) (hh : pm_al P m i st h cs = some (st', h', cs'))
    (kk : ∀ (H' : Heap), pm_Rel P tA ρ base D cl h' H' → va_S (fun q : Nat => base ≤ q) s.heap H' locs → W p l e R s mi args below meth c H' locs cs'.1 cs'.2 Q (F0 mi nx ls (st'.map (pm_c ρ)))) : W p l e R s mi args below meth c H locs cs.1 cs.2 Q (F0 mi pc ls (st.map (pm_c ρ))) := by
  obtain ⟨hP, hn9, hZ⟩ := id hrel
  have hz0 : h.1 h.2.2.2 = fun _ => 0 := funext fun k => (hZ h.2.2.2 k (Nat.le_refl _)).1
  have hz1 : h.2.1 h.2.2.2 = fun _ => 0 := funext fun k => (hZ h.2.2.2 k (Nat.le_refl _)).2.1
  have hz2 : h.2.2.1 h.2.2.2 = fun _ => none := funext fun k => (hZ h.2.2.2 k (Nat.le_refl _)).2.2
  unfold pm_al at hh
  split at hh
  · -- new
    rename_i cn
    split at hh
    · rename_i hq
      obtain ⟨hs, hc1, hc2, hn⟩ := hq
      cases hh
      obtain ⟨j, C, T, N, ty, hd, rfl, ⟨hc, hN, hin, hty0, hnm, hft⟩, w1, w2, w3⟩ := ad
      have hKn := hK.1 cn _ hc
      have hrn : ρ h.2.2.2 = H.size := by rw [hρ _ hn, hsz]
      refine W.newcK (g := F0 mi pc ls _) hx hb hown (hts _ w1) (hts _ w2) (hts _ w3) rfl hd (by rw [hRc.1]; exact hc1) (by rw [hRc.2, hN]; exact hc2) hKn.2.1 rfl fun H1 kC hkC e1 z1 o1 => ?_
      have hob := u_born ty hts hin hKn hkC e1 hty0
      obtain ⟨r1, r2⟩ := sm_push (H1 := H1) hρ hrel hS hsz hn o1 z1 (by
        simp only [pm_E, hs]
        refine ⟨_, hc, ?_⟩
        rw [hrn]
        refine hob.to (fun k hk => ?_)
        have hk' : k < pm_nf P cn := by rw [← hN]; exact hk
        simp only [vp_V, List.getD_eq_getElem?_getD, List.getElem?_map, List.getElem?_range hk', Option.map_some, Option.getD_some]
        obtain ⟨f1, f2⟩ := hft k hk
        rw [f1]
        revert f2
        cases ty k <;> intro f2 <;> first | (simp [pm_tk] at f2; done) | (simp [pm_tk, pm_g, hz0, hz1, hz2, defaultValue, pm_c, va_rf]; done))
      have := kk H1 r1 r2
      rw [List.map_cons, show pm_c ρ (.ref h.2.2.2) = Value.ref H.size from congrArg Value.ref hrn, ← hN] at this
      exact this
    · cases hh
  · -- newarray
    rename_i t
    split at hh
    · rename_i n r
      split at hh
      · rename_i hq
        obtain ⟨hs, ht4, hn0, hn6, hc1, hc2, hn⟩ := hq
        cases hh
        obtain ⟨hd, rfl, w1⟩ := ad
        have hrn : ρ h.2.2.2 = H.size := by rw [hρ _ hn, hsz]
        obtain ⟨t0, ht⟩ := hty _ _ _ hs
        refine va_newaK (g := F0 mi pc ls _) hx hb (hts _ w1) rfl hd rfl hn0 rfl ?_ (by rw [hRc.1]; exact hc1) (by rw [hRc.2]; exact hc2) rfl fun H1 cA e1 z1 o1 hAr hNm => ?_
        · cases t <;> simp only [newarray.typeOf, componentBytes] <;> omega
        · have hat : va_at D cl (ρ h.2.2.2, pm_E P tA ρ h h.2.2.2) H1 := by
            have hra := (hK.2 t0 _ ht).2
            cases t with
            | int =>
              simp only [pm_E, show pm_shp P h.2.2.2 = _ from hs, pm_at]
              show H1[ρ h.2.2.2]? = some (vp_cell (tA 0) (n.toNatClampNeg, Sum.inl (h.1 h.2.2.2)))
              have hA : tA 0 = cA := Option.some.inj ((show s.vm.findClass _ = some (tA 0) from hra).symm.trans hNm)
              rw [hrn, e1, hA, hz0]
              rfl
            | long =>
              simp only [pm_E, show pm_shp P h.2.2.2 = _ from hs, pm_at]
              show H1[ρ h.2.2.2]? = some (vp_cell (tA 1) (n.toNatClampNeg, Sum.inr (Sum.inl (h.2.1 h.2.2.2))))
              have hA : tA 1 = cA := Option.some.inj ((show s.vm.findClass _ = some (tA 1) from hra).symm.trans hNm)
              rw [hrn, e1, hA, hz1]
              rfl
            | byte =>
              simp only [pm_E, show pm_shp P h.2.2.2 = _ from hs, pm_at]
              show H1[ρ h.2.2.2]? = some (vp_cell (tA 2) (n.toNatClampNeg, Sum.inl (h.1 h.2.2.2)))
              have hA : tA 2 = cA := Option.some.inj ((show s.vm.findClass _ = some (tA 2) from hra).symm.trans hNm)
              rw [hrn, e1, hA, hz0]
              rfl
            | boolean =>
              simp only [pm_E, show pm_shp P h.2.2.2 = _ from hs, pm_at]
              show H1[ρ h.2.2.2]? = some (vp_cell (tA 3) (n.toNatClampNeg, Sum.inl (h.1 h.2.2.2)))
              have hA : tA 3 = cA := Option.some.inj ((show s.vm.findClass _ = some (tA 3) from hra).symm.trans hNm)
              rw [hrn, e1, hA, hz0]
              rfl
            | _ => exact absurd ht4 (by decide)
          obtain ⟨r1, r2⟩ := sm_push (H1 := H1) hρ hrel hS hsz hn o1 z1 hat
          have := kk H1 r1 r2
          rw [List.map_cons, show pm_c ρ (.ref h.2.2.2) = Value.ref H.size from congrArg Value.ref hrn] at this
          exact this
      · cases hh
    · cases hh
  · -- anewarray
    rename_i cn
    split at hh
    · rename_i n r
      split at hh
      · rename_i hq
        obtain ⟨hs, hn0, hn6, hc1, hc2, hn⟩ := hq
        cases hh
        obtain ⟨j, C, T, N, hd, rfl, hc, w1, w2⟩ := ad
        have hrn : ρ h.2.2.2 = H.size := by rw [hρ _ hn, hsz]
        obtain ⟨t0, ht⟩ := hty _ _ _ hs
        refine W.anew (g := F0 mi pc ls _) hx hb hown (hts _ w1) (hnst _ w2) rfl hd rfl hn0 (by omega) (by rw [hRc.1]; exact hc1) (by rw [hRc.2]; exact hc2) fun cA kA comp f1 f2 f3 f4 => ?_
        have hat : va_at D cl (ρ h.2.2.2, pm_E P tA ρ h h.2.2.2) (H.push { cls := cA, slots := Array.replicate n.toNatClampNeg .null, vm := .none }) := by
          have hra := (hK.2 t0 _ ht).2
          simp only [pm_ft, hc, Option.getD_some] at hra
          obtain ⟨kA', comp', g1, g2, g3, g4⟩ := hra
          have hA : tA (cn + 4) = cA := Option.some.inj (g4.symm.trans f1)
          simp only [pm_E, hs]
          show (H.push _)[ρ h.2.2.2]? = some (vp_cell (tA (cn + 4)) (n.toNatClampNeg, _))
          rw [hrn, hA, hz2]
          simp only [Array.getElem?_push_size, vp_cell, arrV]
          congr 2
          apply Array.ext
          · simp
          · intro q _ _
            simp [va_rf]
        obtain ⟨r1, r2⟩ := sm_push hρ hrel hS hsz hn (fun q hq => by simp [Array.getElem?_push, Nat.ne_of_lt hq]) (by simp) hat
        have := kk _ r1 r2
        rw [List.map_cons, show pm_c ρ (.ref h.2.2.2) = Value.ref H.size from congrArg Value.ref hrn] at this
        exact this
      · cases hh
    · cases hh
  · cases hh
/-- ldc_w of a text -/
theorem sm_ldcSw {cells slots : Nat} {rest : List Value} {cc : ByteArray} (hexec : p.tables.exec = Jvm.exec) (hb : c.code = cc) {own tx : String} {index q : Nat} (hown : s.vm.findClass own = some mi.cls) (hZ : vk_R own index tx q s) (hdg : decode cc pc = .ok (.ldc_w index, 3))
    (k : W p l e R s mi args below meth c H locs cells slots Q (F0 mi (pc + 3) ls (.ref q :: rest))) : W p l e R s mi args below meth c H locs cells slots Q (F0 mi pc ls rest) := by
  intro T hT X
  obtain ⟨t, a1, b1⟩ := k T hT X
  exact ⟨t, X.ldcStringW hexec hown (text := tx) (a := q) hZ.1 hZ.2 (g := F0 mi pc ls rest) rfl (by rw [hb]; exact hdg) t a1, b1⟩
theorem sm_c {v : Value} {cells slots : Nat} (hx : p.tables.exec = Jvm.exec) (hb : c.code = byt m) (hown : s.vm.findClass (yN m).cls = some mi.cls) (hts : ∀ w ∈ tbl, w.before args s = true) (hstr : ∀ q ∈ strs, ∃ tx, vk_R q.1 q.2.1 tx (ρ (100000 + q.2.2)) s)
    (ad : pm_Ad P tbl yN byt rT fr lo cl strs nst m pc (.inl v) nx) (kk : W p l e R s mi args below meth c H locs cells slots Q (F0 mi nx ls ((v :: st).map (pm_c ρ)))) : W p l e R s mi args below meth c H locs cells slots Q (F0 mi pc ls (st.map (pm_c ρ))) := by
  rcases ad with ⟨n, hd, rfl, rfl⟩ | ⟨n, hd, rfl, rfl⟩ | ⟨n, hd, rfl, rfl⟩ | ⟨n, hd, rfl, rfl⟩ | ⟨hd, rfl, rfl⟩ | ⟨i, z, hd, rfl, rfl, w⟩ | ⟨i, z, hd, rfl, rfl, w⟩ | ⟨i, z, hd, rfl, rfl, w⟩ | ⟨i, j, hd, rfl, rfl, w⟩ | ⟨i, j, hd, rfl, rfl, w⟩
  · exact lv_iconst hx hb hd rfl kk
  · exact lv_bipush hx hb hd rfl kk
  · exact lv_sipush hx hb hd rfl kk
  · exact lv_lconst hx hb hd rfl kk
  · exact lv_null hx hb hd kk
  · exact lv_ldc hx hb hown (hts _ w) hd kk
  · exact lv_ldcw hx hb hown (hts _ w) hd kk
  · exact lv_ldc2 hx hb hown (hts _ w) hd kk
  · obtain ⟨tx, hz⟩ := hstr _ w
    exact va_ldcS hx hb hown hz hd kk
  · obtain ⟨tx, hz⟩ := hstr _ w
    exact sm_ldcSw hx hb hown hz hd kk
end SML
end
section
/-! THE REAL MACHINE DOES WHAT THE PURE ONE DOES -/
theorem pm_run_v {P : pm_P} : ∀ {f m pc : Nat} {lv st : List Value} {h : pm_H} {cs : Nat × Nat} {v : List Value} {h' : pm_H}, pm_run P f m pc lv st h cs = some (v, h') → v.length ≤ 1 := by
  intro f
  induction f with
  | zero => intro m pc lv st h cs v h' e; simp [pm_run] at e
  | succ f ih =>
    intro m pc lv st h cs v h' e
    rw [pm_run] at e
    split at e
    · exact absurd e (by simp)
    · exact ih e
    · split at e
      · rename_i e1
        cases e
        unfold pm_re at e1
        repeat' split at e1
        all_goals first | (cases e1; simp; done) | (cases e1; done)
      · split at e
        · split at e
          · split at e
            · split at e
              · exact ih e
              · exact absurd e (by simp)
            · exact absurd e (by simp)
          · exact absurd e (by simp)
        · split at e
          · exact ih e
          · exact absurd e (by simp)
theorem pm_re_st {rt : Nat} {i : Instr} {st v : List Value} (e : pm_re rt i st = some v) : st = v := by
  unfold pm_re at e
  repeat' split at e
  all_goals first | (cases e; rfl; done) | (cases e; done)
def pm_rm (P : pm_P) (fr lo : Nat → Nat) (m : Nat) : Room := { frames := fr m, cells := pm_mc P m, slots := pm_ms P m, locals := lo m }
def pm_ws (P : pm_P) (tbl : List Jvm.Cond) (yN : Nat → MethodName) (byt : Nat → ByteArray) (rT : Nat → Option FieldType) (m : Nat) : List Jvm.Cond := .code (yN m) (byt m) (pm_mxl P m) (rT m) :: tbl
section SMS
variable {P : pm_P} {tbl : List Jvm.Cond} {yN : Nat → MethodName} {byt : Nat → ByteArray} {rT : Nat → Option FieldType} {fr lo : Nat → Nat} {cl : List vw_C} {strs : List (String × Nat × Nat)} {nst : List Jvm.Cond} {ρ : Nat → Nat} {tA : Nat → ClassId} {base : Nat} {D : va_G} {tys : List (ClassId × FieldType)}
variable {p : Program} {l : Launch} {e : Env} {R : Room} {s : State} {mi : MethodId} {args : Array Value} {below : List Frame} {meth : Method} {c : Code} {H : Heap} {locs : List Loc} {Q : State → Prop}
/-- how large the heap is at most -/
theorem sm_sz {cells slots : Nat} {g : JFrame} (k : s.heap.size ≤ H.size → H.size ≤ s.heap.size + cells → W p l e R s mi args below meth c H locs cells slots Q g) : W p l e R s mi args below meth c H locs cells slots Q g := by
  intro T hT X
  have h1 : s.heap.size ≤ T.heap.size := X.same.2.1
  have h2 : T.heap.size ≤ s.heap.size + cells := X.same.2.2.1
  rw [hT] at h1 h2
  exact k h1 h2 T hT X
theorem sm_low {h : pm_H} (hρ : ∀ a, a < 99999 → ρ a = base + a) (hrel : pm_Rel P tA ρ base D cl h H) (hb0 : base ≤ H.size) : base + h.2.2.2 ≤ H.size := by
  obtain ⟨hP, hn9, hZ⟩ := hrel
  by_cases hn : h.2.2.2 = 0
  · omega
  · have hlt := (hP (h.2.2.2 - 1) _ (pm_w_get (by omega))).lt
    have hr := hρ (h.2.2.2 - 1) (by omega)
    simp only [hr] at hlt
    omega
/-- behind a call -/
theorem sm_call {cells slots mc ms : Nat} {Qa : State → Outcome → State → Prop} {v rest st0 : List Value} {h' : pm_H} {pc : Nat} {ls : Array Slot} (hr : va_Run p l e R s mi args below meth c H locs cells slots mc ms (F0 mi pc ls st0) rest Qa (fun q : Nat => base ≤ q))
    (hQ : ∀ st₀ o t, Qa st₀ o t → st₀.heap = H → o = .returned ((v.map (pm_c ρ)).head?) ∧ pm_Rel P tA ρ base D cl h' t.heap ∧ va_F (fun q : Nat => base ≤ q) st₀ t) (hv : v.length ≤ 1) (hS : va_S (fun q : Nat => base ≤ q) s.heap H locs)
    (kk : ∀ (H1 : Heap) (locs1 : List Loc), pm_Rel P tA ρ base D cl h' H1 → va_S (fun q : Nat => base ≤ q) s.heap H1 locs1 → W p l e R s mi args below meth c H1 locs1 (cells + mc) (slots + ms) Q (F0 mi (pc + 3) ls (v.map (pm_c ρ) ++ rest))) : W p l e R s mi args below meth c H locs cells slots Q (F0 mi pc ls st0) := by
  intro T hT X
  obtain ⟨v', st₀, t, T', L, h0, X', hL, e1, e2, q, st⟩ := hr T hT X
  obtain ⟨hv', hrel, hz, hk⟩ := hQ _ _ _ q h0
  cases hv'
  rw [h0] at hz hk
  have hvl : ((v.map (pm_c ρ)).head?).toList = v.map (pm_c ρ) := by
    match v, hv with
    | [], _ => rfl
    | [x], _ => rfl
  obtain ⟨t2, a1, b1⟩ := kk T'.heap (locs ++ L) (by rw [e1]; exact hrel)
    ⟨Nat.le_trans hS.1 (by rw [e1]; exact hz), fun q h1 h2 => by rw [e1, hk q (Nat.lt_of_lt_of_le h1 hS.1) h2]; exact hS.2.1 q h1 h2, fun q hq => by
      rcases List.mem_append.mp hq with h | h
      · exact hS.2.2 q h
      · exact hL q h⟩ T' rfl X'
  rw [← hvl] at a1
  exact ⟨t2, st t2 a1, b1⟩
end SMS
end
section
section SMT
variable (P : pm_P) (tbl : List Jvm.Cond) (yN : Nat → MethodName) (byt : Nat → ByteArray) (rT : Nat → Option FieldType) (fr lo : Nat → Nat) (cl : List vw_C) (strs : List (String × Nat × Nat)) (nst : List Jvm.Cond) (ρ : Nat → Nat) (tA : Nat → ClassId) (base : Nat) (D : va_G) (tys : List (ClassId × FieldType)) (TT : State → Prop) (l : Launch)
def pm_Pc (as : List Value) (h : pm_H) : Array Value → State → Prop := va_Pc (as.map (pm_c ρ)) (fun U => U.heap.size = base + h.2.2.2 ∧ pm_Rel P tA ρ base D cl h U.heap ∧ va_K D cl tys U ∧ TT U)
def pm_Qc (v : List Value) (h' : pm_H) : Array Value → State → Outcome → State → Prop := fun _ st o t => o = .returned ((v.map (pm_c ρ)).head?) ∧ pm_Rel P tA ρ base D cl h' t.heap ∧ va_F (fun q : Nat => base ≤ q) st t
/-- what stands of the script at a method's start -/
def pm_X (s : State) : Prop := ∃ (L : Nat) (xs : Nat → Int32), va_X (ρ 99999) L xs s s.heap ∧ ρ 99999 < base ∧ ρ 99999 < s.heap.size ∧ L = (pm_scr P).length ∧ ∀ j, j < L → xs j = (pm_scr P).getD j 0
def pm_At (f : Nat) : Prop := ∀ (m : Nat) (p : Program) (e : Env) (s : State) (mi : MethodId) (args : Array Value) (below : List Frame) (meth : Method) (c : Code) (R : Room) (Q : State → Prop) (n0 : Nat) (v : List Value) (h' : pm_H),
  p.tables.exec = Jvm.exec → c.code = byt m → c.maxLocals = pm_mxl P m → s.vm.findClass (yN m).cls = some mi.cls → meth.name = (yN m).name → (∀ w ∈ tbl, w.before args s = true) → va_K D cl tys s → TT s → R = pm_rm P fr lo m → s.heap.size = base + n0 → (m = 0 → pm_X P ρ base s) →
  (∀ (pc nx : Nat) (i : Instr) (cells slots : Nat) (H : Heap) (locs : List Loc) (ls : Array Slot), pm_cod P m pc = some (.inr i, nx) → pm_re (pm_ret P m) i v = some v → pm_Rel P tA ρ base D cl h' H → va_S (fun q : Nat => base ≤ q) s.heap H locs → cells ≤ pm_mc P m → slots ≤ pm_ms P m → W p l e R s mi args below meth c H locs cells slots Q (F0 mi pc ls (v.map (pm_c ρ)))) →
  ∀ (pc : Nat) (lv st : List Value) (h : pm_H) (cs : Nat × Nat) (H : Heap) (locs : List Loc) (ls : Array Slot), pm_run P f m pc lv st h cs = some (v, h') → cs.1 ≤ pm_mc P m → cs.2 ≤ pm_ms P m → h.2.2.2 = n0 + cs.1 → pm_Rel P tA ρ base D cl h H → va_S (fun q : Nat => base ≤ q) s.heap H locs → pm_L ρ ls lv → lv.length = pm_mxl P m →
    W p l e R s mi args below meth c H locs cs.1 cs.2 Q (F0 mi pc ls (st.map (pm_c ρ)))
variable {P tbl yN byt rT fr lo cl strs nst ρ tA base D tys TT l}
set_option maxHeartbeats 4000000 in
theorem pm_met_of {f : Nat} (hAd : ∀ m pc x nx, pm_cod P m pc = some (x, nx) → pm_Ad P tbl yN byt rT fr lo cl strs nst m pc x nx) (hA : pm_At P tbl yN byt fr lo cl ρ tA base D tys TT l f) {m : Nat} {as v : List Value} {h h' : pm_H} (hm0 : 0 < m) (hme : pm_me P yN rT m)
    (hrun : pm_run P f m 0 (pm_en as (pm_mxl P m)) [] h (0, 0) = some (v, h')) (hlen : (pm_sl as).length ≤ pm_mxl P m) :
    Met l (yN m) (pm_ws P tbl yN byt rT m) (pm_rm P fr lo m) (pm_Pc P cl ρ tA base D tys TT as h) (pm_Qc P cl ρ tA base D v h') (pm_mc P m) (pm_ms P m) (fun q : Nat => base ≤ q) := by
  refine Met.ofW (cc := byt m) (maxL := pm_mxl P m) (ret := rT m) hme.1 rfl ?_
  intro p e s mi args below meth c s₁ B hml hv
  obtain ⟨rfl, hsz, hrel, hK, hT⟩ := hv
  have hx := B.exec
  have hb := B.bytes
  have hr := B.returns
  have hts := atoms_spec (ws := pm_ws P tbl yN byt rT m) B.pre
  have hown : s.vm.findClass (yN m).cls = some mi.cls := findClass_of_methodNamed B.named
  have hname : meth.name = (yN m).name := (name_of_methodNamed B.named B.method).1
  have hlocks := B.notSynchronized
  rw [lg_entry_eq]
  refine hA m p e s mi _ below meth c _ _ h.2.2.2 v h' hx hb hml hown hname (fun w hw => hts w (List.mem_cons_of_mem _ hw)) hK hT rfl hsz (fun q => by omega) ?_ 0 _ [] h (0, 0) s.heap [] _ hrun (Nat.zero_le _) (Nat.zero_le _) rfl hrel va_S.rf (pm_L_entry hlen) (pm_en_len hlen)
  intro pc nx i cells slots H locs ls hc hre hrel' hS hcl hsl
  refine W.widen hcl hsl ?_
  have ad := hAd _ _ _ _ hc
  have hq : ∀ t : State, t.heap = H → s.WarmedH t.vm → pm_Qc P cl ρ tA base D v h' (as.map (pm_c ρ)).toArray s (.returned ((v.map (pm_c ρ)).head?)) t := fun t ht hW => ⟨rfl, by rw [ht]; exact hrel', hS.F ht⟩
  have hrk := hme.2
  unfold pm_re at hre
  split at hre
  · split at hre
    · split at hre
      · rename_i h0
        obtain ⟨hd, -⟩ := ad
        have hr0 : rT m = none := by
          rw [h0] at hrk
          revert hrk
          cases hrt : rT m with
          | none => intro _; rfl
          | some t => cases t <;> simp [pm_rk]
        exact W.vret hx hb (by rw [hr, hr0]) hq hS.2.2 hd
      · cases hre
    · cases hre
  · split at hre
    · rename_i x
      split at hre
      · rename_i h0
        obtain ⟨hd, -⟩ := ad
        rcases h0 with h0 | ⟨h0, hx01⟩
        · have hr0 : rT m = some .int := by
            rw [h0] at hrk
            revert hrk
            cases hrt : rT m with
            | none => simp [pm_rk]
            | some t => cases t <;> simp [pm_rk]
          exact W.iret hx hb (by rw [hr, hr0]) hq hS.2.2 hd
        · have hr0 : rT m = some .boolean := by
            rw [h0] at hrk
            revert hrk
            cases hrt : rT m with
            | none => simp [pm_rk]
            | some t => cases t <;> simp [pm_rk]
          exact W.zret hx hb (by rw [hr, hr0]) (by rcases hx01 with rfl | rfl <;> rfl) hq hS.2.2 hd
      · cases hre
    · cases hre
  · split at hre
    · rename_i x
      split at hre
      · rename_i h0
        obtain ⟨hd, -⟩ := ad
        have hr0 : rT m = some .long := by
          rw [h0] at hrk
          revert hrk
          cases hrt : rT m with
          | none => simp [pm_rk]
          | some t => cases t <;> simp [pm_rk]
        exact W.lret hx hb (by rw [hr, hr0]) hq hS.2.2 hd
      · cases hre
    · cases hre
  · have key : pm_ret P m = 3 → ∃ rt, rT m = some rt ∧ ((∃ n, rt = .object n) ∨ ∃ t, rt = .array t) := by
      intro h0
      rw [h0] at hrk
      revert hrk
      cases hrt : rT m with
      | none => simp [pm_rk]
      | some t => cases t <;> simp [pm_rk]
    split at hre
    · rename_i x
      split at hre
      · rename_i h0
        obtain ⟨hd, -⟩ := ad
        obtain ⟨rt, hr0, hr1⟩ := key h0
        exact W.aret hx hb (by rw [hr, hr0]) hr1 (Or.inr ⟨_, rfl⟩) hq hS.2.2 hd
      · cases hre
    · split at hre
      · rename_i h0
        obtain ⟨hd, -⟩ := ad
        obtain ⟨rt, hr0, hr1⟩ := key h0
        exact W.aret hx hb (by rw [hr, hr0]) hr1 (Or.inl rfl) hq hS.2.2 hd
      · cases hre
    · cases hre
  · cases hre
end SMT
end
section
section SMU
variable {P : pm_P} {tbl : List Jvm.Cond} {yN : Nat → MethodName} {byt : Nat → ByteArray} {rT : Nat → Option FieldType} {fr lo : Nat → Nat} {cl : List vw_C} {strs : List (String × Nat × Nat)} {nst : List Jvm.Cond} {ρ : Nat → Nat} {tA : Nat → ClassId} {base : Nat} {D : va_G} {tys : List (ClassId × FieldType)} {TT : State → Prop} {l : Launch}
theorem pm_goodIn (hgood : ∀ w ∈ tbl, (w.onTables && w.keeps) = true ∨ ∃ ty, w = .arrayClass ty) {ws : List Jvm.Cond} (h : ∀ w ∈ ws, w ∈ tbl) : GoodIn tbl ws := fun w hw => ⟨h w hw, hgood w (h w hw)⟩
theorem pm_blind {as : List Value} {h : pm_H} (hT2 : ∀ (U : State) (g : JFrame) (mk : MethodId) (a : Array Value), TT U → TT (U.calling g mk a)) : FrameBlind (pm_Pc P cl ρ tA base D tys TT as h) := by
  intro a U g mk q
  obtain ⟨q0, q1, q2, q3, q4⟩ := q
  exact ⟨q0, q1, q2, va_K.moved (u := U) (U := U.calling g mk a) (Vm.Alike.refl U.vm) q3, hT2 U g mk a q4⟩
theorem pm_pre {s : State} {H : Heap} {locs : List Loc} {as : List Value} {h : pm_H} (hT1 : ∀ s U : State, TT s → s.WarmedH U.vm → (∀ q : Nat, q < s.heap.size → ¬ base ≤ q → U.heap[q]? = s.heap[q]?) → TT U) (hK : va_K D cl tys s) (hTs : TT s) (hsz : H.size = base + h.2.2.2) (hrel : pm_Rel P tA ρ base D cl h H) (hS : va_S (fun q : Nat => base ≤ q) s.heap H locs) :
    ∀ U : State, U.heap = H → s.WarmedH U.vm → pm_Pc P cl ρ tA base D tys TT as h (as.map (pm_c ρ)).toArray U := by
  intro U hU hW
  exact ⟨rfl, by rw [hU]; exact hsz, by rw [hU]; exact hrel, va_K.moved hW.alike hK, hT1 s U hTs hW (fun q h1 h2 => by rw [hU]; exact hS.2.1 q h1 h2)⟩
set_option maxHeartbeats 8000000 in
theorem pm_sim (hAd : ∀ m pc x nx, pm_cod P m pc = some (x, nx) → pm_Ad P tbl yN byt rT fr lo cl strs nst m pc x nx) (hgood : ∀ w ∈ tbl, (w.onTables && w.keeps) = true ∨ ∃ ty, w = .arrayClass ty)
    (hty : ∀ (a t n : Nat), pm_shp P a = some (.inr (t, n)) → ∃ t0 : Nat, tys[t0]? = some (tA t, pm_ft cl t)) (hρ : ∀ a, a < 99999 → ρ a = base + a)
    (hT1 : ∀ s U : State, TT s → s.WarmedH U.vm → (∀ q : Nat, q < s.heap.size → ¬ base ≤ q → U.heap[q]? = s.heap[q]?) → TT U) (hT2 : ∀ (U : State) (g : JFrame) (mk : MethodId) (a : Array Value), TT U → TT (U.calling g mk a))
    (hT3 : ∀ U, TT U → ∀ q ∈ strs, ∃ tx, vk_R q.1 q.2.1 tx (ρ (100000 + q.2.2)) U) (hT4 : ∀ U A, TT U → ∀ w ∈ nst, w.before A U = true)
    (hT5 : ∀ (s : State) (H : Heap) (j : Nat), TT s → 0 < (pm_txt P j).length → (∀ q : Nat, q < s.heap.size → ¬ base ≤ q → H[q]? = s.heap[q]?) → ∃ cell : Cell, H[ρ (100000 + j)]? = some cell ∧ cell.vm.isStatics = false ∧ s.vm.findClass "java/lang/String" = some cell.cls)
    (hM0 : P.2.2.1 9001 = (0, 0) ∧ P.2.2.1 9002 = (0, 0))
    (hM1 : ∀ j, 0 < (pm_txt P j).length → Met l (yN 9001) (pm_ws P tbl yN byt rT 9001) (pm_rm P fr lo 9001) (va_Pc [.ref (ρ (100000 + j))] TT) (fun _ st o t => o = .returned (some (.int (Int32.ofNat (pm_txt P j).length))) ∧ t.heap = st.heap) 0 0 (fun q : Nat => base ≤ q))
    (hM2 : ∀ (j : Nat) (i : Int32), pm_in i (pm_txt P j).length = true → Met l (yN 9002) (pm_ws P tbl yN byt rT 9002) (pm_rm P fr lo 9002) (va_Pc [.ref (ρ (100000 + j)), .int i] TT) (fun _ st o t => o = .returned (some (.int ((pm_txt P j).getD i.toNatClampNeg 0))) ∧ t.heap = st.heap) 0 0 (fun q : Nat => base ≤ q)) :
    ∀ f, pm_At P tbl yN byt fr lo cl ρ tA base D tys TT l f := by
  intro f
  induction f with
  | zero =>
    intro m p e s mi args below meth c R Q n0 v h' hx hb hml hown hname hts hK hTs hR hn0 hX hend pc lv st h cs H locs ls hrun
    simp [pm_run] at hrun
  | succ f ih =>
    intro m p e s mi args below meth c R Q n0 v h' hx hb hml hown hname hts hK hTs hR hn0 hX hend pc lv st h cs H locs ls hrun hc1 hc2 hn hrel hS hL hlen
    have hnst : ∀ w ∈ nst, w.before args s = true := hT4 s args hTs
    have hstr := hT3 s hTs
    have hRf : R.frames = fr m ∧ R.locals = lo m := by rw [hR]; exact ⟨rfl, rfl⟩
    have hRc : R.cells = pm_mc P m ∧ R.slots = pm_ms P m := by rw [hR]; exact ⟨rfl, rfl⟩
    have hls : c.maxLocals = ls.size := by rw [hml, hL.1, hlen]
    have go : ∀ (pc : Nat) (lv st : List Value) (h : pm_H) (cs : Nat × Nat) (H : Heap) (locs : List Loc) (ls : Array Slot), pm_run P f m pc lv st h cs = some (v, h') → cs.1 ≤ pm_mc P m → cs.2 ≤ pm_ms P m → h.2.2.2 = n0 + cs.1 → pm_Rel P tA ρ base D cl h H → va_S (fun q : Nat => base ≤ q) s.heap H locs → pm_L ρ ls lv → lv.length = pm_mxl P m → W p l e R s mi args below meth c H locs cs.1 cs.2 Q (F0 mi pc ls (st.map (pm_c ρ))) :=
      ih m p e s mi args below meth c R Q n0 v h' hx hb hml hown hname hts hK hTs hR hn0 hX hend
    refine sm_sz fun hz1 hz2 => ?_
    have hsz : H.size = base + h.2.2.2 := by
      have := sm_low hρ hrel (by omega)
      omega
    rw [pm_run] at hrun
    split at hrun
    · cases hrun
    · rename_i v1 nx hcod
      exact sm_c hx hb hown hts hstr (hAd _ _ _ _ hcod) (go nx lv (v1 :: st) h cs H locs ls hrun hc1 hc2 hn hrel hS hL hlen)
    · rename_i i nx hcod
      have ad := hAd _ _ _ _ hcod
      split at hrun
      · rename_i v1 hre
        cases hrun
        have := pm_re_st hre
        subst this
        exact hend pc nx i cs.1 cs.2 H locs ls hcod hre hrel hS hc1 hc2
      · split at hrun
        · rename_i k as r hca
          split at hrun
          · rename_i hm
            split at hrun
            · rename_i v1 h1 hrun1
              split at hrun
              · rename_i hnk
                have hv1 := pm_run_v hrun1
                have hn1 : h1.2.2.2 = n0 + (cs.1 + pm_mc P k) := by
                  rcases hnk with q | q
                  · rw [pm_n0 q hrun1, q, hn]; omega
                  · rw [q, hn]; omega
                have kk : ∀ (H1 : Heap) (locs1 : List Loc), pm_Rel P tA ρ base D cl h1 H1 → va_S (fun q : Nat => base ≤ q) s.heap H1 locs1 → W p l e R s mi args below meth c H1 locs1 (cs.1 + pm_mc P k) (cs.2 + pm_ms P k) Q (F0 mi nx ls (v1.map (pm_c ρ) ++ r.map (pm_c ρ))) := by
                  intro H1 locs1 hr1 hS1
                  rw [← List.map_append]
                  exact go nx lv (v1 ++ r) h1 (cs.1 + pm_mc P k, cs.2 + pm_ms P k) H1 locs1 ls hrun hm.1 hm.2 hn1 hr1 hS1 hL hlen
                have hQa : ∀ (a : Array Value) (st₀ : State) (o : Outcome) (t : State), pm_Qc P cl ρ tA base D v1 h1 a st₀ o t → st₀.heap = H → o = .returned ((v1.map (pm_c ρ)).head?) ∧ pm_Rel P tA ρ base D cl h1 t.heap ∧ va_F (fun q : Nat => base ≤ q) st₀ t := fun a st₀ o t q _ => q
                unfold pm_ca at hca
                split at hca
                · -- static
                  split at hca
                  · rename_i hq
                    cases hca
                    obtain ⟨q1, q2, q3, q4⟩ := hq
                    obtain ⟨rfl, hor⟩ := ad
                    rcases hor with ⟨w0, -⟩ | ⟨-, j, hd, hl, ⟨w1, w2, w3, wk, w4, w5⟩, w6, w7⟩
                    · omega
                    · have hM := pm_met_of hAd ih wk w7 hrun1 q4
                      have hstack : st.map (pm_c ρ) = (((st.take (pm_nar P k)).reverse).map (pm_c ρ)).reverse ++ (st.drop (pm_nar P k)).map (pm_c ρ) := by
                        rw [List.map_reverse, List.reverse_reverse, ← List.map_append, List.take_append_drop]
                      have hlenA : (((st.take (pm_nar P k)).reverse).map (pm_c ρ)).length = pm_nar P k := by simp; omega
                      have hG : GoodIn tbl (pm_ws P tbl yN byt rT k) := pm_goodIn hgood (fun w hw => by rcases List.mem_cons.mp hw with rfl | hw; exact w2; exact hw)
                      have hRk : (pm_rm P fr lo k).frames + 1 ≤ R.frames ∧ 8 + (pm_mxl P k + 11) + (pm_rm P fr lo k).locals ≤ R.locals := by rw [hRf.1, hRf.2]; exact ⟨w4, w5⟩
                      rcases hl with hl | ⟨host, hl⟩
                      · refine sm_call (va_runS (nL := ls.size) (As := ((st.take (pm_nar P k)).reverse).map (pm_c ρ)) ⟨hx, hb, hls, hown, hts⟩ hM ⟨callB_of (pm_nar P k) hts hG rfl rfl rfl (hts _ w1) (hts _ hl) w3 hRk, hts _ w6⟩ ⟨pm_blind hT2, pm_pre hT1 hK hTs hsz hrel hS⟩ rfl hlenA rfl hstack (by rw [pm_c_sum]; show 2 * 0 + _ ≤ 8; omega) hd ⟨by rw [hRc.1]; exact hm.1, by rw [hRc.2]; exact hm.2⟩) (hQa _) hv1 hS kk
                      · refine sm_call (va_runSN (nL := ls.size) (As := ((st.take (pm_nar P k)).reverse).map (pm_c ρ)) ⟨hx, hb, hls, hown, hts⟩ hM ⟨va_cnB (pm_nar P k) hts hG rfl rfl rfl (va_Nw.of rfl (hnst _ hl)) (hts _ w1) w3 hRk, hts _ w6, trivial⟩ ⟨pm_blind hT2, pm_pre hT1 hK hTs hsz hrel hS⟩ rfl hlenA rfl hstack (by rw [pm_c_sum]; show 2 * 0 + _ ≤ 8; omega) hd ⟨by rw [hRc.1]; exact hm.1, by rw [hRc.2]; exact hm.2⟩) (hQa _) hv1 hS kk
                  · cases hca
                · -- special
                  split at hca
                  · rename_i hq
                    obtain ⟨q1, q3⟩ := hq
                    split at hca
                    · rename_i a as1 htk
                      split at hca
                      · rename_i hq2
                        cases hca
                        obtain ⟨q2, q4⟩ := hq2
                        obtain ⟨rfl, hor⟩ := ad
                        rcases hor with ⟨w0, -⟩ | ⟨-, j, hd, hl, ⟨w1, w2, w3, wk, w4, w5⟩, w6, w8, w9, w7⟩
                        · omega
                        · have hM := pm_met_of hAd ih wk w7 hrun1 q4
                          have htk2 : st.take (pm_nar P k) = as1.reverse ++ [.ref a] := by
                            have := congrArg List.reverse htk
                            simpa using this
                          have hstack : st.map (pm_c ρ) = (as1.map (pm_c ρ)).reverse ++ Value.ref (ρ a) :: (st.drop (pm_nar P k)).map (pm_c ρ) := by
                            conv => lhs; rw [← List.take_append_drop (pm_nar P k) st, htk2]
                            simp [pm_c]
                          have hlenA : (as1.map (pm_c ρ)).length = pm_nar P k - 1 := by simp; omega
                          have hG : GoodIn tbl (pm_ws P tbl yN byt rT k) := pm_goodIn hgood (fun w hw => by rcases List.mem_cons.mp hw with rfl | hw; exact w2; exact hw)
                          have hRk : (pm_rm P fr lo k).frames + 1 ≤ R.frames ∧ 8 + (pm_mxl P k + 11) + (pm_rm P fr lo k).locals ≤ R.locals := by rw [hRf.1, hRf.2]; exact ⟨w4, w5⟩
                          have hws : pm_ws P tbl yN byt rT k = .code (yN k) (byt k) (pm_mxl P k) none :: tbl := by rw [← w9]; rfl
                          rcases hl with hl | ⟨host, hl⟩
                          · refine sm_call (va_runI (nL := ls.size) (b := ρ a) (As := as1.map (pm_c ρ)) ⟨hx, hb, hls, hown, hts⟩ hM ⟨callB_of (pm_nar P k - 1) hts hG hws rfl rfl (hts _ w1) (hts _ hl) w3 hRk, w8, hts _ w6⟩ ⟨pm_blind hT2, pm_pre (as := .ref a :: as1) hT1 hK hTs hsz hrel hS⟩ rfl hlenA rfl hstack (by rw [pm_c_sum]; show 2 * 0 + _ ≤ 8; omega) hd ⟨by rw [hRc.1]; exact hm.1, by rw [hRc.2]; exact hm.2⟩) (hQa _) hv1 hS kk
                          · refine sm_call (va_runIN (nL := ls.size) (b := ρ a) (As := as1.map (pm_c ρ)) ⟨hx, hb, hls, hown, hts⟩ hM ⟨va_cnB (pm_nar P k - 1) hts hG hws rfl rfl (va_Nw.of rfl (hnst _ hl)) (hts _ w1) w3 hRk, w8, hts _ w6⟩ ⟨pm_blind hT2, pm_pre (as := .ref a :: as1) hT1 hK hTs hsz hrel hS⟩ rfl hlenA rfl hstack (by rw [pm_c_sum]; show 2 * 0 + _ ≤ 8; omega) hd ⟨by rw [hRc.1]; exact hm.1, by rw [hRc.2]; exact hm.2⟩) (hQa _) hv1 hS kk
                      · cases hca
                    · cases hca
                  · cases hca
                · -- virtual
                  split at hca
                  · rename_i hq
                    obtain ⟨q1, q3⟩ := hq
                    split at hca
                    · rename_i a as1 htk
                      split at hca
                      · rename_i hq2
                        cases hca
                        obtain ⟨q2, q5, q4⟩ := hq2
                        obtain ⟨rfl, hor⟩ := ad
                        rcases hor with ⟨w0, -⟩ | ⟨-, j, hd, hl, ⟨w1, w2, w3, wk, w4, w5⟩, w6, w8, ⟨T, N, w9⟩, w7⟩
                        · omega
                        · have hM := pm_met_of hAd ih wk w7 hrun1 q4
                          have htk2 : st.take (pm_nar P k) = as1.reverse ++ [.ref a] := by
                            have := congrArg List.reverse htk
                            simpa using this
                          have hstack : st.map (pm_c ρ) = (as1.map (pm_c ρ)).reverse ++ Value.ref (ρ a) :: (st.drop (pm_nar P k)).map (pm_c ρ) := by
                            conv => lhs; rw [← List.take_append_drop (pm_nar P k) st, htk2]
                            simp [pm_c]
                          have hlenA : (as1.map (pm_c ρ)).length = pm_nar P k - 1 := by simp; omega
                          have hG : GoodIn tbl (pm_ws P tbl yN byt rT k) := pm_goodIn hgood (fun w hw => by rcases List.mem_cons.mp hw with rfl | hw; exact w2; exact hw)
                          have hRk : (pm_rm P fr lo k).frames + 1 ≤ R.frames ∧ 8 + (pm_mxl P k + 11) + (pm_rm P fr lo k).locals ≤ R.locals := by rw [hRf.1, hRf.2]; exact ⟨w4, w5⟩
                          obtain ⟨ha, hs⟩ := pm_sh_spec q5
                          have hrecv : ∃ cell : Cell, H[ρ a]? = some cell ∧ cell.vm.isStatics = false ∧ s.vm.findClass (yN k).cls = some cell.cls := by
                            have he : (pm_w P tA ρ h)[a]? = some (ρ a, pm_E P tA ρ h a) := pm_w_get ha
                            simp only [pm_E, hs] at he
                            exact va_recv hK hrel.1 w9 he
                          rcases hl with hl | ⟨host, hl⟩
                          · refine sm_call (va_runV (nL := ls.size) (b := ρ a) (C := (yN k).cls) (As := as1.map (pm_c ρ)) ⟨hx, hb, hls, hown, hts⟩ hM ⟨callB_of (pm_nar P k - 1) hts hG rfl rfl rfl (hts _ w1) (hts _ hl) w3 hRk, hts _ w6, hts _ w8⟩ ⟨pm_blind hT2, hrecv, pm_pre (as := .ref a :: as1) hT1 hK hTs hsz hrel hS⟩ rfl hlenA rfl hstack (by rw [pm_c_sum]; show 2 * 0 + _ ≤ 8; omega) hd ⟨by rw [hRc.1]; exact hm.1, by rw [hRc.2]; exact hm.2⟩) (hQa _) hv1 hS kk
                          · refine sm_call (va_runVN (nL := ls.size) (b := ρ a) (C := (yN k).cls) (As := as1.map (pm_c ρ)) ⟨hx, hb, hls, hown, hts⟩ hM ⟨va_cnB (pm_nar P k - 1) hts hG rfl rfl rfl (va_Nw.of rfl (hnst _ hl)) (hts _ w1) w3 hRk, hts _ w6, hts _ w8⟩ ⟨pm_blind hT2, hrecv, pm_pre (as := .ref a :: as1) hT1 hK hTs hsz hrel hS⟩ rfl hlenA rfl hstack (by rw [pm_c_sum]; show 2 * 0 + _ ≤ 8; omega) hd ⟨by rw [hRc.1]; exact hm.1, by rw [hRc.2]; exact hm.2⟩) (hQa _) hv1 hS kk
                      · cases hca
                    · cases hca
                  · cases hca
                · cases hca
              · cases hrun
            · cases hrun
          · cases hrun
        · split at hrun
          · rename_i pc' lv' st' h1 cs' hstep
            unfold pm_s at hstep
            split at hstep
            · rename_i r1 h1e
              cases hstep
              obtain ⟨r11, r12⟩ := r1
              have hlen' : r11.length = pm_mxl P m := by
                rw [← hlen]
                unfold pm_lo at h1e
                repeat' split at h1e
                all_goals first | (cases h1e; first | rfl | exact pm_st1_len _ _ _ | exact pm_st2_len _ _ _) | (cases h1e; done)
              exact sm_lo hx hb ad hL h1e (fun ls' hL' => go nx r11 r12 h cs H locs ls' hrun hc1 hc2 hn hrel hS hL' hlen')
            · split at hstep
              · rename_i r1 h1e
                cases hstep
                exact sm_ar hx hb ad h1e (go nx lv _ h cs H locs ls hrun hc1 hc2 hn hrel hS hL hlen)
              · split at hstep
                · rename_i r1 h1e
                  obtain ⟨r11, r12⟩ := r1
                  cases hstep
                  exact sm_br hx hb ad h1e (go _ lv _ h cs H locs ls hrun hc1 hc2 hn hrel hS hL hlen)
                · split at hstep
                  · rename_i r1 h1e
                    cases hstep
                    obtain ⟨r11, r12⟩ := r1
                    have hn1 : r12.2.2.2 = n0 + cs.1 := by rw [pm_he_n h1e, hn]
                    by_cases ht : i ≠ .invokevirtual 9001 ∧ i ≠ .invokevirtual 9002
                    · exact sm_he hx hb hls hown hname hts hnst hK hty hρ hRf (fun q => hX (by rcases q with rfl | rfl; exact ad.1; exact ad.1)) ad hrel hS ht h1e (fun H' locs' hr' hS' => go nx lv r11 r12 cs H' locs' ls hrun hc1 hc2 hn1 hr' hS' hL hlen)
                    · have kk0 : ∀ (H1 : Heap) (locs1 : List Loc), pm_Rel P tA ρ base D cl r12 H1 → va_S (fun q : Nat => base ≤ q) s.heap H1 locs1 → W p l e R s mi args below meth c H1 locs1 (cs.1 + 0) (cs.2 + 0) Q (F0 mi nx ls (r11.map (pm_c ρ))) := fun H1 locs1 hr1 hS1 => go nx lv r11 r12 cs H1 locs1 ls hrun hc1 hc2 hn1 hr1 hS1 hL hlen
                      have hbl : ∀ as : List Value, FrameBlind (va_Pc as TT) := fun as a U g mk q => ⟨q.1, hT2 U g mk a q.2⟩
                      have hpr : ∀ as : List Value, ∀ U : State, U.heap = H → s.WarmedH U.vm → va_Pc as TT as.toArray U := fun as U hU hW => ⟨rfl, hT1 s U hTs hW (fun q h1 h2 => by rw [hU]; exact hS.2.1 q h1 h2)⟩
                      have hi : i = .invokevirtual 9001 ∨ i = .invokevirtual 9002 := by
                        by_cases q : i = .invokevirtual 9001
                        · exact Or.inl q
                        · exact Or.inr (Classical.byContradiction fun q2 => ht ⟨q, q2⟩)
                      rcases hi with rfl | rfl
                      · simp only [pm_he, if_true] at h1e
                        split at h1e
                        · rename_i a r
                          split at h1e
                          · rename_i hq
                            obtain ⟨q1, q2, q3⟩ := hq
                            cases h1e
                            obtain ⟨rfl, hor⟩ := ad
                            rcases hor with ⟨-, -, j, hd, hl, ⟨w1, w2, w3, wk, w4, w5⟩, w6, w8, w10⟩ | ⟨w0, -⟩
                            · obtain ⟨j0, rfl⟩ := Nat.exists_eq_add_of_le q2
                              rw [Nat.add_sub_cancel_left] at q3 kk0
                              have hG : GoodIn tbl (pm_ws P tbl yN byt rT 9001) := pm_goodIn hgood (fun w hw => by rcases List.mem_cons.mp hw with rfl | hw; exact w2; exact hw)
                              have hRk : (pm_rm P fr lo 9001).frames + 1 ≤ R.frames ∧ 8 + (pm_mxl P 9001 + 11) + (pm_rm P fr lo 9001).locals ≤ R.locals := by rw [hRf.1, hRf.2]; exact ⟨w4, w5⟩
                              have hrecv := hT5 s H j0 hTs q3 hS.2.1
                              rw [← w10] at hrecv
                              exact sm_call (v := [.int (Int32.ofNat (pm_txt P j0).length)]) (va_runV (nL := ls.size) (b := ρ (100000 + j0)) (C := (yN 9001).cls) (As := []) ⟨hx, hb, hls, hown, hts⟩ (hM1 j0 q3) ⟨callB_of 0 hts hG rfl (by simp [pm_rm, pm_mc, hM0.1]) (by simp [pm_rm, pm_ms, hM0.1]) (hts _ w1) (hts _ hl) w3 hRk, hts _ w6, hts _ w8⟩ ⟨hbl _, hrecv, hpr _⟩ rfl rfl rfl rfl (by rw [pm_c_sum]; show 2 * 0 + _ ≤ 8; omega) hd ⟨by rw [hRc.1]; exact hc1, by rw [hRc.2]; exact hc2⟩) (fun st₀ o t q h0 => ⟨q.1, by rw [q.2, h0]; exact hrel, ⟨by rw [q.2]; exact Nat.le_refl _, fun x _ _ => by rw [q.2]⟩⟩) (by simp) hS kk0
                            · omega
                          · cases h1e
                        · cases h1e
                      · simp only [pm_he] at h1e
                        rw [if_neg (by decide), if_pos trivial] at h1e
                        split at h1e
                        · rename_i ji a r
                          split at h1e
                          · rename_i hq
                            obtain ⟨q1, q2, q3⟩ := hq
                            cases h1e
                            obtain ⟨rfl, hor⟩ := ad
                            rcases hor with ⟨-, -, j, hd, hl, ⟨w1, w2, w3, wk, w4, w5⟩, w6, w8, w10⟩ | ⟨w0, -⟩
                            · obtain ⟨j0, rfl⟩ := Nat.exists_eq_add_of_le q2
                              rw [Nat.add_sub_cancel_left] at q3 kk0
                              have hG : GoodIn tbl (pm_ws P tbl yN byt rT 9002) := pm_goodIn hgood (fun w hw => by rcases List.mem_cons.mp hw with rfl | hw; exact w2; exact hw)
                              have hRk : (pm_rm P fr lo 9002).frames + 1 ≤ R.frames ∧ 8 + (pm_mxl P 9002 + 11) + (pm_rm P fr lo 9002).locals ≤ R.locals := by rw [hRf.1, hRf.2]; exact ⟨w4, w5⟩
                              have hrecv := hT5 s H j0 hTs (Nat.pos_of_ne_zero fun q0 => by rw [q0] at q3; exact pm_in_vp q3 (Or.inr (Nat.zero_le _))) hS.2.1
                              rw [← w10] at hrecv
                              exact sm_call (v := [.int ((pm_txt P j0).getD (Int32.toNatClampNeg _) 0)]) (va_runV (nL := ls.size) (b := ρ (100000 + j0)) (C := (yN 9002).cls) (As := [.int _]) ⟨hx, hb, hls, hown, hts⟩ (hM2 j0 _ q3) ⟨callB_of 1 hts hG rfl (by simp [pm_rm, pm_mc, hM0.2]) (by simp [pm_rm, pm_ms, hM0.2]) (hts _ w1) (hts _ hl) w3 hRk, hts _ w6, hts _ w8⟩ ⟨hbl _, hrecv, hpr _⟩ rfl rfl rfl rfl (by rw [pm_c_sum]; show 2 * 0 + _ ≤ 8; omega) hd ⟨by rw [hRc.1]; exact hc1, by rw [hRc.2]; exact hc2⟩) (fun st₀ o t q h0 => ⟨q.1, by rw [q.2, h0]; exact hrel, ⟨by rw [q.2]; exact Nat.le_refl _, fun x _ _ => by rw [q.2]⟩⟩) (by simp) hS kk0
                            · omega
                          · cases h1e
                        · cases h1e
                  · split at hstep
                    · rename_i r1 h1e
                      cases hstep
                      obtain ⟨r11, r12, r13⟩ := r1
                      have hal : r13.1 ≤ pm_mc P m ∧ r13.2 ≤ pm_ms P m ∧ r12.2.2.2 = n0 + r13.1 := by
                        unfold pm_al at h1e
                        repeat' split at h1e
                        all_goals first | (cases h1e; done) | (rename_i hq; cases h1e; refine ⟨?_, ?_, ?_⟩ <;> simp only [] <;> omega)
                      exact sm_al hx hb hown hts hnst hK hty hρ hRc ad hrel hS hsz h1e (fun H' hr' hS' => go nx lv r11 r12 r13 H' locs ls hrun hal.1 hal.2.1 hal.2.2 hr' hS' hL hlen)
                    · cases hstep
          · cases hrun
end SMU
end
section
/-! THE TABLES, CHECKED BY COUNTING: a Bool for an instruction, and what it says -/
section CHK
variable (P : pm_P) (byt : Nat → ByteArray) (fr lo : Nat → Nat) (oc : Nat → Nat) (ini : Nat → Bool)
  (FL : List (Nat × Nat × Nat)) (FP : List (Nat × Bool × Nat × Nat)) (ML : List (Nat × Nat × Nat)) (ST VI SP : List Nat) (NW : List (Nat × Nat × Nat)) (AW : List (Nat × Nat × Nat)) (AT : List Nat) (CI : List (Nat × Nat × Int32)) (CJ : List (Nat × Nat × Int64)) (CS : List (Nat × Nat × Nat)) (OI AC : List (Nat × Nat))
def pm_dn (x y : Except String (Instr × Nat)) : Bool := match x, y with
  | .ok a, .ok b => decide (a = b)
  | _, _ => false
/-- one instruction -/
def pm_chk (m pc : Nat) (x : pm_I) (nx : Nat) : Bool := match decode (byt m) pc with
  | .error _ => false
  | .ok (ri, len) => match x with
    | .inl v => match ri with
      | .iconst n => decide (len = 1 ∧ v = .int (Int32.ofInt n) ∧ nx = pc + 1)
      | .bipush n => decide (len = 2 ∧ v = .int (Int8.ofInt n).toInt32 ∧ nx = pc + 2)
      | .sipush n => decide (len = 3 ∧ v = .int (Int16.ofInt n).toInt32 ∧ nx = pc + 3)
      | .lconst n => decide (len = 1 ∧ v = .long (Int64.ofNat (n : Nat)) ∧ nx = pc + 1)
      | .aconst_null => decide (len = 1 ∧ v = .null ∧ nx = pc + 1)
      | .ldc i => match v with
        | .int z => decide (len = 2 ∧ nx = pc + 2 ∧ (oc m, i, z) ∈ CI)
        | .ref a => decide (len = 2 ∧ nx = pc + 2 ∧ 100000 ≤ a ∧ (oc m, i, a - 100000) ∈ CS)
        | _ => false
      | .ldc_w i => match v with
        | .int z => decide (len = 3 ∧ nx = pc + 3 ∧ (oc m, i, z) ∈ CI)
        | .ref a => decide (len = 3 ∧ nx = pc + 3 ∧ 100000 ≤ a ∧ (oc m, i, a - 100000) ∈ CS)
        | _ => false
      | .ldc2_w i => match v with
        | .long z => decide (len = 3 ∧ nx = pc + 3 ∧ (oc m, i, z) ∈ CJ)
        | _ => false
      | _ => false
    | .inr i => match i with
      | .iload k => match ri with
        | .iload_n n => decide (len = 1 ∧ (n : Nat) = k ∧ nx = pc + 1)
        | .iload n => decide (len = 2 ∧ n = k ∧ nx = pc + 2)
        | _ => false
      | .lload k => match ri with
        | .lload_n n => decide (len = 1 ∧ (n : Nat) = k ∧ nx = pc + 1)
        | .lload n => decide (len = 2 ∧ n = k ∧ nx = pc + 2)
        | _ => false
      | .aload k => match ri with
        | .aload_n n => decide (len = 1 ∧ (n : Nat) = k ∧ nx = pc + 1)
        | .aload n => decide (len = 2 ∧ n = k ∧ nx = pc + 2)
        | _ => false
      | .istore k => match ri with
        | .istore_n n => decide (len = 1 ∧ (n : Nat) = k ∧ nx = pc + 1)
        | .istore n => decide (len = 2 ∧ n = k ∧ nx = pc + 2)
        | _ => false
      | .lstore k => match ri with
        | .lstore_n n => decide (len = 1 ∧ (n : Nat) = k ∧ nx = pc + 1)
        | .lstore n => decide (len = 2 ∧ n = k ∧ nx = pc + 2)
        | _ => false
      | .astore k => match ri with
        | .astore_n n => decide (len = 1 ∧ (n : Nat) = k ∧ nx = pc + 1)
        | .astore n => decide (len = 2 ∧ n = k ∧ nx = pc + 2)
        | _ => false
      | .iinc k n => decide (ri = .iinc k n ∧ len = 3 ∧ nx = pc + 3)
      | .goto t => match ri with
        | .goto o => decide (len = 3 ∧ (pc : Int) + o = t ∧ 0 ≤ t)
        | _ => false
      | .ifCond c t => match ri with
        | .ifCond c' o => decide (len = 3 ∧ c' = c ∧ (pc : Int) + o = t ∧ 0 ≤ t ∧ nx = pc + 3)
        | _ => false
      | .if_icmp c t => match ri with
        | .if_icmp c' o => decide (len = 3 ∧ c' = c ∧ (pc : Int) + o = t ∧ 0 ≤ t ∧ nx = pc + 3)
        | _ => false
      | .ifnull t => match ri with
        | .ifnull o => decide (len = 3 ∧ (pc : Int) + o = t ∧ 0 ≤ t ∧ nx = pc + 3)
        | _ => false
      | .ifnonnull t => match ri with
        | .ifnonnull o => decide (len = 3 ∧ (pc : Int) + o = t ∧ 0 ≤ t ∧ nx = pc + 3)
        | _ => false
      | .tableswitch d a b ts => match ri with
        | .tableswitch o a' b' os => decide (a' = a ∧ b' = b ∧ (pc : Int) + o = d ∧ 0 ≤ d ∧ ts = os.map (fun z => (pc : Int) + z) ∧ ∀ z ∈ os, 0 ≤ (pc : Int) + z)
        | _ => false
      | .lookupswitch d qs => match ri with
        | .lookupswitch o ps => decide ((pc : Int) + o = d ∧ 0 ≤ d ∧ qs = ps.map (fun z => (z.1, (pc : Int) + z.2)) ∧ (∀ z ∈ ps, 0 ≤ (pc : Int) + z.2) ∧ (ps.toList.zip (ps.toList.drop 1)).all (fun (a, next) => a.1 < next.1) = true)
        | _ => false
      | .getfield n => match ri with
        | .getfield j => decide (len = 3 ∧ nx = pc + 3 ∧ (oc m, j, n) ∈ FL)
        | _ => false
      | .putfield n => match ri with
        | .putfield j => decide (len = 3 ∧ nx = pc + 3 ∧ (oc m, ini m, j, n) ∈ FP)
        | _ => false
      | .caload => decide (m = 0 ∧ ri = .arraylength ∧ len = 1 ∧ nx = pc + 1)
      | .saload => decide (m = 0 ∧ ri = .iaload ∧ len = 1 ∧ nx = pc + 1)
      | .new c => match ri with
        | .new j => decide (len = 3 ∧ nx = pc + 3 ∧ (oc m, j, c) ∈ NW)
        | _ => false
      | .newarray t => decide (ri = .newarray t ∧ len = 2 ∧ nx = pc + 2 ∧ pm_at t ∈ AT)
      | .anewarray c => match ri with
        | .anewarray j => decide (len = 3 ∧ nx = pc + 3 ∧ (oc m, j, c) ∈ AW)
        | _ => false
      | .invokestatic k => match ri with
        | .invokestatic j => decide (len = 3 ∧ nx = pc + 3) && ((decide (k = 9000) && decide ((oc m, j) ∈ AC) && decide (1 ≤ fr m ∧ 8 + (nativeFrameWords "java/lang/System" "arraycopy" 5 + 11) ≤ lo m)) || (decide (0 < k ∧ k < 9000) && decide ((oc m, j, k) ∈ ML) && decide (k ∈ ST) && decide (fr k + 1 ≤ fr m ∧ 8 + (pm_mxl P k + 11) + lo k ≤ lo m)))
        | _ => false
      | .invokespecial k => match ri with
        | .invokespecial j => decide (len = 3 ∧ nx = pc + 3) && ((decide (k = 9003) && decide ((oc m, j) ∈ OI) && decide (1 ≤ fr m ∧ 20 ≤ lo m)) || (decide (0 < k ∧ k < 9000) && decide ((oc m, j, k) ∈ ML) && decide (k ∈ SP) && decide (fr k + 1 ≤ fr m ∧ 8 + (pm_mxl P k + 11) + lo k ≤ lo m)))
        | _ => false
      | .invokevirtual k => match ri with
        | .invokevirtual j => decide (len = 3 ∧ nx = pc + 3) && ((decide (9000 < k ∧ k < 9003) && decide ((oc m, j, k) ∈ ML) && decide (fr k + 1 ≤ fr m ∧ 8 + (pm_mxl P k + 11) + lo k ≤ lo m)) || (decide (0 < k ∧ k < 9000) && decide ((oc m, j, k) ∈ ML) && decide (k ∈ VI) && decide (fr k + 1 ≤ fr m ∧ 8 + (pm_mxl P k + 11) + lo k ≤ lo m)))
        | _ => false
      | i => decide (ri = i ∧ len = 1 ∧ nx = pc + 1)
variable {P byt fr lo oc ini FL FP ML ST VI SP NW AW AT CI CJ CS OI AC}
variable {tbl : List Jvm.Cond} {yN : Nat → MethodName} {rT : Nat → Option FieldType} {cl : List vw_C} {strs : List (String × Nat × Nat)} {nst : List Jvm.Cond} (cn : Nat → String)
/-- what a method that is called has in the tables -/
def pm_kf (P : pm_P) (tbl : List Jvm.Cond) (yN : Nat → MethodName) (byt : Nat → ByteArray) (rT : Nat → Option FieldType) (k n : Nat) : Prop := Jvm.Cond.initialized (yN k).cls ∈ tbl ∧ Jvm.Cond.code (yN k) (byt k) (pm_mxl P k) (rT k) ∈ tbl ∧ ((yN k).cls ≠ "java/lang/invoke/MethodHandle" ∧ (yN k).cls ≠ "java/lang/invoke/VarHandle" ∧ (parseMethodDescriptor (yN k).desc).map (fun d => d.parameters.length) = some n)
set_option maxHeartbeats 8000000 in
theorem pm_chk_ok {m pc nx : Nat} {x : pm_I} (hcn : (yN m).cls = cn (oc m)) (hini : ini m = true → (yN m).name = "<init>")
    (hFL : ∀ q ∈ FL, pm_fl P tbl cl nst (cn q.1) q.2.1 (q.2.2 / 64) (q.2.2 % 64)) (hFP : ∀ q ∈ FP, ∀ nm, (q.2.1 = true → nm = "<init>") → pm_fp P tbl cl nst (cn q.1) nm q.2.2.1 (q.2.2.2 / 64) (q.2.2.2 % 64))
    (hML : ∀ q ∈ ML, pm_lk1 tbl yN nst (cn q.1) q.2.1 q.2.2) (hMS : ∀ q ∈ ML, 9000 < q.2.2 → Jvm.Cond.methodLink (cn q.1) q.2.1 (yN q.2.2) ∈ tbl)
    (hST : ∀ k ∈ ST, pm_kf P tbl yN byt rT k (pm_nar P k) ∧ Jvm.Cond.static (yN k) ∈ tbl ∧ pm_me P yN rT k)
    (hVI : ∀ k ∈ VI, pm_kf P tbl yN byt rT k (pm_nar P k - 1) ∧ Jvm.Cond.instanceMethod (yN k) ∈ tbl ∧ Jvm.Cond.selects (yN k).cls (yN k) (yN k) ∈ tbl ∧ (∃ (T : u_T) (N : Nat), cl[pm_rcv P k]? = some ((yN k).cls, T, N)) ∧ pm_me P yN rT k)
    (hSP : ∀ k ∈ SP, pm_kf P tbl yN byt rT k (pm_nar P k - 1) ∧ Jvm.Cond.instanceMethod (yN k) ∈ tbl ∧ (yN k).name = "<init>" ∧ rT k = none ∧ pm_me P yN rT k)
    (hSM : ∀ k, 9000 < k → k < 9003 → pm_kf P tbl yN byt rT k (k - 9001) ∧ Jvm.Cond.instanceMethod (yN k) ∈ tbl ∧ Jvm.Cond.selects (yN k).cls (yN k) (yN k) ∈ tbl ∧ (yN k).cls = "java/lang/String")
    (hNW : ∀ q ∈ NW, ∃ (C : String) (T : u_T) (N : Nat) (ty : Nat → FieldType), pm_Cls P tbl cl q.2.2 C T N ty ∧ Jvm.Cond.classLink (cn q.1) q.2.1 C ∈ tbl ∧ Jvm.Cond.instantiable C N ∈ tbl ∧ Jvm.Cond.initialized C ∈ tbl)
    (hAW : ∀ q ∈ AW, ∃ (C : String) (T : u_T) (N : Nat), cl[q.2.2]? = some (C, T, N) ∧ Jvm.Cond.classLink (cn q.1) q.2.1 C ∈ tbl ∧ Jvm.Cond.arrayOver (.object C) ∈ nst)
    (hAT : ∀ t : ArrayType, pm_at t ∈ AT → Jvm.Cond.arrayClass (newarray.typeOf t) ∈ tbl) (hCI : ∀ q ∈ CI, Jvm.Cond.constant (cn q.1) q.2.1 q.2.2 ∈ tbl) (hCJ : ∀ q ∈ CJ, Jvm.Cond.constantLong (cn q.1) q.2.1 q.2.2 ∈ tbl) (hCS : ∀ q ∈ CS, (cn q.1, q.2.1, q.2.2) ∈ strs)
    (hOI : ∀ q ∈ OI, Jvm.Cond.methodLink (cn q.1) q.2 objectInit ∈ tbl ∧ Jvm.Cond.instanceMethod objectInit ∈ tbl ∧ Jvm.Cond.code objectInit ⟨#[0xb1]⟩ 1 none ∈ tbl)
    (hAC : ∀ q ∈ AC, Jvm.Cond.methodLink (cn q.1) q.2 arraycopyName ∈ tbl ∧ Jvm.Cond.native arraycopyName ∈ tbl ∧ Jvm.Cond.static arraycopyName ∈ tbl ∧ Jvm.Cond.initialized "java/lang/System" ∈ tbl)
    (h : pm_chk P byt fr lo oc ini FL FP ML ST VI SP NW AW AT CI CJ CS OI AC m pc x nx = true) : pm_Ad P tbl yN byt rT fr lo cl strs nst m pc x nx := by
  unfold pm_chk at h
  split at h
  · cases h
  · rename_i ri len hdec
    split at h
    · rename_i v
      split at h
      · obtain ⟨rfl, h2, h3⟩ := of_decide_eq_true h
        exact Or.inl ⟨_, hdec, h2, h3⟩
      · obtain ⟨rfl, h2, h3⟩ := of_decide_eq_true h
        exact Or.inr (Or.inl ⟨_, hdec, h2, h3⟩)
      · obtain ⟨rfl, h2, h3⟩ := of_decide_eq_true h
        exact Or.inr (Or.inr (Or.inl ⟨_, hdec, h2, h3⟩))
      · obtain ⟨rfl, h2, h3⟩ := of_decide_eq_true h
        exact Or.inr (Or.inr (Or.inr (Or.inl ⟨_, hdec, h2, h3⟩)))
      · obtain ⟨rfl, h2, h3⟩ := of_decide_eq_true h
        exact Or.inr (Or.inr (Or.inr (Or.inr (Or.inl ⟨hdec, h2, h3⟩))))
      · split at h
        · obtain ⟨rfl, h2, h3⟩ := of_decide_eq_true h
          exact Or.inr (Or.inr (Or.inr (Or.inr (Or.inr (Or.inl ⟨_, _, hdec, rfl, h2, by rw [hcn]; exact hCI _ h3⟩)))))
        · obtain ⟨rfl, h2, h3, h4⟩ := of_decide_eq_true h
          obtain ⟨j, rfl⟩ := Nat.exists_eq_add_of_le h3
          rw [Nat.add_sub_cancel_left] at h4
          exact Or.inr (Or.inr (Or.inr (Or.inr (Or.inr (Or.inr (Or.inr (Or.inr (Or.inl ⟨_, _, hdec, rfl, h2, by rw [hcn]; exact hCS _ h4⟩))))))))
        · cases h
      · split at h
        · obtain ⟨rfl, h2, h3⟩ := of_decide_eq_true h
          exact Or.inr (Or.inr (Or.inr (Or.inr (Or.inr (Or.inr (Or.inl ⟨_, _, hdec, rfl, h2, by rw [hcn]; exact hCI _ h3⟩))))))
        · obtain ⟨rfl, h2, h3, h4⟩ := of_decide_eq_true h
          obtain ⟨j, rfl⟩ := Nat.exists_eq_add_of_le h3
          rw [Nat.add_sub_cancel_left] at h4
          exact Or.inr (Or.inr (Or.inr (Or.inr (Or.inr (Or.inr (Or.inr (Or.inr (Or.inr ⟨_, _, hdec, rfl, h2, by rw [hcn]; exact hCS _ h4⟩))))))))
        · cases h
      · split at h
        · obtain ⟨rfl, h2, h3⟩ := of_decide_eq_true h
          exact Or.inr (Or.inr (Or.inr (Or.inr (Or.inr (Or.inr (Or.inr (Or.inl ⟨_, _, hdec, rfl, h2, by rw [hcn]; exact hCJ _ h3⟩)))))))
        · cases h
      · cases h
    · rename_i i
      split at h
      · split at h
        · obtain ⟨rfl, h2, h3⟩ := of_decide_eq_true h; exact Or.inl ⟨_, hdec, h2, h3⟩
        · obtain ⟨rfl, rfl, h3⟩ := of_decide_eq_true h; exact Or.inr ⟨hdec, h3⟩
        · cases h
      · split at h
        · obtain ⟨rfl, h2, h3⟩ := of_decide_eq_true h; exact Or.inl ⟨_, hdec, h2, h3⟩
        · obtain ⟨rfl, rfl, h3⟩ := of_decide_eq_true h; exact Or.inr ⟨hdec, h3⟩
        · cases h
      · split at h
        · obtain ⟨rfl, h2, h3⟩ := of_decide_eq_true h; exact Or.inl ⟨_, hdec, h2, h3⟩
        · obtain ⟨rfl, rfl, h3⟩ := of_decide_eq_true h; exact Or.inr ⟨hdec, h3⟩
        · cases h
      · split at h
        · obtain ⟨rfl, h2, h3⟩ := of_decide_eq_true h; exact Or.inl ⟨_, hdec, h2, h3⟩
        · obtain ⟨rfl, rfl, h3⟩ := of_decide_eq_true h; exact Or.inr ⟨hdec, h3⟩
        · cases h
      · split at h
        · obtain ⟨rfl, h2, h3⟩ := of_decide_eq_true h; exact Or.inl ⟨_, hdec, h2, h3⟩
        · obtain ⟨rfl, rfl, h3⟩ := of_decide_eq_true h; exact Or.inr ⟨hdec, h3⟩
        · cases h
      · split at h
        · obtain ⟨rfl, h2, h3⟩ := of_decide_eq_true h; exact Or.inl ⟨_, hdec, h2, h3⟩
        · obtain ⟨rfl, rfl, h3⟩ := of_decide_eq_true h; exact Or.inr ⟨hdec, h3⟩
        · cases h
      · obtain ⟨rfl, rfl, h3⟩ := of_decide_eq_true h; exact ⟨hdec, h3⟩
      · split at h
        · obtain ⟨rfl, h2, h3⟩ := of_decide_eq_true h; exact ⟨_, _, hdec, (Int.toNat_of_nonneg h3).symm, by rw [Int.toNat_of_nonneg h3]; exact h2⟩
        · cases h
      · split at h
        · obtain ⟨rfl, rfl, h2, h3, h4⟩ := of_decide_eq_true h; exact ⟨_, _, hdec, (Int.toNat_of_nonneg h3).symm, by rw [Int.toNat_of_nonneg h3]; exact h2, h4⟩
        · cases h
      · split at h
        · obtain ⟨rfl, rfl, h2, h3, h4⟩ := of_decide_eq_true h; exact ⟨_, _, hdec, (Int.toNat_of_nonneg h3).symm, by rw [Int.toNat_of_nonneg h3]; exact h2, h4⟩
        · cases h
      · split at h
        · obtain ⟨rfl, h2, h3, h4⟩ := of_decide_eq_true h; exact ⟨_, _, hdec, (Int.toNat_of_nonneg h3).symm, by rw [Int.toNat_of_nonneg h3]; exact h2, h4⟩
        · cases h
      · split at h
        · obtain ⟨rfl, h2, h3, h4⟩ := of_decide_eq_true h; exact ⟨_, _, hdec, (Int.toNat_of_nonneg h3).symm, by rw [Int.toNat_of_nonneg h3]; exact h2, h4⟩
        · cases h
      · split at h
        · obtain ⟨rfl, rfl, h2, h3, h4, h5⟩ := of_decide_eq_true h; exact ⟨_, _, _, _, hdec, (Int.toNat_of_nonneg h3).symm, by rw [Int.toNat_of_nonneg h3]; exact h2, h4, h5⟩
        · cases h
      · split at h
        · obtain ⟨h2, h3, h4, h5, h6⟩ := of_decide_eq_true h; exact ⟨_, _, _, _, hdec, (Int.toNat_of_nonneg h3).symm, by rw [Int.toNat_of_nonneg h3]; exact h2, h4, h5, h6⟩
        · cases h
      · split at h
        · obtain ⟨rfl, h2, h3⟩ := of_decide_eq_true h; exact ⟨_, hdec, h2, by rw [hcn]; exact hFL _ h3⟩
        · cases h
      · split at h
        · obtain ⟨rfl, h2, h3⟩ := of_decide_eq_true h; exact ⟨_, hdec, h2, by rw [hcn]; exact hFP _ h3 _ hini⟩
        · cases h
      · obtain ⟨rfl, rfl, rfl, h3⟩ := of_decide_eq_true h; exact ⟨rfl, hdec, h3⟩
      · obtain ⟨rfl, rfl, rfl, h3⟩ := of_decide_eq_true h; exact ⟨rfl, hdec, h3⟩
      · split at h
        · obtain ⟨rfl, h2, h3⟩ := of_decide_eq_true h
          obtain ⟨C, T, N, ty, g1, g2, g3, g4⟩ := hNW _ h3
          exact ⟨_, C, T, N, ty, hdec, h2, g1, by rw [hcn]; exact g2, g3, g4⟩
        · cases h
      · obtain ⟨rfl, rfl, h2, h3⟩ := of_decide_eq_true h; exact ⟨hdec, h2, hAT _ h3⟩
      · split at h
        · obtain ⟨rfl, h2, h3⟩ := of_decide_eq_true h
          obtain ⟨C, T, N, g1, g2, g3⟩ := hAW _ h3
          exact ⟨_, C, T, N, hdec, h2, g1, by rw [hcn]; exact g2, g3⟩
        · cases h
      · split at h
        · rename_i k j
          simp only [Bool.and_eq_true, Bool.or_eq_true, decide_eq_true_eq] at h
          obtain ⟨⟨rfl, h2⟩, h3⟩ := h
          refine ⟨h2, ?_⟩
          rcases h3 with ⟨⟨rfl, g1⟩, g2⟩ | ⟨⟨⟨g0, g1⟩, g2⟩, g3⟩
          · obtain ⟨a1, a2, a3, a4⟩ := hAC _ g1
            exact Or.inl ⟨rfl, _, hdec, by rw [hcn]; exact a1, a2, a3, a4, g2.1, g2.2⟩
          · obtain ⟨⟨b1, b2, b3⟩, b4, b5⟩ := hST _ g2
            exact Or.inr ⟨g0.2, _, hdec, by rw [hcn]; exact hML _ g1, ⟨b1, b2, b3, g0.1, g3.1, g3.2⟩, b4, b5⟩
        · cases h
      · split at h
        · rename_i k j
          simp only [Bool.and_eq_true, Bool.or_eq_true, decide_eq_true_eq] at h
          obtain ⟨⟨rfl, h2⟩, h3⟩ := h
          refine ⟨h2, ?_⟩
          rcases h3 with ⟨⟨rfl, g1⟩, g2⟩ | ⟨⟨⟨g0, g1⟩, g2⟩, g3⟩
          · obtain ⟨a1, a2, a3⟩ := hOI _ g1
            exact Or.inl ⟨rfl, _, hdec, by rw [hcn]; exact a1, a2, a3, g2.1, g2.2⟩
          · obtain ⟨⟨b1, b2, b3⟩, b4, b5, b6, b7⟩ := hSP _ g2
            exact Or.inr ⟨g0.2, _, hdec, by rw [hcn]; exact hML _ g1, ⟨b1, b2, b3, g0.1, g3.1, g3.2⟩, b4, b5, b6, b7⟩
        · cases h
      · split at h
        · rename_i k j
          simp only [Bool.and_eq_true, Bool.or_eq_true, decide_eq_true_eq] at h
          obtain ⟨⟨rfl, h2⟩, h3⟩ := h
          refine ⟨h2, ?_⟩
          rcases h3 with ⟨⟨g0, g1⟩, g3⟩ | ⟨⟨⟨g0, g1⟩, g2⟩, g3⟩
          · obtain ⟨⟨b1, b2, b3⟩, b4, b5, b6⟩ := hSM _ g0.1 g0.2
            exact Or.inl ⟨g0.1, g0.2, _, hdec, by rw [hcn]; exact hMS _ g1 g0.1, ⟨b1, b2, b3, by omega, g3.1, g3.2⟩, b4, b5, b6⟩
          · obtain ⟨⟨b1, b2, b3⟩, b4, b5, b6, b7⟩ := hVI _ g2
            exact Or.inr ⟨g0.2, _, hdec, by rw [hcn]; exact hML _ g1, ⟨b1, b2, b3, g0.1, g3.1, g3.2⟩, b4, b5, b6, b7⟩
        · cases h
      · obtain ⟨rfl, rfl, h3⟩ := of_decide_eq_true h
        unfold pm_Ad
        dsimp only
        split
        all_goals first | (exact ⟨hdec, h3⟩; done) | skip
        all_goals (clear hFL hFP hML hMS hST hVI hSP hSM hNW hAW hAT hCI hCJ hCS hOI hAC hcn hini hdec; exfalso; first | (simp_all; done) | solve_by_elim)
end CHK
end
