/-! A RUN OVER AN UNKNOWN HEAP, fifth: longs, and all that the stack alone does -/
def sx_opL (i : Instr) (x y : Int64) : Int64 := match i with
  | .ladd => x + y
  | .lsub => x - y
  | .lmul => x * y
  | .land => x &&& y
  | .ldiv => x / y
  | _ => x - x / y * y
def sx_is2L (i : Instr) : Bool := match i with
  | .ladd => true
  | .lsub => true
  | .lmul => true
  | .land => true
  | .ldiv => true
  | .lrem => true
  | _ => false
def sx_isdL (i : Instr) : Bool := match i with
  | .ldiv => true
  | .lrem => true
  | _ => false
theorem sx_is2L_ok {i : Instr} (h : sx_is2L i = true) (x y : Int64) (hd : sx_isdL i = true → ¬ y = 0) (r : List Value) : pm_ar i (.long y :: .long x :: r) = some (.long (sx_opL i x y) :: r) := by
  unfold sx_is2L at h
  split at h
  · rfl
  · rfl
  · rfl
  · rfl
  · simp only [pm_ar, if_neg (hd rfl), sx_opL]
  · simp only [pm_ar, if_neg (hd rfl), sx_opL]
  · cases h
def sx_czL (a : Int × Int) : Int × Int := bif sx_w a sx_ln sx_lx then a else (sx_ln, sx_lx)
theorem sx_czL_ok {a : Int × Int} {z : Int} {y : Int64} (h : y.toInt = z.bmod (2 ^ 64)) (h1 : a.1 ≤ z) (h2 : z ≤ a.2) : (sx_czL a).1 ≤ y.toInt ∧ y.toInt ≤ (sx_czL a).2 := by
  unfold sx_czL
  cases e : sx_w a sx_ln sx_lx with
  | false => exact sx_rngL y
  | true =>
    have e' := sx_w_ok e
    rw [h, sx_bmL (by omega) (by omega)]
    exact ⟨h1, h2⟩
def sx_ivL (i : Instr) (a b : Int × Int) : Int × Int := match i with
  | .ladd => sx_czL (a.1 + b.1, a.2 + b.2)
  | .lsub => sx_czL (a.1 - b.2, a.2 - b.1)
  | .lmul => bif decide (0 ≤ a.1) && decide (0 ≤ b.1) then sx_czL (a.1 * b.1, a.2 * b.2) else (sx_ln, sx_lx)
  | .lrem => bif decide (1 ≤ b.1) && decide (0 ≤ a.1) then (0, min a.2 (b.2 - 1)) else (sx_ln, sx_lx)
  | .ldiv => bif decide (0 ≤ a.1) && decide (1 ≤ b.1) then (0, a.2 / b.1) else (sx_ln, sx_lx)
  | .land => bif decide (0 ≤ b.1) then (0, b.2) else (sx_ln, sx_lx)
  | _ => (sx_ln, sx_lx)
theorem sx_remL (x y : Int64) : x - x / y * y = x % y := by
  by_cases h : x = Int64.minValue ∧ y = -1
  · obtain ⟨rfl, rfl⟩ := h
    decide
  · have hd : (x / y).toInt = x.toInt.tdiv y.toInt := by
      by_cases h1 : x = Int64.minValue
      · exact Int64.toInt_div_of_ne_right x y (fun q => h ⟨h1, q⟩)
      · exact Int64.toInt_div_of_ne_left x y h1
    apply Int64.toInt_inj.mp
    rw [Int64.toInt_sub, Int64.toInt_mul, hd, Int64.toInt_mod, Int.sub_bmod_bmod]
    have e : x.toInt - x.toInt.tdiv y.toInt * y.toInt = x.toInt.tmod y.toInt := by
      have := Int.tmod_add_mul_tdiv x.toInt y.toInt
      rw [Int.mul_comm] at this
      omega
    rw [e, ← Int64.toInt_mod]
    exact sx_bmL (sx_rngL _).1 (sx_rngL _).2
theorem sx_andL_ok {x y : Int64} (h : 0 ≤ y.toInt) : 0 ≤ (x &&& y).toInt ∧ (x &&& y).toInt ≤ y.toInt := by
  have e1 : (x &&& y).toInt = (x &&& y).toBitVec.toInt := rfl
  have e2 : y.toInt = y.toBitVec.toInt := rfl
  have hm : y.toBitVec.msb = false := by
    rw [e2] at h
    rw [BitVec.msb_eq_toInt, decide_eq_false_iff_not]
    omega
  have hm2 : (x &&& y).toBitVec.msb = false := by
    rw [Int64.toBitVec_and, BitVec.msb_and, hm, Bool.and_false]
  rw [e1, e2, BitVec.toInt_eq_toNat_of_msb hm2, BitVec.toInt_eq_toNat_of_msb hm, Int64.toBitVec_and, BitVec.toNat_and]
  exact ⟨by omega, by have := @Nat.and_le_right x.toBitVec.toNat y.toBitVec.toNat; omega⟩
theorem sx_ivL_ok (i : Instr) {a b : Int × Int} {x y : Int64} (h1 : a.1 ≤ x.toInt) (h2 : x.toInt ≤ a.2) (h3 : b.1 ≤ y.toInt) (h4 : y.toInt ≤ b.2) (hi : sx_is2L i = true) : (sx_ivL i a b).1 ≤ (sx_opL i x y).toInt ∧ (sx_opL i x y).toInt ≤ (sx_ivL i a b).2 := by
  unfold sx_ivL
  split
  · exact sx_czL_ok (Int64.toInt_add x y) (by show a.1 + b.1 ≤ _; omega) (by show _ ≤ a.2 + b.2; omega)
  · exact sx_czL_ok (Int64.toInt_sub x y) (by show a.1 - b.2 ≤ _; omega) (by show _ ≤ a.2 - b.1; omega)
  · cases e : decide (0 ≤ a.1) && decide (0 ≤ b.1) with
    | false => exact sx_rngL _
    | true =>
      rw [Bool.and_eq_true, decide_eq_true_iff, decide_eq_true_iff] at e
      exact sx_czL_ok (Int64.toInt_mul x y) (sx_mul_le e.1 e.2 h1 h3) (sx_mul_le (by omega) (by omega) h2 h4)
  · cases e : decide (1 ≤ b.1) && decide (0 ≤ a.1) with
    | false => exact sx_rngL _
    | true =>
      rw [Bool.and_eq_true, decide_eq_true_iff, decide_eq_true_iff] at e
      show 0 ≤ (x - x / y * y).toInt ∧ (x - x / y * y).toInt ≤ min a.2 (b.2 - 1)
      rw [sx_remL, Int64.toInt_mod]
      have q1 := Int.tmod_nonneg y.toInt (show 0 ≤ x.toInt by omega)
      have q2 := Int.tmod_lt_of_pos x.toInt (show 0 < y.toInt by omega)
      have q3 : x.toInt.tmod y.toInt ≤ x.toInt := by
        rw [Int.tmod_eq_emod_of_nonneg (show 0 ≤ x.toInt by omega)]
        have w1 := Int.mul_ediv_add_emod x.toInt y.toInt
        have w2 : 0 ≤ y.toInt * (x.toInt / y.toInt) := Int.mul_nonneg (by omega) (Int.ediv_nonneg (by omega) (by omega))
        omega
      exact ⟨q1, by omega⟩
  · cases e : decide (0 ≤ a.1) && decide (1 ≤ b.1) with
    | false => exact sx_rngL _
    | true =>
      rw [Bool.and_eq_true, decide_eq_true_iff, decide_eq_true_iff] at e
      show (0 : Int) ≤ (x / y).toInt ∧ (x / y).toInt ≤ a.2 / b.1
      rw [Int64.toInt_div]
      have q0 : x.toInt.tdiv y.toInt = x.toInt / y.toInt := Int.tdiv_eq_ediv_of_nonneg (by omega)
      have q1 : 0 ≤ x.toInt / y.toInt := Int.ediv_nonneg (by omega) (by omega)
      have q2 : x.toInt / y.toInt ≤ x.toInt := Int.ediv_le_self _ (by omega)
      have q3 : x.toInt / y.toInt ≤ a.2 / b.1 := by
        apply Int.le_ediv_of_mul_le (by omega)
        have r1 : x.toInt / y.toInt * y.toInt ≤ x.toInt := Int.ediv_mul_le _ (by omega)
        have r2 : x.toInt / y.toInt * b.1 ≤ x.toInt / y.toInt * y.toInt := Int.mul_le_mul_of_nonneg_left h3 q1
        omega
      have hx := sx_rngL x
      rw [q0, sx_bmL (by unfold sx_ln; omega) (by omega)]
      exact ⟨q1, q3⟩
  · cases e : decide (0 ≤ b.1) with
    | false => exact sx_rngL _
    | true =>
      have e := of_decide_eq_true e
      have := sx_andL_ok (x := x) (y := y) (by omega)
      exact ⟨this.1, by show _ ≤ b.2; exact Int.le_trans this.2 h4⟩
  · exact sx_rngL _
/-- a long as what is compared -/
def sx_lv (v : sx_V) : Option (Int ⊕ Nat) := match v with
  | .inl (.long x) => some (.inl x.toInt)
  | .inr (.inr (.inl i)) => some (.inr i)
  | _ => none
theorem sx_lv_ok {tg : Nat → Nat} {ρ : List Int} {v : sx_V} {q : Int ⊕ Nat} (h : sx_lv v = some q) {w : Value} (e : sx_ev tg ρ v = some w) : ∃ z, sx_lo ρ q = some z ∧ w = .long (Int64.ofInt z) := by
  unfold sx_lv at h
  split at h
  · rename_i x
    cases h
    exact ⟨x.toInt, rfl, by rw [Int64.ofInt_toInt]; exact (sx_evl e).symm⟩
  · rename_i i
    cases h
    exact sx_evj e
  · cases h
def sx_lvi (σ : sx_S) (v : sx_V) : Option (Int × Int) := match sx_lv v with
  | some q => match sx_li σ q with
    | some b => some b
    | none => some (sx_ln, sx_lx)
  | none => none
theorem sx_lvi_ok {tg : Nat → Nat} {ρ : List Int} {σ : sx_S} (hρ : sx_in ρ σ) {v : sx_V} {b : Int × Int} (h : sx_lvi σ v = some b) {w : Value} (e : sx_ev tg ρ v = some w) : ∃ x, w = .long x ∧ b.1 ≤ x.toInt ∧ x.toInt ≤ b.2 := by
  unfold sx_lvi at h
  split at h
  · rename_i q hq
    obtain ⟨z, g1, rfl⟩ := sx_lv_ok hq e
    refine ⟨_, rfl, ?_⟩
    split at h
    · rename_i b' hb
      cases h
      obtain ⟨k1, k2⟩ := sx_li_ok hρ hb g1
      rw [k2]
      exact k1
    · cases h
      exact sx_rngL _
  · cases h
/-- two longs -/
def sx_a2L (σ : sx_S) (n : Nat) (i : Instr) (y x : sx_V) : Option (sx_V × sx_S × Nat) := match sx_lvi σ x with
  | some a => match sx_lvi σ y with
    | some b => bif sx_isdL i && !decide (1 ≤ b.1) then none else some (.inr (.inr (.inl n)), sx_nw σ n (sx_ivL i a b), n + 1)
    | none => none
  | none => none
theorem sx_a2L_ok {tg : Nat → Nat} {ρ : List Int} {σ σ' : sx_S} {n n' : Nat} (hn : ρ.length = n) (hρ : sx_in ρ σ) {i : Instr} (hi : sx_is2L i = true) {y x z : sx_V} (h : sx_a2L σ n i y x = some (z, σ', n')) {wx wy : Value} (hx : sx_ev tg ρ x = some wx) (hy : sx_ev tg ρ y = some wy) :
    ∃ e a b, (ρ ++ e).length = n' ∧ sx_in (ρ ++ e) σ' ∧ wx = .long a ∧ wy = .long b ∧ (sx_isdL i = true → ¬ b = 0) ∧ sx_ev tg (ρ ++ e) z = some (.long (sx_opL i a b)) := by
  unfold sx_a2L at h
  split at h
  · rename_i p hp
    split at h
    · rename_i q hq
      cases hd : sx_isdL i && !decide (1 ≤ q.1) with
      | true => rw [hd] at h; cases h
      | false =>
        rw [hd, sx_nw_eq] at h
        cases h
        obtain ⟨a, rfl, g1⟩ := sx_lvi_ok hρ hp hx
        obtain ⟨b, rfl, g2⟩ := sx_lvi_ok hρ hq hy
        obtain ⟨k1, k2⟩ := sx_newL (tg := tg) hρ (sx_opL i a b) (sx_ivL_ok i g1.1 g1.2 g2.1 g2.2 hi)
        rw [hn] at k1 k2
        refine ⟨[(sx_opL i a b).toInt], a, b, by rw [List.length_append, hn]; rfl, k1, rfl, rfl, fun hs => ?_, k2⟩
        rw [hs, Bool.true_and, Bool.not_eq_false', decide_eq_true_iff] at hd
        intro q0
        rw [q0] at g2
        have : (0 : Int64).toInt = 0 := rfl
        omega
    · cases h
  · cases h
def sx_cat (v : sx_V) : Nat := match v with
  | .inl w => w.category
  | .inr (.inr (.inl _)) => 2
  | _ => 1
theorem sx_cat_ok {tg : Nat → Nat} {ρ : List Int} {v : sx_V} {w : Value} (e : sx_ev tg ρ v = some w) : w.category = sx_cat v := by
  rcases v with v | ⟨i, c⟩ | i | ⟨p, q⟩ | ⟨i, t⟩
  · rw [← sx_evl e]; rfl
  · obtain ⟨z, _, rfl⟩ := sx_evi e; rfl
  · obtain ⟨z, _, rfl⟩ := sx_evj e; rfl
  · obtain ⟨a, b, _, _, rfl⟩ := sx_evc e; rfl
  · obtain ⟨z, _, _, rfl⟩ := sx_evr e; rfl
/-- the stack alone: stack, bounds, how many variables -/
def sx_ar (σ : sx_S) (n : Nat) (ν : List Nat) (i : Instr) (st : List sx_V) : Option (List sx_V × sx_S × Nat) :=
  bif sx_is2 i then match st with
    | y :: x :: r => match sx_a2 σ n ν i y x with
      | some (z, σ', n') => some (z :: r, σ', n')
      | none => none
    | _ => none
  else bif sx_is2L i then match st with
    | y :: x :: r => match sx_a2L σ n i y x with
      | some (z, σ', n') => some (z :: r, σ', n')
      | none => none
    | _ => none
  else match i with
  | .ineg => match st with
    | x :: r => match sx_vi σ x with
      | some b => some (.inr (.inl (n, 0)) :: r, sx_nw σ n (sx_cz (-b.2, -b.1)), n + 1)
      | none => none
    | _ => none
  | .i2b => match st with
    | x :: r => match sx_vi σ x with
      | some _ => some (.inr (.inl (n, 0)) :: r, sx_nw σ n (-128, 127), n + 1)
      | none => none
    | _ => none
  | .i2l => match st with
    | .inr (.inl (j, .ofNat 0)) :: r => match sx_b σ j with
      | some b => bif sx_w b sx_mn sx_mx then some (.inr (.inr (.inl j)) :: r, σ, n) else none
      | none => none
    | x :: r => match sx_vi σ x with
      | some b => some (.inr (.inr (.inl n)) :: r, sx_nw σ n b, n + 1)
      | none => none
    | _ => none
  | .l2i => match st with
    | .inr (.inr (.inl j)) :: r => match sx_b σ j with
      | some b => bif sx_w b sx_mn sx_mx then some (.inr (.inl (j, 0)) :: r, σ, n) else some (.inr (.inl (n, 0)) :: r, sx_nw σ n (sx_mn, sx_mx), n + 1)
      | none => none
    | _ => none
  | .lshr => match st with
    | y :: x :: r => bif sx_isI y && sx_isL x then some (.inr (.inr (.inl n)) :: r, sx_nw σ n (sx_ln, sx_lx), n + 1) else none
    | _ => none
  | .lcmp => match st with
    | y :: x :: r => match sx_lv y with
      | some q => match sx_lv x with
        | some p => some (.inr (.inr (.inr (.inl (p, q)))) :: r, σ, n)
        | none => none
      | none => none
    | _ => none
  | .dup => match st with
    | v :: r => bif Nat.beq (sx_cat v) 1 then some (v :: v :: r, σ, n) else none
    | _ => none
  | .pop => match st with
    | v :: r => bif Nat.beq (sx_cat v) 1 then some (r, σ, n) else none
    | _ => none
  | .pop2 => match st with
    | v :: r => bif Nat.beq (sx_cat v) 2 then some (r, σ, n) else none
    | _ => none
  | .dup2 => match st with
    | v :: r => bif Nat.beq (sx_cat v) 2 then some (v :: v :: r, σ, n) else bif Nat.beq (sx_cat v) 1 then (match r with
      | w :: r => bif Nat.beq (sx_cat w) 1 then some (v :: w :: v :: w :: r, σ, n) else none
      | _ => none) else none
    | _ => none
  | _ => none
theorem sx_no2 {i : Instr} (h : sx_is2 i = true ∨ sx_is2L i = true) (lv st : List Value) (rt : Nat) (P : pm_P) (hh : pm_H) : pm_lo i lv st = none ∧ pm_re rt i st = none ∧ pm_ca P i st hh = none := by
  rcases h with h | h
  · unfold sx_is2 at h
    split at h
    all_goals first | exact ⟨rfl, rfl, rfl⟩ | cases h
  · unfold sx_is2L at h
    split at h
    all_goals first | exact ⟨rfl, rfl, rfl⟩ | cases h
theorem sx_ar_ok {tg : Nat → Nat} {ρ : List Int} {σ σ' : sx_S} {n n' : Nat} {ν : List Nat} (hn : ρ.length = n) (hρ : sx_in ρ σ) (hν : sx_nz ρ ν) {i : Instr} {st st' : List sx_V} (h : sx_ar σ n ν i st = some (st', σ', n')) {sc : List Value} (hs : sx_R tg ρ st sc) (lv : List Value) (rt : Nat) (P : pm_P) (hh : pm_H) :
    ∃ e sc', (ρ ++ e).length = n' ∧ sx_in (ρ ++ e) σ' ∧ pm_ar i sc = some sc' ∧ sx_R tg (ρ ++ e) st' sc' ∧ pm_lo i lv sc = none ∧ pm_re rt i sc = none ∧ pm_ca P i sc hh = none := by
  have h0 : (ρ ++ []).length = n := by rw [List.append_nil]; exact hn
  have h1 : sx_in (ρ ++ []) σ := by rw [List.append_nil]; exact hρ
  unfold sx_ar at h
  cases e1 : sx_is2 i with
  | true =>
    rw [e1] at h
    simp only [cond_true] at h
    split at h
    · rename_i y x r
      split at h
      · rename_i z σ1 n1 hz
        cases h
        obtain ⟨wy, sc1, rfl, g1, g2⟩ := sx_R_cons hs
        obtain ⟨wx, sc2, rfl, g3, g4⟩ := sx_R_cons g2
        obtain ⟨e, a, b, k1, k2, rfl, rfl, k3, k4⟩ := sx_a2_ok hn hρ hν e1 hz g3 g1
        exact ⟨e, _, k1, k2, sx_is2_ok e1 a b k3 sc2, ⟨k4, sx_R_mono e g4⟩, sx_no2 (Or.inl e1) _ _ _ _ _⟩
      · cases h
    · cases h
  | false =>
    rw [e1] at h
    simp only [cond_false] at h
    cases e2 : sx_is2L i with
    | true =>
      rw [e2] at h
      simp only [cond_true] at h
      split at h
      · rename_i y x r
        split at h
        · rename_i z σ1 n1 hz
          cases h
          obtain ⟨wy, sc1, rfl, g1, g2⟩ := sx_R_cons hs
          obtain ⟨wx, sc2, rfl, g3, g4⟩ := sx_R_cons g2
          obtain ⟨e, a, b, k1, k2, rfl, rfl, k3, k4⟩ := sx_a2L_ok hn hρ e2 hz g3 g1
          exact ⟨e, _, k1, k2, sx_is2L_ok e2 a b k3 sc2, ⟨k4, sx_R_mono e g4⟩, sx_no2 (Or.inr e2) _ _ _ _ _⟩
        · cases h
      · cases h
    | false =>
      rw [e2] at h
      simp only [cond_false] at h
      split at h
      · split at h
        · rename_i x r
          split at h
          · rename_i b hb
            rw [sx_nw_eq] at h
            cases h
            obtain ⟨wx, sc1, rfl, g1, g2⟩ := sx_R_cons hs
            obtain ⟨a, rfl, g3⟩ := sx_vi_ok hρ hb g1
            have q := sx_cz_ok (a := (-b.2, -b.1)) (Int32.toInt_neg a) (by show -b.2 ≤ _; omega) (by show _ ≤ -b.1; omega)
            obtain ⟨k1, k2⟩ := sx_new (tg := tg) hρ (-a) q
            rw [hn] at k1 k2
            exact ⟨[(-a).toInt], _, by rw [List.length_append, hn]; rfl, k1, rfl, ⟨k2, sx_R_mono _ g2⟩, rfl, rfl, rfl⟩
          · cases h
        · cases h
      · split at h
        · rename_i x r
          split at h
          · rename_i b hb
            rw [sx_nw_eq] at h
            cases h
            obtain ⟨wx, sc1, rfl, g1, g2⟩ := sx_R_cons hs
            obtain ⟨a, rfl, g3⟩ := sx_vi_ok hρ hb g1
            have q : (-128 : Int) ≤ a.toInt8.toInt32.toInt ∧ a.toInt8.toInt32.toInt ≤ 127 := by
              rw [Int8.toInt_toInt32]
              have h2 := Int8.le_toInt a.toInt8
              have h3 := Int8.toInt_lt a.toInt8
              omega
            obtain ⟨k1, k2⟩ := sx_new (tg := tg) hρ a.toInt8.toInt32 q
            rw [hn] at k1 k2
            exact ⟨[a.toInt8.toInt32.toInt], _, by rw [List.length_append, hn]; rfl, k1, rfl, ⟨k2, sx_R_mono _ g2⟩, rfl, rfl, rfl⟩
          · cases h
        · cases h
      · split at h
        · rename_i j r
          split at h
          · rename_i b hb
            obtain ⟨q1, q2⟩ := sx_bif h
            cases q2
            obtain ⟨wx, sc1, rfl, g1, g2⟩ := sx_R_cons hs
            obtain ⟨z, g3, rfl⟩ := sx_evi g1
            have q3 := sx_w_ok q1
            have q4 := hρ j _ hb z g3
            refine ⟨[], _, h0, h1, rfl, ⟨?_, by rw [List.append_nil]; exact g2⟩, rfl, rfl, rfl⟩
            rw [List.append_nil, sx_evj' g3]
            have q5 : (Int32.ofInt (z + Int.ofNat 0)).toInt64 = Int64.ofInt z := by
              rw [show z + Int.ofNat 0 = z from Int.add_zero z]
              apply Int64.toInt_inj.mp
              rw [Int32.toInt_toInt64, sx_ofInt (by omega) (by omega), sx_ofIntL (by unfold sx_ln; unfold sx_mn at q3; omega) (by unfold sx_lx; unfold sx_mx at q3; omega)]
            rw [q5]
          · cases h
        · rename_i x r _
          split at h
          · rename_i b hb
            rw [sx_nw_eq] at h
            cases h
            obtain ⟨wx, sc1, rfl, g1, g2⟩ := sx_R_cons hs
            obtain ⟨a, rfl, g3⟩ := sx_vi_ok hρ hb g1
            obtain ⟨k1, k2⟩ := sx_newL (tg := tg) hρ a.toInt64 (lo := b.1) (hi := b.2) (by rw [Int32.toInt_toInt64]; exact g3)
            rw [hn] at k1 k2
            exact ⟨[a.toInt64.toInt], _, by rw [List.length_append, hn]; rfl, k1, rfl, ⟨k2, sx_R_mono _ g2⟩, rfl, rfl, rfl⟩
          · cases h
        · cases h
      · split at h
        · rename_i j r
          obtain ⟨wx, sc1, rfl, g1, g2⟩ := sx_R_cons hs
          obtain ⟨z, g3, rfl⟩ := sx_evj g1
          split at h
          · rename_i b hb
            cases q1 : sx_w b sx_mn sx_mx with
            | true =>
              rw [q1] at h
              cases h
              have q3 := sx_w_ok q1
              have q4 := hρ j _ hb z g3
              refine ⟨[], _, h0, h1, rfl, ⟨?_, by rw [List.append_nil]; exact g2⟩, rfl, rfl, rfl⟩
              rw [List.append_nil, sx_evi' g3]
              have q5 : (Int64.ofInt z).toInt32 = Int32.ofInt (z + 0) := by
                rw [Int.add_zero]
                apply Int32.toInt_inj.mp
                rw [Int64.toInt_toInt32, sx_ofInt (by omega) (by omega), sx_ofIntL (by unfold sx_ln; unfold sx_mn at q3; omega) (by unfold sx_lx; unfold sx_mx at q3; omega)]
                exact sx_bm (by omega) (by omega)
              rw [q5]
            | false =>
              rw [q1, sx_nw_eq] at h
              cases h
              obtain ⟨k1, k2⟩ := sx_new (tg := tg) hρ (Int64.ofInt z).toInt32 (sx_rng _)
              rw [hn] at k1 k2
              exact ⟨[(Int64.ofInt z).toInt32.toInt], _, by rw [List.length_append, hn]; rfl, k1, rfl, ⟨k2, sx_R_mono _ g2⟩, rfl, rfl, rfl⟩
          · cases h
        · cases h
      · split at h
        · rename_i y x r
          obtain ⟨q1, q2⟩ := sx_bif h
          rw [sx_nw_eq] at q2
          cases q2
          rw [Bool.and_eq_true] at q1
          obtain ⟨wy, sc1, rfl, g1, g2⟩ := sx_R_cons hs
          obtain ⟨wx, sc2, rfl, g3, g4⟩ := sx_R_cons g2
          obtain ⟨a, rfl⟩ := sx_isI_ev q1.1 g1
          obtain ⟨b, rfl⟩ := sx_isL_ev q1.2 g3
          obtain ⟨k1, k2⟩ := sx_newL (tg := tg) hρ (b >>> (a.toInt64 &&& 63)) (sx_rngL _)
          rw [hn] at k1 k2
          exact ⟨[(b >>> (a.toInt64 &&& 63)).toInt], _, by rw [List.length_append, hn]; rfl, k1, rfl, ⟨k2, sx_R_mono _ g4⟩, rfl, rfl, rfl⟩
        · cases h
      · split at h
        · rename_i y x r
          split at h
          · rename_i q hq
            split at h
            · rename_i p hp
              cases h
              obtain ⟨wy, sc1, rfl, g1, g2⟩ := sx_R_cons hs
              obtain ⟨wx, sc2, rfl, g3, g4⟩ := sx_R_cons g2
              obtain ⟨b, k1, rfl⟩ := sx_lv_ok hq g1
              obtain ⟨a, k2, rfl⟩ := sx_lv_ok hp g3
              refine ⟨[], _, h0, h1, rfl, ⟨?_, by rw [List.append_nil]; exact g4⟩, rfl, rfl, rfl⟩
              rw [List.append_nil]
              simp only [sx_ev, k1, k2]
            · cases h
          · cases h
        · cases h
      · split at h
        · rename_i v r
          obtain ⟨q1, q2⟩ := sx_bif h
          cases q2
          obtain ⟨w, sc1, rfl, g1, g2⟩ := sx_R_cons hs
          have q3 : w.category = 1 := (sx_cat_ok g1).trans (Nat.eq_of_beq_eq_true q1)
          refine ⟨[], w :: w :: sc1, h0, h1, by simp only [pm_ar, q3, if_true], ?_, rfl, rfl, rfl⟩
          rw [List.append_nil]
          exact ⟨g1, g1, g2⟩
        · cases h
      · split at h
        · rename_i v r
          obtain ⟨q1, q2⟩ := sx_bif h
          cases q2
          obtain ⟨w, sc1, rfl, g1, g2⟩ := sx_R_cons hs
          have q3 : w.category = 1 := (sx_cat_ok g1).trans (Nat.eq_of_beq_eq_true q1)
          refine ⟨[], sc1, h0, h1, by simp only [pm_ar, q3, if_true], ?_, rfl, rfl, rfl⟩
          rw [List.append_nil]
          exact g2
        · cases h
      · split at h
        · rename_i v r
          obtain ⟨q1, q2⟩ := sx_bif h
          cases q2
          obtain ⟨w, sc1, rfl, g1, g2⟩ := sx_R_cons hs
          have q3 : w.category = 2 := (sx_cat_ok g1).trans (Nat.eq_of_beq_eq_true q1)
          refine ⟨[], sc1, h0, h1, by simp only [pm_ar, q3, if_true], ?_, rfl, rfl, rfl⟩
          rw [List.append_nil]
          exact g2
        · cases h
      · split at h
        · rename_i v r
          obtain ⟨w, sc1, rfl, g1, g2⟩ := sx_R_cons hs
          cases q1 : Nat.beq (sx_cat v) 2 with
          | true =>
            rw [q1] at h
            cases h
            have q3 : w.category = 2 := (sx_cat_ok g1).trans (Nat.eq_of_beq_eq_true q1)
            refine ⟨[], w :: w :: sc1, h0, h1, by simp only [pm_ar, q3, if_true], ?_, rfl, rfl, rfl⟩
            rw [List.append_nil]
            exact ⟨g1, g1, g2⟩
          | false =>
            rw [q1] at h
            simp only [cond_false] at h
            cases q2 : Nat.beq (sx_cat v) 1 with
            | false => rw [q2] at h; cases h
            | true =>
              rw [q2] at h
              simp only [cond_true] at h
              have q3 : w.category = 1 := (sx_cat_ok g1).trans (Nat.eq_of_beq_eq_true q2)
              split at h
              · rename_i u r2
                obtain ⟨q4, q5⟩ := sx_bif h
                cases q5
                obtain ⟨w2, sc2, rfl, g3, g4⟩ := sx_R_cons g2
                have q6 : w2.category = 1 := (sx_cat_ok g3).trans (Nat.eq_of_beq_eq_true q4)
                refine ⟨[], w :: w2 :: w :: w2 :: sc2, h0, h1, ?_, ?_, rfl, rfl, rfl⟩
                · have n12 : ¬ (1 : Nat) = 2 := by decide
                  simp only [pm_ar, q3, if_neg n12, q6, if_true]
                · rw [List.append_nil]
                  exact ⟨g1, g3, g1, g3, g4⟩
              · cases h
        · cases h
      · cases h
