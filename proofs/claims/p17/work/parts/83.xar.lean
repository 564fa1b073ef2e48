/-! A RUN OVER AN UNKNOWN HEAP, fourth: operations -/
def sx_op (i : Instr) (x y : Int32) : Int32 := match i with
  | .iadd => x + y
  | .isub => x - y
  | .imul => x * y
  | .iand => x &&& y
  | .ixor => x ^^^ y
  | .ishr => x >>> (y &&& 31)
  | .idiv => x / y
  | _ => x - x / y * y
def sx_is2 (i : Instr) : Bool := match i with
  | .iadd => true
  | .isub => true
  | .imul => true
  | .iand => true
  | .ixor => true
  | .ishr => true
  | .idiv => true
  | .irem => true
  | _ => false
def sx_isd (i : Instr) : Bool := match i with
  | .idiv => true
  | .irem => true
  | _ => false
theorem sx_is2_ok {i : Instr} (h : sx_is2 i = true) (x y : Int32) (hd : sx_isd i = true → ¬ y = 0) (r : List Value) : pm_ar i (.int y :: .int x :: r) = some (.int (sx_op i x y) :: r) := by
  unfold sx_is2 at h
  split at h
  · rfl
  · rfl
  · rfl
  · rfl
  · rfl
  · rfl
  · simp only [pm_ar, if_neg (hd rfl), sx_op]
  · simp only [pm_ar, if_neg (hd rfl), sx_op]
  · cases h
/-- bounds of an operation -/
def sx_cz (a : Int × Int) : Int × Int := bif sx_w a sx_mn sx_mx then a else (sx_mn, sx_mx)
theorem sx_cz_ok {a : Int × Int} {z : Int} {y : Int32} (h : y.toInt = z.bmod (2 ^ 32)) (h1 : a.1 ≤ z) (h2 : z ≤ a.2) : (sx_cz a).1 ≤ y.toInt ∧ y.toInt ≤ (sx_cz a).2 := by
  unfold sx_cz
  cases e : sx_w a sx_mn sx_mx with
  | false => exact sx_rng y
  | true =>
    have e' := sx_w_ok e
    rw [h, sx_bm (by omega) (by omega)]
    exact ⟨h1, h2⟩
def sx_ivo (i : Instr) (a b : Int × Int) : Int × Int := match i with
  | .iadd => sx_cz (a.1 + b.1, a.2 + b.2)
  | .isub => sx_cz (a.1 - b.2, a.2 - b.1)
  | .imul => bif decide (0 ≤ a.1) && decide (0 ≤ b.1) then sx_cz (a.1 * b.1, a.2 * b.2) else (sx_mn, sx_mx)
  | .irem => bif decide (1 ≤ b.1) then (bif decide (0 ≤ a.1) then (0, min a.2 (b.2 - 1)) else (1 - b.2, b.2 - 1)) else (sx_mn, sx_mx)
  | .idiv => bif decide (0 ≤ a.1) && decide (1 ≤ b.1) then (0, a.2 / b.1) else (sx_mn, sx_mx)
  | .iand => bif decide (0 ≤ b.1) then (0, b.2) else (sx_mn, sx_mx)
  | _ => (sx_mn, sx_mx)
theorem sx_mul_le {a b c d : Int} (ha : 0 ≤ a) (hc : 0 ≤ c) (h1 : a ≤ b) (h2 : c ≤ d) : a * c ≤ b * d := Int.mul_le_mul h1 h2 hc (by omega)
theorem sx_rem (x y : Int32) : x - x / y * y = x % y := by
  by_cases h : x = Int32.minValue ∧ y = -1
  · obtain ⟨rfl, rfl⟩ := h
    decide
  · have hd : (x / y).toInt = x.toInt.tdiv y.toInt := by
      by_cases h1 : x = Int32.minValue
      · exact Int32.toInt_div_of_ne_right x y (fun q => h ⟨h1, q⟩)
      · exact Int32.toInt_div_of_ne_left x y h1
    apply Int32.toInt_inj.mp
    rw [Int32.toInt_sub, Int32.toInt_mul, hd, Int32.toInt_mod, Int.sub_bmod_bmod]
    have e : x.toInt - x.toInt.tdiv y.toInt * y.toInt = x.toInt.tmod y.toInt := by
      have := Int.tmod_add_mul_tdiv x.toInt y.toInt
      rw [Int.mul_comm] at this
      omega
    rw [e, ← Int32.toInt_mod]
    exact sx_bm (sx_rng _).1 (sx_rng _).2
theorem sx_and_ok {x y : Int32} (h : 0 ≤ y.toInt) : 0 ≤ (x &&& y).toInt ∧ (x &&& y).toInt ≤ y.toInt := by
  have e1 : (x &&& y).toInt = (x &&& y).toBitVec.toInt := rfl
  have e2 : y.toInt = y.toBitVec.toInt := rfl
  have hm : y.toBitVec.msb = false := by
    rw [e2] at h
    rw [BitVec.msb_eq_toInt, decide_eq_false_iff_not]
    omega
  have hm2 : (x &&& y).toBitVec.msb = false := by
    rw [Int32.toBitVec_and, BitVec.msb_and, hm, Bool.and_false]
  rw [e1, e2, BitVec.toInt_eq_toNat_of_msb hm2, BitVec.toInt_eq_toNat_of_msb hm, Int32.toBitVec_and, BitVec.toNat_and]
  exact ⟨by omega, by have := @Nat.and_le_right x.toBitVec.toNat y.toBitVec.toNat; omega⟩
theorem sx_tmod_lo {a b : Int} (hb : 1 ≤ b) : 1 - b ≤ a.tmod b ∧ a.tmod b ≤ b - 1 := by
  rcases Int.le_total 0 a with h | h
  · have h1 := Int.tmod_nonneg b h
    have h2 := Int.tmod_lt_of_pos a (show 0 < b by omega)
    omega
  · have h1 := Int.tmod_nonneg b (show 0 ≤ -a by omega)
    have h2 := Int.tmod_lt_of_pos (-a) (show 0 < b by omega)
    rw [Int.neg_tmod] at h1 h2
    omega
theorem sx_ivo_ok (i : Instr) {a b : Int × Int} {x y : Int32} (h1 : a.1 ≤ x.toInt) (h2 : x.toInt ≤ a.2) (h3 : b.1 ≤ y.toInt) (h4 : y.toInt ≤ b.2) : (sx_ivo i a b).1 ≤ (sx_op i x y).toInt ∧ (sx_op i x y).toInt ≤ (sx_ivo i a b).2 := by
  unfold sx_ivo
  split
  · exact sx_cz_ok (Int32.toInt_add x y) (by show a.1 + b.1 ≤ _; omega) (by show _ ≤ a.2 + b.2; omega)
  · exact sx_cz_ok (Int32.toInt_sub x y) (by show a.1 - b.2 ≤ _; omega) (by show _ ≤ a.2 - b.1; omega)
  · cases e : decide (0 ≤ a.1) && decide (0 ≤ b.1) with
    | false => exact sx_rng _
    | true =>
      rw [Bool.and_eq_true, decide_eq_true_iff, decide_eq_true_iff] at e
      exact sx_cz_ok (Int32.toInt_mul x y) (sx_mul_le e.1 e.2 h1 h3) (sx_mul_le (by omega) (by omega) h2 h4)
  · cases e : decide (1 ≤ b.1) with
    | false => exact sx_rng _
    | true =>
      have e := of_decide_eq_true e
      show _ ≤ (x - x / y * y).toInt ∧ (x - x / y * y).toInt ≤ _
      rw [sx_rem, Int32.toInt_mod]
      cases e2 : decide (0 ≤ a.1) with
      | false =>
        have := sx_tmod_lo (a := x.toInt) (show 1 ≤ y.toInt by omega)
        exact ⟨by show 1 - b.2 ≤ _; omega, by show _ ≤ b.2 - 1; omega⟩
      | true =>
        have e2 := of_decide_eq_true e2
        have q1 := Int.tmod_nonneg y.toInt (show 0 ≤ x.toInt by omega)
        have q2 := Int.tmod_lt_of_pos x.toInt (show 0 < y.toInt by omega)
        have q3 : x.toInt.tmod y.toInt ≤ x.toInt := by
          rw [Int.tmod_eq_emod_of_nonneg (show 0 ≤ x.toInt by omega)]
          have w1 := Int.mul_ediv_add_emod x.toInt y.toInt
          have w2 : 0 ≤ y.toInt * (x.toInt / y.toInt) := Int.mul_nonneg (by omega) (Int.ediv_nonneg (by omega) (by omega))
          omega
        exact ⟨q1, by show _ ≤ min a.2 (b.2 - 1); omega⟩
  · cases e : decide (0 ≤ a.1) && decide (1 ≤ b.1) with
    | false => exact sx_rng _
    | true =>
      rw [Bool.and_eq_true, decide_eq_true_iff, decide_eq_true_iff] at e
      show (0 : Int) ≤ (x / y).toInt ∧ (x / y).toInt ≤ a.2 / b.1
      rw [Int32.toInt_div]
      have q0 : x.toInt.tdiv y.toInt = x.toInt / y.toInt := Int.tdiv_eq_ediv_of_nonneg (by omega)
      have q1 : 0 ≤ x.toInt / y.toInt := Int.ediv_nonneg (by omega) (by omega)
      have q2 : x.toInt / y.toInt ≤ x.toInt := Int.ediv_le_self _ (by omega)
      have q3 : x.toInt / y.toInt ≤ a.2 / b.1 := by
        apply Int.le_ediv_of_mul_le (by omega)
        have r1 : x.toInt / y.toInt * y.toInt ≤ x.toInt := Int.ediv_mul_le _ (by omega)
        have r2 : x.toInt / y.toInt * b.1 ≤ x.toInt / y.toInt * y.toInt := Int.mul_le_mul_of_nonneg_left h3 q1
        omega
      have hx := sx_rng x
      rw [q0, sx_bm (by unfold sx_mn; omega) (by omega)]
      exact ⟨q1, q3⟩
  · cases e : decide (0 ≤ b.1) with
    | false => exact sx_rng _
    | true =>
      have e := of_decide_eq_true e
      have := sx_and_ok (x := x) (y := y) (by omega)
      exact ⟨this.1, by show _ ≤ b.2; exact Int.le_trans this.2 h4⟩
  · exact sx_rng _
/-- an int that is not 0 -/
def sx_n0 (σ : sx_S) (ν : List Nat) (y : sx_V) : Bool := match y with
  | .inr (.inl (i, .ofNat 0)) => ν.any (Nat.beq i) || (match sx_vi σ (.inr (.inl (i, .ofNat 0))) with
    | some b => decide (1 ≤ b.1) || decide (b.2 ≤ -1)
    | none => false)
  | y => match sx_vi σ y with
    | some b => decide (1 ≤ b.1) || decide (b.2 ≤ -1)
    | none => false
theorem sx_ne0 {x : Int32} (h : ¬ x.toInt = 0) : ¬ x = 0 := fun q => h (by rw [q]; rfl)
theorem sx_n0_ok {tg : Nat → Nat} {ρ : List Int} {σ : sx_S} {ν : List Nat} (hρ : sx_in ρ σ) (hν : sx_nz ρ ν) {y : sx_V} (h : sx_n0 σ ν y = true) {b : Int32} (e : sx_ev tg ρ y = some (.int b)) : ¬ b = 0 := by
  have key : ∀ c, sx_vi σ y = some c → (decide (1 ≤ c.1) || decide (c.2 ≤ -1)) = true → ¬ b = 0 := by
    intro c hc hd
    obtain ⟨x, g1, g2⟩ := sx_vi_ok hρ hc e
    cases g1
    rw [Bool.or_eq_true, decide_eq_true_iff, decide_eq_true_iff] at hd
    exact sx_ne0 (by omega)
  unfold sx_n0 at h
  split at h
  · rename_i i
    rw [Bool.or_eq_true] at h
    rcases h with h | h
    · obtain ⟨j, hj, hb⟩ := List.any_eq_true.mp h
      have hj2 := Nat.eq_of_beq_eq_true hb
      subst hj2
      obtain ⟨z, g1, g2⟩ := hν i hj
      obtain ⟨z', k1, k2⟩ := sx_evi e
      rw [g1] at k1
      cases k1
      cases k2
      rw [show z + Int.ofNat 0 = z from Int.add_zero z]
      exact g2
    · split at h
      · rename_i c hc
        exact key c hc h
      · cases h
  · split at h
    · rename_i c hc
      exact key c hc h
    · cases h
/-- a variable with a number more or less -/
def sx_e2 (i : Instr) (y x : sx_V) : Option (Nat × Int) := match i with
  | .iadd => match x with
    | .inr (.inl (i, c)) => match y with
      | .inl (.int k) => some (i, c + k.toInt)
      | _ => none
    | .inl (.int k) => match y with
      | .inr (.inl (i, c)) => some (i, c + k.toInt)
      | _ => none
    | _ => none
  | .isub => match x with
    | .inr (.inl (i, c)) => match y with
      | .inl (.int k) => some (i, c - k.toInt)
      | _ => none
    | _ => none
  | _ => none
theorem sx_e2_ok {tg : Nat → Nat} {ρ : List Int} {i : Instr} {y x : sx_V} {q : Nat × Int} (h : sx_e2 i y x = some q) {a b : Int32} (hx : sx_ev tg ρ x = some (.int a)) (hy : sx_ev tg ρ y = some (.int b)) : sx_ev tg ρ (.inr (.inl q)) = some (.int (sx_op i a b)) := by
  unfold sx_e2 at h
  split at h
  · split at h
    · rename_i j c
      split at h
      · rename_i k
        cases h
        have h3 := sx_evl hy
        cases h3
        obtain ⟨z, g1, g2⟩ := sx_evi hx
        cases g2
        rw [sx_evi' g1]
        simp only [sx_op]
        rw [← Int.add_assoc, Int32.ofInt_add (z + c), Int32.ofInt_toInt]
      · cases h
    · rename_i k
      split at h
      · rename_i j c
        cases h
        have h3 := sx_evl hx
        cases h3
        obtain ⟨z, g1, g2⟩ := sx_evi hy
        cases g2
        rw [sx_evi' g1]
        simp only [sx_op]
        rw [← Int.add_assoc, Int32.ofInt_add (z + c), Int32.ofInt_toInt, Int32.add_comm]
      · cases h
    · cases h
  · split at h
    · rename_i j c
      split at h
      · rename_i k
        cases h
        have h3 := sx_evl hy
        cases h3
        obtain ⟨z, g1, g2⟩ := sx_evi hx
        cases g2
        rw [sx_evi' g1]
        simp only [sx_op]
        rw [← Int.add_sub_assoc, Int32.ofInt_sub (z + c), Int32.ofInt_toInt]
      · cases h
    · cases h
  · cases h
/-- a new variable -/
theorem sx_new {tg : Nat → Nat} {ρ : List Int} {σ : sx_S} (hρ : sx_in ρ σ) {lo hi : Int} (x : Int32) (h : lo ≤ x.toInt ∧ x.toInt ≤ hi) : sx_in (ρ ++ [x.toInt]) ((ρ.length, lo, hi) :: σ) ∧ sx_ev tg (ρ ++ [x.toInt]) (.inr (.inl (ρ.length, 0))) = some (.int x) := by
  refine ⟨sx_in_new hρ h.1 h.2, ?_⟩
  rw [sx_evi' (sx_get_new ρ x.toInt), Int.add_zero, Int32.ofInt_toInt]
theorem sx_newL {tg : Nat → Nat} {ρ : List Int} {σ : sx_S} (hρ : sx_in ρ σ) {lo hi : Int} (x : Int64) (h : lo ≤ x.toInt ∧ x.toInt ≤ hi) : sx_in (ρ ++ [x.toInt]) ((ρ.length, lo, hi) :: σ) ∧ sx_ev tg (ρ ++ [x.toInt]) (.inr (.inr (.inl ρ.length))) = some (.long x) := by
  refine ⟨sx_in_new hρ h.1 h.2, ?_⟩
  rw [sx_evj' (sx_get_new ρ x.toInt), Int64.ofInt_toInt]
def sx_nw (σ : sx_S) (n : Nat) (b : Int × Int) : sx_S := sx_fz b.1 fun lo => sx_fz b.2 fun hi => (n, lo, hi) :: σ
theorem sx_nw_eq (σ : sx_S) (n : Nat) (b : Int × Int) : sx_nw σ n b = (n, b.1, b.2) :: σ := by
  unfold sx_nw
  rw [sx_fz_eq, sx_fz_eq]
/-- two known ints -/
def sx_kk (i : Instr) (y x : sx_V) : Option Int32 := match x with
  | .inl (.int a) => match y with
    | .inl (.int b) => bif sx_isd i && decide (b.toInt = 0) then none else some (sx_op i a b)
    | _ => none
  | _ => none
theorem sx_kk_ok {tg : Nat → Nat} {ρ : List Int} {i : Instr} {y x : sx_V} {z : Int32} (h : sx_kk i y x = some z) {wx wy : Value} (hx : sx_ev tg ρ x = some wx) (hy : sx_ev tg ρ y = some wy) : ∃ a b, wx = .int a ∧ wy = .int b ∧ (sx_isd i = true → ¬ b = 0) ∧ z = sx_op i a b := by
  unfold sx_kk at h
  split at h
  · rename_i a
    split at h
    · rename_i b
      cases d : sx_isd i && decide (b.toInt = 0) with
      | true => rw [d] at h; cases h
      | false =>
        rw [d] at h
        cases h
        refine ⟨a, b, (sx_evl hx).symm, (sx_evl hy).symm, fun hs q => ?_, rfl⟩
        rw [hs, Bool.true_and, decide_eq_false_iff_not] at d
        exact d (by rw [q]; rfl)
    · cases h
  · cases h
/-- two ints -/
def sx_a2 (σ : sx_S) (n : Nat) (ν : List Nat) (i : Instr) (y x : sx_V) : Option (sx_V × sx_S × Nat) := match sx_kk i y x with
  | some r => sx_fz r.toInt fun z => some (.inl (.int (Int32.ofInt z)), σ, n)
  | none => match sx_e2 i y x with
  | some (j, c) => sx_fz c fun z => some (.inr (.inl (j, z)), σ, n)
  | none => match sx_vi σ x with
    | some a => match sx_vi σ y with
      | some b => bif sx_isd i && !sx_n0 σ ν y then none else some (.inr (.inl (n, 0)), sx_nw σ n (sx_ivo i a b), n + 1)
      | none => none
    | none => none
theorem sx_a2_ok {tg : Nat → Nat} {ρ : List Int} {σ σ' : sx_S} {n n' : Nat} {ν : List Nat} (hn : ρ.length = n) (hρ : sx_in ρ σ) (hν : sx_nz ρ ν) {i : Instr} (hi : sx_is2 i = true) {y x z : sx_V} (h : sx_a2 σ n ν i y x = some (z, σ', n')) {wx wy : Value} (hx : sx_ev tg ρ x = some wx) (hy : sx_ev tg ρ y = some wy) :
    ∃ e a b, (ρ ++ e).length = n' ∧ sx_in (ρ ++ e) σ' ∧ wx = .int a ∧ wy = .int b ∧ (sx_isd i = true → ¬ b = 0) ∧ sx_ev tg (ρ ++ e) z = some (.int (sx_op i a b)) := by
  unfold sx_a2 at h
  split at h
  · rename_i r hr
    rw [sx_fz_eq] at h
    cases h
    obtain ⟨a, b, g1, g2, g3, g4⟩ := sx_kk_ok hr hx hy
    exact ⟨[], a, b, by rw [List.append_nil]; exact hn, by rw [List.append_nil]; exact hρ, g1, g2, g3, by rw [Int32.ofInt_toInt, g4]; rfl⟩
  split at h
  · rename_i j c hq
    rw [sx_fz_eq] at h
    cases h
    have hxy : ∃ a b, wx = .int a ∧ wy = .int b ∧ sx_isd i = false := by
      unfold sx_e2 at hq
      split at hq
      · split at hq
        · split at hq
          · obtain ⟨z, _, g⟩ := sx_evi hx
            exact ⟨_, _, g, (sx_evl hy).symm, rfl⟩
          · cases hq
        · split at hq
          · obtain ⟨z, _, g⟩ := sx_evi hy
            exact ⟨_, _, (sx_evl hx).symm, g, rfl⟩
          · cases hq
        · cases hq
      · split at hq
        · split at hq
          · obtain ⟨z, _, g⟩ := sx_evi hx
            exact ⟨_, _, g, (sx_evl hy).symm, rfl⟩
          · cases hq
        · cases hq
      · cases hq
    obtain ⟨a, b, rfl, rfl, hd⟩ := hxy
    exact ⟨[], a, b, by rw [List.append_nil]; exact hn, by rw [List.append_nil]; exact hρ, rfl, rfl, fun q => (by rw [hd] at q; cases q), by rw [List.append_nil]; exact sx_e2_ok hq hx hy⟩
  · split at h
    · rename_i p hp
      split at h
      · rename_i q hq
        cases hd : sx_isd i && !sx_n0 σ ν y with
        | true => rw [hd] at h; cases h
        | false =>
          rw [hd, sx_nw_eq] at h
          cases h
          obtain ⟨a, rfl, g1⟩ := sx_vi_ok hρ hp hx
          obtain ⟨b, rfl, g2⟩ := sx_vi_ok hρ hq hy
          obtain ⟨k1, k2⟩ := sx_new (tg := tg) hρ (sx_op i a b) (sx_ivo_ok i g1.1 g1.2 g2.1 g2.2)
          rw [hn] at k1 k2
          refine ⟨[(sx_op i a b).toInt], a, b, by rw [List.length_append, hn]; rfl, k1, rfl, rfl, fun hs => ?_, k2⟩
          rw [hs, Bool.true_and, Bool.not_eq_false'] at hd
          exact sx_n0_ok hρ hν hd hy
      · cases h
    · cases h
