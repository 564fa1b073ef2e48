/-! A RUN OVER AN UNKNOWN HEAP, first: numbers. A variable stands for a number (ρ is a list of them; a variable that is not there yet has no meaning); a value is known, or an int made of variables, or the long of one, or how it compares with a number. -/
abbrev sf_X : Type := Nat × List (Instr × (Int32 ⊕ Nat))
abbrev sf_V : Type := Value ⊕ sf_X ⊕ Nat ⊕ (Nat × Int)
abbrev sf_E : Type := List (Nat × Int × Int)
def sf_mn : Int := -2147483648
def sf_mx : Int := 2147483647
def sf_op (i : Instr) (x y : Int32) : Int32 := match i with
  | .iadd => x + y
  | .isub => x - y
  | .imul => x * y
  | .iand => x &&& y
  | .ixor => x ^^^ y
  | .ishr => x >>> (y &&& 31)
  | .idiv => x / y
  | .irem => x - x / y * y
  | .i2b => x.toInt8.toInt32
  | .bastore => vp_nar .byte x
  | _ => -x
def sf_r (ρ : List Int) (i : Nat) : Option Int32 := (ρ[i]?).map Int32.ofInt
def sf_o (ρ : List Int) (q : Int32 ⊕ Nat) : Option Int32 := match q with
  | .inl c => some c
  | .inr j => sf_r ρ j
def sf_fx (ρ : List Int) (x : Option Int32) (q : Instr × (Int32 ⊕ Nat)) : Option Int32 := match x with
  | some a => match sf_o ρ q.2 with
    | some b => some (sf_op q.1 a b)
    | none => none
  | none => none
def sf_x (ρ : List Int) (e : sf_X) : Option Int32 := e.2.foldl (sf_fx ρ) (sf_r ρ e.1)
def sf_ev (ρ : List Int) (v : sf_V) : Option Value := match v with
  | .inl w => some w
  | .inr (.inl e) => (sf_x ρ e).map Value.int
  | .inr (.inr (.inl i)) => (ρ[i]?).map fun z => .long (Int64.ofInt z)
  | .inr (.inr (.inr q)) => (ρ[q.1]?).map fun z => .int (lg_cmp (Int64.ofInt z) (Int64.ofInt q.2))
/-! more variables change nothing -/
theorem sf_get_mono {ρ : List Int} {i : Nat} {z : Int} (h : ρ[i]? = some z) (e : List Int) : (ρ ++ e)[i]? = some z := by
  have hi : i < ρ.length := (List.getElem?_eq_some_iff.mp h).1
  rw [List.getElem?_append_left hi]
  exact h
theorem sf_r_mono {ρ : List Int} {i : Nat} {x : Int32} (h : sf_r ρ i = some x) (e : List Int) : sf_r (ρ ++ e) i = some x := by
  unfold sf_r at h ⊢
  obtain ⟨z, h1, h2⟩ := Option.map_eq_some_iff.mp h
  rw [sf_get_mono h1 e, Option.map_some, h2]
theorem sf_o_mono {ρ : List Int} {q : Int32 ⊕ Nat} {x : Int32} (h : sf_o ρ q = some x) (e : List Int) : sf_o (ρ ++ e) q = some x := by
  cases q with
  | inl c => exact h
  | inr j => exact sf_r_mono h e
theorem sf_fold_none (ρ : List Int) (l : List (Instr × (Int32 ⊕ Nat))) : l.foldl (sf_fx ρ) none = none := by
  induction l with
  | nil => rfl
  | cons a r ih => exact ih
theorem sf_fold_mono {ρ : List Int} (e : List Int) : ∀ (l : List (Instr × (Int32 ⊕ Nat))) (a x : Int32), l.foldl (sf_fx ρ) (some a) = some x → l.foldl (sf_fx (ρ ++ e)) (some a) = some x := by
  intro l
  induction l with
  | nil => intro a x h; exact h
  | cons q r ih =>
    intro a x h
    rw [List.foldl_cons] at h ⊢
    unfold sf_fx at h ⊢
    cases ho : sf_o ρ q.2 with
    | none =>
      rw [ho] at h
      exact absurd ((sf_fold_none ρ r).symm.trans h) (by simp)
    | some b =>
      rw [ho] at h
      rw [sf_o_mono ho e]
      exact ih _ _ h
theorem sf_x_mono {ρ : List Int} {q : sf_X} {x : Int32} (h : sf_x ρ q = some x) (e : List Int) : sf_x (ρ ++ e) q = some x := by
  unfold sf_x at h ⊢
  cases hr : sf_r ρ q.1 with
  | none =>
    rw [hr] at h
    exact absurd ((sf_fold_none ρ q.2).symm.trans h) (by simp)
  | some a =>
    rw [hr] at h
    rw [sf_r_mono hr e]
    exact sf_fold_mono e _ _ _ h
theorem sf_ev_mono {ρ : List Int} {v : sf_V} {w : Value} (h : sf_ev ρ v = some w) (e : List Int) : sf_ev (ρ ++ e) v = some w := by
  rcases v with v | q | i | q
  · exact h
  · obtain ⟨x, h1, h2⟩ := Option.map_eq_some_iff.mp (show (sf_x ρ q).map Value.int = some w from h)
    show (sf_x (ρ ++ e) q).map Value.int = some w
    rw [sf_x_mono h1 e, Option.map_some, h2]
  · obtain ⟨x, h1, h2⟩ := Option.map_eq_some_iff.mp (show (ρ[i]?).map (fun z => Value.long (Int64.ofInt z)) = some w from h)
    show ((ρ ++ e)[i]?).map (fun z => Value.long (Int64.ofInt z)) = some w
    rw [sf_get_mono h1 e, Option.map_some, h2]
  · obtain ⟨x, h1, h2⟩ := Option.map_eq_some_iff.mp (show (ρ[q.1]?).map (fun z => Value.int (lg_cmp (Int64.ofInt z) (Int64.ofInt q.2))) = some w from h)
    show ((ρ ++ e)[q.1]?).map (fun z => Value.int (lg_cmp (Int64.ofInt z) (Int64.ofInt q.2))) = some w
    rw [sf_get_mono h1 e, Option.map_some, h2]
/-! bounds of variables: the newest row of a variable tells -/
def sf_b : sf_E → Nat → Option (Int × Int)
  | [], _ => none
  | q :: r, i => bif Nat.beq q.1 i then some q.2 else sf_b r i
def sf_in (ρ : List Int) (σ : sf_E) : Prop := ∀ i b, sf_b σ i = some b → ∀ z, ρ[i]? = some z → b.1 ≤ z ∧ z ≤ b.2
theorem sf_b_cons (σ : sf_E) (i j : Nat) (b : Int × Int) : sf_b ((i, b) :: σ) j = if i = j then some b else sf_b σ j := by
  rw [sf_b]
  cases e : Nat.beq i j with
  | true => rw [if_pos (Nat.eq_of_beq_eq_true e)]; rfl
  | false => rw [if_neg (fun q => by rw [q, Nat.beq_refl] at e; cases e)]; rfl
/-- narrower bounds of a variable -/
theorem sf_in_cons {ρ : List Int} {σ : sf_E} {i : Nat} {lo hi : Int} (h : sf_in ρ σ) (h1 : ∀ z, ρ[i]? = some z → lo ≤ z ∧ z ≤ hi) : sf_in ρ ((i, lo, hi) :: σ) := by
  intro j b hb z hz
  rw [sf_b_cons] at hb
  split at hb
  · rename_i e
    subst e
    cases hb
    exact h1 z hz
  · exact h j b hb z hz
/-- a new variable -/
theorem sf_in_new {ρ : List Int} {σ : sf_E} {lo hi z : Int} (h : sf_in ρ σ) (h1 : lo ≤ z) (h2 : z ≤ hi) : sf_in (ρ ++ [z]) ((ρ.length, lo, hi) :: σ) := by
  intro j b hb y hy
  rw [sf_b_cons] at hb
  split at hb
  · rename_i e
    subst e
    cases hb
    rw [List.getElem?_append_right (Nat.le_refl _), Nat.sub_self] at hy
    cases hy
    exact ⟨h1, h2⟩
  · rename_i e
    by_cases hj : j < ρ.length
    · rw [List.getElem?_append_left hj] at hy
      exact h j b hb y hy
    · have : (ρ ++ [z])[j]? = none := List.getElem?_eq_none (by simp; omega)
      rw [this] at hy
      cases hy
/-! bounds of operations -/
def sf_cl (a : Int × Int) : Int × Int := bif decide (sf_mn ≤ a.1) && decide (a.2 ≤ sf_mx) then a else (sf_mn, sf_mx)
def sf_ivo (i : Instr) (a b : Int × Int) : Int × Int := match i with
  | .iadd => sf_cl (a.1 + b.1, a.2 + b.2)
  | .isub => sf_cl (a.1 - b.2, a.2 - b.1)
  | .imul => bif decide (0 ≤ a.1) && decide (0 ≤ b.1) then sf_cl (a.1 * b.1, a.2 * b.2) else (sf_mn, sf_mx)
  | .irem => bif decide (0 ≤ a.1) && decide (1 ≤ b.1) then (0, min a.2 (b.2 - 1)) else (sf_mn, sf_mx)
  | .idiv => bif decide (0 ≤ a.1) && decide (1 ≤ b.1) then (0, a.2) else (sf_mn, sf_mx)
  | _ => (sf_mn, sf_mx)
theorem sf_rng (x : Int32) : sf_mn ≤ x.toInt ∧ x.toInt ≤ sf_mx := ⟨Int32.le_toInt x, by have := Int32.toInt_lt x; unfold sf_mx; omega⟩
theorem sf_bm {z : Int} (h1 : sf_mn ≤ z) (h2 : z ≤ sf_mx) : z.bmod (2 ^ 32) = z := by
  unfold sf_mn at h1
  unfold sf_mx at h2
  exact Int.bmod_eq_of_le (by omega) (by omega)
theorem sf_cl_ok {a : Int × Int} {z : Int} {y : Int32} (h : y.toInt = z.bmod (2 ^ 32)) (h1 : a.1 ≤ z) (h2 : z ≤ a.2) : (sf_cl a).1 ≤ y.toInt ∧ y.toInt ≤ (sf_cl a).2 := by
  unfold sf_cl
  cases e : decide (sf_mn ≤ a.1) && decide (a.2 ≤ sf_mx) with
  | false => exact sf_rng y
  | true =>
    rw [Bool.and_eq_true, decide_eq_true_iff, decide_eq_true_iff] at e
    rw [h, sf_bm (by omega) (by omega)]
    exact ⟨h1, h2⟩
theorem sf_mul_le {a b c d : Int} (ha : 0 ≤ a) (hc : 0 ≤ c) (h1 : a ≤ b) (h2 : c ≤ d) : a * c ≤ b * d := Int.mul_le_mul h1 h2 hc (by omega)
theorem sf_ivo_ok (i : Instr) {a b : Int × Int} {x y : Int32} (h1 : a.1 ≤ x.toInt) (h2 : x.toInt ≤ a.2) (h3 : b.1 ≤ y.toInt) (h4 : y.toInt ≤ b.2) : (sf_ivo i a b).1 ≤ (sf_op i x y).toInt ∧ (sf_op i x y).toInt ≤ (sf_ivo i a b).2 := by
  unfold sf_ivo
  split
  · exact sf_cl_ok (Int32.toInt_add x y) (by show a.1 + b.1 ≤ _; omega) (by show _ ≤ a.2 + b.2; omega)
  · exact sf_cl_ok (Int32.toInt_sub x y) (by show a.1 - b.2 ≤ _; omega) (by show _ ≤ a.2 - b.1; omega)
  · cases e : decide (0 ≤ a.1) && decide (0 ≤ b.1) with
    | false => exact sf_rng _
    | true =>
      rw [Bool.and_eq_true, decide_eq_true_iff, decide_eq_true_iff] at e
      exact sf_cl_ok (Int32.toInt_mul x y) (sf_mul_le e.1 e.2 h1 h3) (sf_mul_le (by omega) (by omega) h2 h4)
  · cases e : decide (0 ≤ a.1) && decide (1 ≤ b.1) with
    | false => exact sf_rng _
    | true =>
      rw [Bool.and_eq_true, decide_eq_true_iff, decide_eq_true_iff] at e
      have hx := sf_rng x
      have hy := sf_rng y
      obtain ⟨n, hn, rfl⟩ := nI_of (x := x) (fun q => by have := Int32.lt_iff_toInt_lt.mp q; simp at this; omega)
      obtain ⟨m, hm, rfl⟩ := nI_of (x := y) (fun q => by have := Int32.lt_iff_toInt_lt.mp q; simp at this; omega)
      rw [nI_toInt hn] at h1 h2
      rw [nI_toInt hm] at h3 h4
      show (0 : Int) ≤ (nI n - nI n / nI m * nI m).toInt ∧ (nI n - nI n / nI m * nI m).toInt ≤ min a.2 (b.2 - 1)
      rw [nI_rem (by omega) (by omega) (by omega)]
      have q1 : n % m < m := Nat.mod_lt _ (by omega)
      have q2 : n % m ≤ n := Nat.mod_le _ _
      rw [nI_toInt (by omega)]
      exact ⟨by omega, by omega⟩
  · cases e : decide (0 ≤ a.1) && decide (1 ≤ b.1) with
    | false => exact sf_rng _
    | true =>
      rw [Bool.and_eq_true, decide_eq_true_iff, decide_eq_true_iff] at e
      show (0 : Int) ≤ (x / y).toInt ∧ (x / y).toInt ≤ a.2
      rw [Int32.toInt_div]
      have q1 : 0 ≤ x.toInt.tdiv y.toInt := Int.tdiv_nonneg (by omega) (by omega)
      have q2 : x.toInt.tdiv y.toInt ≤ x.toInt := Int.tdiv_le_self _ (by omega)
      have hx := sf_rng x
      rw [sf_bm (by unfold sf_mn; omega) (by omega)]
      exact ⟨q1, by omega⟩
  · exact sf_rng _
