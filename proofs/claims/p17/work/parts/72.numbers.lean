/-! NUMBERS: ints as images of Int; and small methods of the model -/
def iI (z : Int) : Int32 := Int32.ofInt z
theorem iI_add (a b : Int) : iI a + iI b = iI (a + b) := (Int32.ofInt_add a b).symm
theorem iI_sub (a b : Int) : iI a - iI b = iI (a - b) := (Int32.ofInt_sub a b).symm
theorem iI_mul (a b : Int) : iI a * iI b = iI (a * b) := (Int32.ofInt_mul a b).symm
theorem iI_neg (a : Int) : - iI a = iI (-a) := (Int32.ofInt_neg a).symm
theorem iI_nat (n : Nat) : iI (n : Int) = nI n := by unfold iI nI; exact Int32.ofInt_eq_ofNat
theorem iI_toInt {z : Int} (h1 : -2147483648 ≤ z) (h2 : z < 2147483648) : (iI z).toInt = z := by
  unfold iI
  rw [Int32.toInt_ofInt]
  have e : Int32.size = 4294967296 := rfl
  exact Int.bmod_eq_of_le (by omega) (by omega)
theorem iI_of (x : Int32) : x = iI x.toInt := (Int32.ofInt_toInt x).symm
theorem i_bd (x : Int32) : -2147483648 ≤ x.toInt ∧ x.toInt < 2147483648 := ⟨Int32.le_toInt x, Int32.toInt_lt x⟩
theorem i_lt (x y : Int32) : x < y ↔ x.toInt < y.toInt := Int32.lt_iff_toInt_lt
theorem i_le (x y : Int32) : x ≤ y ↔ x.toInt ≤ y.toInt := Int32.le_iff_toInt_le
theorem i_eq (x y : Int32) : x = y ↔ x.toInt = y.toInt := Int32.toInt_inj.symm
theorem iI_rem {a b : Int} (ha1 : -2147483648 ≤ a) (ha2 : a < 2147483648) (hb1 : 0 < b) (hb2 : b < 2147483648) : iI a - iI a / iI b * iI b = iI (a.tmod b) := by
  apply Int32.toInt_inj.mp
  rw [rem_toInt, iI_toInt ha1 ha2, iI_toInt (by omega) hb2]
  obtain ⟨h1, h2⟩ := tmod_bounds (a := a) hb1
  rw [iI_toInt (by omega) (by omega)]
theorem fm_of {a b : Int} (hb : 0 < b) : (a.tmod b + b).tmod b = a % b := by
  obtain ⟨h1, h2⟩ := tmod_bounds (a := a) hb
  rw [Int.tmod_eq_emod_of_nonneg (by omega), Int.add_emod_right]
  rw [Int.tmod_def, Int.sub_emod, Int.mul_emod_right, Int.sub_zero, Int.emod_emod]
/-- a Boolean as an int -/
def bI (b : Bool) : Int32 := bif b then 1 else 0
theorem bI_01 (b : Bool) : bI b = 0 ∨ bI b = 1 := by cases b <;> simp [bI]
section MB
variable {ys : List Int32} {I : Nat → Nat → Int32} {L : Nat → Nat → Int64} {s : Nat → Option Nat} {Q : List Value → pm_H → Prop} {h : pm_H}
theorem l_tri (x y : Int64) : x < y ∨ x = y ∨ y < x := by
  rcases Int.lt_trichotomy x.toInt y.toInt with q | q | q
  · exact Or.inl (Int64.lt_iff_toInt_lt.mpr q)
  · exact Or.inr (Or.inl (Int64.toInt_inj.mp q))
  · exact Or.inr (Or.inr (Int64.lt_iff_toInt_lt.mpr q))
theorem lc_lt (x y : Int64) : pm_cmp .lt (lg_cmp x y) 0 = decide (x < y) := by
  unfold lg_cmp pm_cmp
  rcases l_tri x y with q | q | q
  · have h1 : ¬ x > y := fun z => absurd (Int64.lt_trans q z) (Int64.lt_irrefl)
    have h2 : ¬ x = y := fun z => by subst z; exact Int64.lt_irrefl q
    simp [h1, h2, q]
  · subst q; simp [Int64.lt_irrefl]
  · have h1 : ¬ x < y := fun z => absurd (Int64.lt_trans q z) (Int64.lt_irrefl)
    simp [q, h1]
theorem lc_gt (x y : Int64) : pm_cmp .gt (lg_cmp x y) 0 = decide (y < x) := by
  unfold lg_cmp pm_cmp
  rcases l_tri x y with q | q | q
  · have h1 : ¬ y < x := fun z => absurd (Int64.lt_trans q z) (Int64.lt_irrefl)
    have h2 : ¬ x = y := fun z => by subst z; exact Int64.lt_irrefl q
    simp [h1, h2]
  · subst q; simp [Int64.lt_irrefl]
  · simp [q]
theorem M_isIn {v a b : Int64} (kk : Q [.int (bI (decide (a ≤ v) && decide (v ≤ b)))] h) : pm_W (g_P ys) 191 0 [.long v, .retAddr 0, .long a, .retAddr 0, .long b, .retAddr 0] [] h (0, 0) Q := by
  refine ps_lload rfl rfl ?_
  refine ps_lload rfl rfl ?_
  refine ps_ar rfl rfl rfl rfl rfl ?_
  refine ps_if rfl (fun hc => ?_) (fun hc => ?_)
  · rw [lc_lt] at hc
    refine pw_c rfl ?_
    refine ps_zret rfl rfl (Or.inl rfl) ?_
    rw [decide_eq_false (by simpa using hc)] at kk
    exact kk
  · rw [lc_lt] at hc
    refine ps_lload rfl rfl ?_
    refine ps_lload rfl rfl ?_
    refine ps_ar rfl rfl rfl rfl rfl ?_
    refine ps_if rfl (fun hc => ?_) (fun hc => ?_)
    · rw [lc_gt] at hc
      refine pw_c rfl ?_
      refine ps_zret rfl rfl (Or.inl rfl) ?_
      rw [decide_eq_false (p := v ≤ b) (by simpa using hc), Bool.and_false] at kk
      exact kk
    · rename_i hd
      rw [lc_gt] at hc
      refine pw_c rfl ?_
      refine ps_goto rfl ?_
      refine ps_zret rfl rfl (Or.inr rfl) ?_
      rw [decide_eq_true (p := a ≤ v) (by simpa using hd), decide_eq_true (p := v ≤ b) (by simpa using hc)] at kk
      exact kk
theorem M_round {a b : Int} (ha : -2147483649 < a ∧ a < 2147483648) (hb : 0 < b ∧ b < 1000000) (kk : Q [.int (iI (a % b))] h) : pm_W (g_P ys) 202 0 [.int (iI a), .int (iI b)] [] h (0, 0) Q := by
  have hb0 : ¬ iI b = 0 := fun q => by
    have := congrArg Int32.toInt q
    rw [iI_toInt (by omega) (by omega)] at this
    simp at this
    omega
  have hm := tmod_bounds (a := a) hb.1
  refine ps_iload rfl rfl ?_
  refine ps_iload rfl rfl ?_
  refine ps_rem rfl (hb0) ?_
  rw [iI_rem (by omega) (by omega) hb.1 (by omega)]
  refine ps_iload rfl rfl ?_
  refine ps_ar rfl rfl rfl rfl rfl ?_
  refine ps_iload rfl rfl ?_
  refine ps_rem rfl (hb0) ?_
  refine ps_iret rfl rfl ?_
  rw [iI_add, iI_rem (by omega) (by omega) hb.1 (by omega), fm_of hb.1]
  exact kk
end MB
