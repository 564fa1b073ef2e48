/-! THE MODEL: plates as they lie -/
/-- the cell that x, y comes round to -/
def cxy (w v : Nat) (x y : Int) : Nat := (y % v).toNat * w + (x % w).toNat
theorem cxy_lt {w v : Nat} (hw : 0 < w) (hv : 0 < v) (x y : Int) : cxy w v x y < w * v := by
  have h1 := Int.emod_nonneg x (show (w : Int) ≠ 0 by omega)
  have h2 := Int.emod_lt_of_pos x (show (0 : Int) < w by omega)
  have h3 := Int.emod_nonneg y (show (v : Int) ≠ 0 by omega)
  have h4 := Int.emod_lt_of_pos y (show (0 : Int) < v by omega)
  unfold cxy
  have h5 : (y % v).toNat + 1 ≤ v := by omega
  have h6 := Nat.mul_le_mul_right w h5
  rw [Nat.mul_comm w v]
  rw [Nat.add_mul] at h6
  omega
theorem cxy_int {w v : Nat} (hw : 0 < w) (hv : 0 < v) (x y : Int) : ((cxy w v x y : Nat) : Int) = y % v * w + x % w := by
  have h1 := Int.emod_nonneg x (show (w : Int) ≠ 0 by omega)
  have h3 := Int.emod_nonneg y (show (v : Int) ≠ 0 by omega)
  unfold cxy
  rw [Int.natCast_add, Int.natCast_mul, Int.toNat_of_nonneg h3, Int.toNat_of_nonneg h1]
/-- plate k of the model is w by v -/
def mPl (I : Nat → Nat → Int32) (k w v : Nat) : Prop := k < 6 ∧ I 278 (7 * k) = nI w ∧ I 278 (7 * k + 1) = nI v ∧ 0 < w ∧ 0 < v ∧ w * v ≤ 289
theorem mPl.b {I : Nat → Nat → Int32} {k w v : Nat} (h : mPl I k w v) : w ≤ 289 ∧ v ≤ 289 := by
  obtain ⟨-, -, -, h1, h2, h3⟩ := h
  have a := Nat.le_mul_of_pos_right w h2
  have b := Nat.le_mul_of_pos_left v h1
  omega
section MC
variable {ys : List Int32} {I : Nat → Nat → Int32} {L : Nat → Nat → Int64} {s : Nat → Option Nat} {Q : List Value → pm_H → Prop} {k w v : Nat} {x y : Int}
theorem M_indexOf (hp : mPl I k w v) (hx : -2147483649 < x ∧ x < 2147483648) (hy : -2147483649 < y ∧ y < 2147483648) (kk : Q [.int (nI (289 * k + cxy w v x y))] (I, L, g_R s, 306)) : pm_W (g_P ys) 201 0 [.ref 275, .int (nI k), .int (iI x), .int (iI y)] [] (I, L, g_R s, 306) (0, 0) Q := by
  obtain ⟨hk, hw, hv, hw0, hv0, hwv⟩ := id hp
  obtain ⟨hwb, hvb⟩ := hp.b
  refine pw_c rfl ?_
  refine ps_iload rfl rfl ?_
  refine ps_ar rfl rfl rfl rfl rfl ?_
  refine ps_iload rfl rfl ?_
  refine ps_aload rfl rfl ?_
  refine ps_iload rfl rfl ?_
  refine pw_k rfl rfl rfl rfl ⟨Nat.zero_le _, Nat.zero_le _⟩ ?_
  refine M_highOf hk ?_
  rw [hv, ← iI_nat v]
  refine pw_k rfl rfl rfl rfl ⟨Nat.zero_le _, Nat.zero_le _⟩ ?_
  refine M_round (by omega) (by omega) ?_
  refine ps_aload rfl rfl ?_
  refine ps_iload rfl rfl ?_
  refine pw_k rfl rfl rfl rfl ⟨Nat.zero_le _, Nat.zero_le _⟩ ?_
  refine M_wideOf hk ?_
  refine ps_ar rfl rfl rfl rfl rfl ?_
  refine ps_ar rfl rfl rfl rfl rfl ?_
  refine ps_iload rfl rfl ?_
  refine ps_aload rfl rfl ?_
  refine ps_iload rfl rfl ?_
  refine pw_k rfl rfl rfl rfl ⟨Nat.zero_le _, Nat.zero_le _⟩ ?_
  refine M_wideOf hk ?_
  rw [hw, ← iI_nat w]
  refine pw_k rfl rfl rfl rfl ⟨Nat.zero_le _, Nat.zero_le _⟩ ?_
  refine M_round (by omega) (by omega) ?_
  refine ps_ar rfl rfl rfl rfl rfl ?_
  refine ps_iret rfl rfl ?_
  have e : (289 : Int32) * nI k + iI (y % v) * iI w + iI (x % w) = nI (289 * k + cxy w v x y) := by
    rw [show (289 : Int32) = iI 289 from rfl, ← iI_nat k, ← iI_nat (289 * k + cxy w v x y), iI_mul, iI_mul, iI_add, iI_add, Int.natCast_add, cxy_int hw0 hv0]
    congr 1
    omega
  rw [e]
  exact kk
theorem M_isHole (hp : mPl I k w v) (hx : -2147483649 < x ∧ x < 2147483648) (hy : -2147483649 < y ∧ y < 2147483648) (kk : Q [.int (bI (decide (I 280 (289 * k + cxy w v x y) = 1)))] (I, L, g_R s, 306)) : pm_W (g_P ys) 200 0 [.ref 275, .int (nI k), .int (iI x), .int (iI y)] [] (I, L, g_R s, 306) (0, 0) Q := by
  have hb := cxy_lt hp.2.2.2.1 hp.2.2.2.2.1 x y
  have hk := hp.1
  have hwv := hp.2.2.2.2.2
  refine ps_aload rfl rfl ?_
  refine ps_gfr 11 6 rfl rfl rfl rfl rfl (rfl) ?_
  refine ps_aload rfl rfl ?_
  refine ps_iload rfl rfl ?_
  refine ps_iload rfl rfl ?_
  refine ps_iload rfl rfl ?_
  refine pw_k rfl rfl rfl rfl ⟨Nat.zero_le _, Nat.zero_le _⟩ ?_
  refine M_indexOf hp hx hy ?_
  refine ps_iald (289 * k + cxy w v x y) rfl rfl rfl (rfl) (by omega) ?_
  refine pw_c rfl ?_
  refine ps_icmp rfl (fun hc => ?_) (fun hc => ?_)
  · refine pw_c rfl ?_
    refine ps_zret rfl rfl (Or.inl rfl) ?_
    rw [decide_eq_false (by simpa [pm_cmp] using hc)] at kk
    exact kk
  · refine pw_c rfl ?_
    refine ps_goto rfl ?_
    refine ps_zret rfl rfl (Or.inr rfl) ?_
    rw [decide_eq_true (by simpa [pm_cmp] using hc)] at kk
    exact kk
theorem M_weightOf (hp : mPl I k w v) (hx : -2147483649 < x ∧ x < 2147483648) (hy : -2147483649 < y ∧ y < 2147483648) (kk : Q [.int (I 282 (289 * k + cxy w v x y))] (I, L, g_R s, 306)) : pm_W (g_P ys) 203 0 [.ref 275, .int (nI k), .int (iI x), .int (iI y)] [] (I, L, g_R s, 306) (0, 0) Q := by
  have hb := cxy_lt hp.2.2.2.1 hp.2.2.2.2.1 x y
  have hk := hp.1
  have hwv := hp.2.2.2.2.2
  refine ps_aload rfl rfl ?_
  refine ps_gfr 11 8 rfl rfl rfl rfl rfl (rfl) ?_
  refine ps_aload rfl rfl ?_
  refine ps_iload rfl rfl ?_
  refine ps_iload rfl rfl ?_
  refine ps_iload rfl rfl ?_
  refine pw_k rfl rfl rfl rfl ⟨Nat.zero_le _, Nat.zero_le _⟩ ?_
  refine M_indexOf hp hx hy ?_
  refine ps_iald (289 * k + cxy w v x y) rfl rfl rfl (rfl) (by omega) ?_
  refine ps_iret rfl rfl ?_
  exact kk
theorem M_sideOf (hp : mPl I k w v) (hx : -100000 < x ∧ x < 100000) (hy : -100000 < y ∧ y < 100000)
    (kk : Q [.int (suI (fun j => suI (fun i => if I 280 (289 * k + cxy w v i j) = 1 then I 282 (289 * k + cxy w v (i + x) (j + y)) else 0) w) v)] (I, L, g_R s, 306)) : pm_W (g_P ys) 199 0 [.ref 275, .int (nI k), .int (iI x), .int (iI y), .retAddr 0, .retAddr 0, .retAddr 0] [] (I, L, g_R s, 306) (0, 0) Q := by
  obtain ⟨hk, hw, hv, hw0, hv0, hwv⟩ := id hp
  obtain ⟨hwb, hvb⟩ := hp.b
  let F : Nat → Nat → Int32 := fun j i => if I 280 (289 * k + cxy w v i j) = 1 then I 282 (289 * k + cxy w v (i + x) (j + y)) else 0
  have outer : ∀ d j, j + d = v → ∀ u, pm_W (g_P ys) 199 6 [.ref 275, .int (nI k), .int (iI x), .int (iI y), .int (suI (fun j => suI (F j) w) j), .int (nI j), u] [] (I, L, g_R s, 306) (0, 0) Q := by
    intro d
    induction d with
    | zero =>
      intro j hj u
      refine ps_iload rfl rfl ?_
      refine ps_aload rfl rfl ?_
      refine ps_iload rfl rfl ?_
      refine pw_k rfl rfl rfl rfl ⟨Nat.zero_le _, Nat.zero_le _⟩ ?_
      refine M_highOf hk ?_
      refine ps_icmpt rfl (by rw [hv]; exact decide_eq_true (nI_le (by omega) (by omega))) ?_
      refine ps_iload rfl rfl ?_
      refine ps_iret rfl rfl ?_
      rw [show j = v by omega]
      exact kk
    | succ d ih =>
      intro j hj u
      have inner : ∀ e i, i + e = w → pm_W (g_P ys) 199 19 [.ref 275, .int (nI k), .int (iI x), .int (iI y), .int (suI (fun j => suI (F j) w) j + suI (F j) i), .int (nI j), .int (nI i)] [] (I, L, g_R s, 306) (0, 0) Q := by
        intro e
        induction e with
        | zero =>
          intro i hi
          refine ps_iload rfl rfl ?_
          refine ps_aload rfl rfl ?_
          refine ps_iload rfl rfl ?_
          refine pw_k rfl rfl rfl rfl ⟨Nat.zero_le _, Nat.zero_le _⟩ ?_
          refine M_wideOf hk ?_
          refine ps_icmpt rfl (by rw [hw]; exact decide_eq_true (nI_le (by omega) (by omega))) ?_
          refine ps_iinc rfl rfl ?_
          refine ps_goto rfl ?_
          rw [show nI j + Int32.ofInt 1 = nI (j + 1) from nI_1 j, show i = w by omega]
          exact ih (j + 1) (by omega) _
        | succ e ihe =>
          intro i hi
          refine ps_iload rfl rfl ?_
          refine ps_aload rfl rfl ?_
          refine ps_iload rfl rfl ?_
          refine pw_k rfl rfl rfl rfl ⟨Nat.zero_le _, Nat.zero_le _⟩ ?_
          refine M_wideOf hk ?_
          refine ps_icmpf rfl (by rw [hw]; exact decide_eq_false (nI_ge (by omega) (by omega))) ?_
          refine ps_iload rfl rfl ?_
          refine ps_aload rfl rfl ?_
          refine ps_iload rfl rfl ?_
          refine ps_iload rfl rfl ?_
          refine ps_iload rfl rfl ?_
          rw [← iI_nat i, ← iI_nat j]
          refine pw_k rfl rfl rfl rfl ⟨Nat.zero_le _, Nat.zero_le _⟩ ?_
          refine M_isHole hp (by omega) (by omega) ?_
          refine ps_if rfl (fun hc => ?_) (fun hc => ?_)
          · have hh : ¬ I 280 (289 * k + cxy w v i j) = 1 := fun q => by rw [decide_eq_true q] at hc; exact absurd hc (by decide)
            refine pw_c rfl ?_
            refine ps_ar rfl rfl rfl rfl rfl ?_
            refine ps_istore rfl rfl ?_
            refine ps_iinc rfl rfl ?_
            refine ps_goto rfl ?_
            have hF : F j i = 0 := if_neg hh
            rw [iI_nat, iI_nat, show nI i + Int32.ofInt 1 = nI (i + 1) from nI_1 i]
            have := ihe (i + 1) (by omega)
            rw [suI, hF, ← Int32.add_assoc] at this
            exact this
          · have hh : I 280 (289 * k + cxy w v i j) = 1 := Classical.byContradiction fun q => by rw [decide_eq_false q] at hc; exact absurd hc (by decide)
            refine ps_aload rfl rfl ?_
            refine ps_iload rfl rfl ?_
            refine ps_iload rfl rfl ?_
            refine ps_iload rfl rfl ?_
            refine ps_ar rfl rfl rfl rfl rfl ?_
            refine ps_iload rfl rfl ?_
            refine ps_iload rfl rfl ?_
            refine ps_ar rfl rfl rfl rfl rfl ?_
            rw [iI_add, iI_add]
            refine pw_k rfl rfl rfl rfl ⟨Nat.zero_le _, Nat.zero_le _⟩ ?_
            refine M_weightOf hp (by omega) (by omega) ?_
            refine ps_goto rfl ?_
            refine ps_ar rfl rfl rfl rfl rfl ?_
            refine ps_istore rfl rfl ?_
            refine ps_iinc rfl rfl ?_
            refine ps_goto rfl ?_
            have hF : F j i = I 282 (289 * k + cxy w v (i + x) (j + y)) := if_pos hh
            rw [iI_nat, iI_nat, show nI i + Int32.ofInt 1 = nI (i + 1) from nI_1 i]
            have := ihe (i + 1) (by omega)
            rw [suI, hF, ← Int32.add_assoc] at this
            exact this
      refine ps_iload rfl rfl ?_
      refine ps_aload rfl rfl ?_
      refine ps_iload rfl rfl ?_
      refine pw_k rfl rfl rfl rfl ⟨Nat.zero_le _, Nat.zero_le _⟩ ?_
      refine M_highOf hk ?_
      refine ps_icmpf rfl (by rw [hv]; exact decide_eq_false (nI_ge (by omega) (by omega))) ?_
      refine pw_c rfl ?_
      refine ps_istore rfl rfl ?_
      have := inner w 0 (by omega)
      rw [suI, Int32.add_zero] at this
      exact this
  refine pw_c rfl ?_
  refine ps_istore rfl rfl ?_
  refine pw_c rfl ?_
  refine ps_istore rfl rfl ?_
  exact outer v 0 (by omega) _
end MC
