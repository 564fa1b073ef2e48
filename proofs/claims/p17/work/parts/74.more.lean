/-! THE MODEL: more small methods -/
section MD
variable {ys : List Int32} {I : Nat → Nat → Int32} {L : Nat → Nat → Int64} {s : Nat → Option Nat} {Q : List Value → pm_H → Prop} {h : pm_H}
theorem M_weightsOf {k w v : Nat} (hk : k < 6) (hw : I 278 (7 * k) = nI w) (hv : I 278 (7 * k + 1) = nI v) (hwv : w * v ≤ 289) (kk : Q [.int (suI (fun c => I 282 (289 * k + c)) (w * v))] (I, L, g_R s, 306)) : pm_W (g_P ys) 205 0 [.ref 275, .int (nI k), .retAddr 0, .retAddr 0] [] (I, L, g_R s, 306) (0, 0) Q := by
  have loop : ∀ d c, c + d = w * v → pm_W (g_P ys) 205 4 [.ref 275, .int (nI k), .int (suI (fun c => I 282 (289 * k + c)) c), .int (nI c)] [] (I, L, g_R s, 306) (0, 0) Q := by
    intro d
    induction d with
    | zero =>
      intro c hc
      refine ps_iload rfl rfl ?_
      refine ps_aload rfl rfl ?_
      refine ps_iload rfl rfl ?_
      refine pw_k rfl rfl rfl rfl ⟨Nat.zero_le _, Nat.zero_le _⟩ ?_
      refine M_cellsOf hk ?_
      refine ps_icmpt rfl (by rw [hw, hv, pk_mul]; exact decide_eq_true (nI_le (by omega) (by omega))) ?_
      refine ps_iload rfl rfl ?_
      refine ps_iret rfl rfl ?_
      rw [show c = w * v by omega]
      exact kk
    | succ d ih =>
      intro c hc
      refine ps_iload rfl rfl ?_
      refine ps_aload rfl rfl ?_
      refine ps_iload rfl rfl ?_
      refine pw_k rfl rfl rfl rfl ⟨Nat.zero_le _, Nat.zero_le _⟩ ?_
      refine M_cellsOf hk ?_
      refine ps_icmpf rfl (by rw [hw, hv, pk_mul]; exact decide_eq_false (nI_ge (by omega) (by omega))) ?_
      refine ps_iload rfl rfl ?_
      refine ps_aload rfl rfl ?_
      refine ps_gfr 11 8 rfl rfl rfl rfl rfl (rfl) ?_
      refine pw_c rfl ?_
      refine ps_iload rfl rfl ?_
      refine ps_ar rfl rfl rfl rfl rfl ?_
      refine ps_iload rfl rfl ?_
      refine ps_ar rfl rfl rfl rfl rfl ?_
      refine ps_iald (289 * k + c) rfl rfl rfl (by simp only [ni_lit, ni_l0, pk_mul, nI_add, Nat.add_zero]) (by omega) ?_
      refine ps_ar rfl rfl rfl rfl rfl ?_
      refine ps_istore rfl rfl ?_
      refine ps_iinc rfl rfl ?_
      refine ps_goto rfl ?_
      rw [show nI c + Int32.ofInt 1 = nI (c + 1) from nI_1 c]
      exact ih (c + 1) (by omega)
  refine pw_c rfl ?_
  refine ps_istore rfl rfl ?_
  refine pw_c rfl ?_
  refine ps_istore rfl rfl ?_
  exact loop (w * v) 0 (by omega)
theorem M_manyOf0 (kk : Q [.int 0] h) : pm_W (g_P ys) 219 0 [.int 0] [] h (0, 0) Q := by
  refine ps_iload rfl rfl ?_
  refine ps_iff rfl (by decide) ?_
  refine pw_c rfl ?_
  refine ps_goto rfl ?_
  refine ps_iret rfl rfl ?_
  exact kk
theorem M_manyOf1 (kk : Q [.int 1] h) : pm_W (g_P ys) 219 0 [.int 1] [] h (0, 0) Q := by
  refine ps_iload rfl rfl ?_
  refine ps_ift rfl (by decide) ?_
  refine ps_iload rfl rfl ?_
  refine pw_c rfl ?_
  refine ps_icmpf rfl (by decide) ?_
  refine pw_c rfl ?_
  refine ps_goto rfl ?_
  refine ps_iret rfl rfl ?_
  exact kk
theorem M_manyOf2 (kk : Q [.int 2] h) : pm_W (g_P ys) 219 0 [.int 2] [] h (0, 0) Q := by
  refine ps_iload rfl rfl ?_
  refine ps_ift rfl (by decide) ?_
  refine ps_iload rfl rfl ?_
  refine pw_c rfl ?_
  refine ps_icmpt rfl (by decide) ?_
  refine pw_c rfl ?_
  refine ps_iret rfl rfl ?_
  exact kk
theorem M_rowOf0 (kk : Q [.int 5] h) : pm_W (g_P ys) 220 0 [.int 0] [] h (0, 0) Q := by
  refine ps_iload rfl rfl ?_
  refine ps_iff rfl (by decide) ?_
  refine pw_c rfl ?_
  refine ps_goto rfl ?_
  refine ps_iret rfl rfl ?_
  exact kk
theorem M_rowOf1 (kk : Q [.int 29] h) : pm_W (g_P ys) 220 0 [.int 1] [] h (0, 0) Q := by
  refine ps_iload rfl rfl ?_
  refine ps_ift rfl (by decide) ?_
  refine ps_iload rfl rfl ?_
  refine pw_c rfl ?_
  refine ps_icmpf rfl (by decide) ?_
  refine pw_c rfl ?_
  refine ps_goto rfl ?_
  refine ps_iret rfl rfl ?_
  exact kk
theorem M_rowOf2 (kk : Q [.int 65] h) : pm_W (g_P ys) 220 0 [.int 2] [] h (0, 0) Q := by
  refine ps_iload rfl rfl ?_
  refine ps_ift rfl (by decide) ?_
  refine ps_iload rfl rfl ?_
  refine pw_c rfl ?_
  refine ps_icmpt rfl (by decide) ?_
  refine pw_c rfl ?_
  refine ps_iret rfl rfl ?_
  exact kk
theorem M_isPlate {a : Int32} (kk : Q [.int (bI (decide ((0 : Int64) ≤ a.toInt64) && decide (a.toInt64 ≤ (I 275 14 - 1).toInt64)))] (I, L, g_R s, 306)) : pm_W (g_P ys) 194 0 [.ref 275, .int a] [] (I, L, g_R s, 306) (0, 0) Q := by
  refine ps_iload rfl rfl ?_
  refine ps_ar rfl rfl rfl rfl rfl ?_
  refine pw_c rfl ?_
  refine ps_aload rfl rfl ?_
  refine ps_gfi 11 14 rfl rfl rfl rfl rfl ?_
  refine pw_c rfl ?_
  refine ps_ar rfl rfl rfl rfl rfl ?_
  refine ps_ar rfl rfl rfl rfl rfl ?_
  refine pw_k rfl rfl rfl rfl ⟨Nat.zero_le _, Nat.zero_le _⟩ ?_
  refine M_isIn ?_
  refine ps_zret rfl rfl (bI_01 _) ?_
  exact kk
end MD
