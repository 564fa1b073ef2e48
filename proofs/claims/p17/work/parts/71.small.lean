/-! THE MODEL: small methods -/
theorem ni_lit (n : Nat) : (OfNat.ofNat n : Int32) = nI n := by
  apply Int32.toBitVec_inj.mp
  simp [nI, OfNat.ofNat]
theorem ni_l0 : (0 : Int32) = nI 0 := rfl
section MA
variable {ys : List Int32} {I : Nat → Nat → Int32} {L : Nat → Nat → Int64} {s : Nat → Option Nat} {Q : List Value → pm_H → Prop}
theorem M_wideOf {k : Nat} (hk : k < 6) (kk : Q [.int (I 278 (7 * k))] (I, L, g_R s, 306)) : pm_W (g_P ys) 196 0 [.ref 275, .int (nI k)] [] (I, L, g_R s, 306) (0, 0) Q := by
  refine ps_aload rfl rfl ?_
  refine ps_gfr 11 4 rfl rfl rfl rfl rfl (rfl) ?_
  refine pw_c rfl ?_
  refine ps_iload rfl rfl ?_
  refine ps_ar rfl rfl rfl rfl rfl ?_
  refine pw_c rfl ?_
  refine ps_ar rfl rfl rfl rfl rfl ?_
  refine ps_iald (7 * k) rfl rfl rfl (by simp only [ni_lit, ni_l0, pk_mul, nI_add, Nat.add_zero]) (by omega) ?_
  refine ps_iret rfl rfl ?_
  exact kk
theorem M_highOf {k : Nat} (hk : k < 6) (kk : Q [.int (I 278 (7 * k + 1))] (I, L, g_R s, 306)) : pm_W (g_P ys) 197 0 [.ref 275, .int (nI k)] [] (I, L, g_R s, 306) (0, 0) Q := by
  refine ps_aload rfl rfl ?_
  refine ps_gfr 11 4 rfl rfl rfl rfl rfl (rfl) ?_
  refine pw_c rfl ?_
  refine ps_iload rfl rfl ?_
  refine ps_ar rfl rfl rfl rfl rfl ?_
  refine pw_c rfl ?_
  refine ps_ar rfl rfl rfl rfl rfl ?_
  refine ps_iald (7 * k + 1) rfl rfl rfl (by simp only [ni_lit, ni_l0, pk_mul, nI_add, Nat.add_zero]) (by omega) ?_
  refine ps_iret rfl rfl ?_
  exact kk
theorem M_cellsOf {k : Nat} (hk : k < 6) (kk : Q [.int (I 278 (7 * k) * I 278 (7 * k + 1))] (I, L, g_R s, 306)) : pm_W (g_P ys) 195 0 [.ref 275, .int (nI k)] [] (I, L, g_R s, 306) (0, 0) Q := by
  refine ps_aload rfl rfl ?_
  refine ps_iload rfl rfl ?_
  refine pw_k rfl rfl rfl rfl ⟨Nat.zero_le _, Nat.zero_le _⟩ ?_
  refine M_wideOf hk ?_
  refine ps_aload rfl rfl ?_
  refine ps_iload rfl rfl ?_
  refine pw_k rfl rfl rfl rfl ⟨Nat.zero_le _, Nat.zero_le _⟩ ?_
  refine M_highOf hk ?_
  refine ps_ar rfl rfl rfl rfl rfl ?_
  refine ps_iret rfl rfl ?_
  exact kk
/-- a sum of places -/
def suI (f : Nat → Int32) : Nat → Int32
  | 0 => 0
  | n + 1 => suI f n + f n
theorem M_holesOf {k w v : Nat} (hk : k < 6) (hw : I 278 (7 * k) = nI w) (hv : I 278 (7 * k + 1) = nI v) (hwv : w * v ≤ 289) (kk : Q [.int (suI (fun c => I 280 (289 * k + c)) (w * v))] (I, L, g_R s, 306)) : pm_W (g_P ys) 204 0 [.ref 275, .int (nI k), .retAddr 0, .retAddr 0] [] (I, L, g_R s, 306) (0, 0) Q := by
  have loop : ∀ d c, c + d = w * v → pm_W (g_P ys) 204 4 [.ref 275, .int (nI k), .int (suI (fun c => I 280 (289 * k + c)) c), .int (nI c)] [] (I, L, g_R s, 306) (0, 0) Q := by
    intro d
    induction d with
    | zero =>
      intro c hc
      refine ps_iload rfl rfl ?_
      refine ps_aload rfl rfl ?_
      refine ps_iload rfl rfl ?_
      refine pw_k rfl rfl rfl rfl ⟨Nat.zero_le _, Nat.zero_le _⟩ ?_
      refine M_cellsOf hk ?_
      refine ps_icmpt rfl (by rw [hw, hv, pk_mul]; exact decide_eq_true (nI_le (by omega) (by omega))) ?_
      refine ps_iload rfl rfl ?_
      refine ps_iret rfl rfl ?_
      rw [show c = w * v by omega]
      exact kk
    | succ d ih =>
      intro c hc
      refine ps_iload rfl rfl ?_
      refine ps_aload rfl rfl ?_
      refine ps_iload rfl rfl ?_
      refine pw_k rfl rfl rfl rfl ⟨Nat.zero_le _, Nat.zero_le _⟩ ?_
      refine M_cellsOf hk ?_
      refine ps_icmpf rfl (by rw [hw, hv, pk_mul]; exact decide_eq_false (nI_ge (by omega) (by omega))) ?_
      refine ps_iload rfl rfl ?_
      refine ps_aload rfl rfl ?_
      refine ps_gfr 11 6 rfl rfl rfl rfl rfl (rfl) ?_
      refine pw_c rfl ?_
      refine ps_iload rfl rfl ?_
      refine ps_ar rfl rfl rfl rfl rfl ?_
      refine ps_iload rfl rfl ?_
      refine ps_ar rfl rfl rfl rfl rfl ?_
      refine ps_iald (289 * k + c) rfl rfl rfl (by simp only [ni_lit, ni_l0, pk_mul, nI_add, Nat.add_zero]) (by omega) ?_
      refine ps_ar rfl rfl rfl rfl rfl ?_
      refine ps_istore rfl rfl ?_
      refine ps_iinc rfl rfl ?_
      refine ps_goto rfl ?_
      rw [show nI c + Int32.ofInt 1 = nI (c + 1) from nI_1 c]
      exact ih (c + 1) (by omega)
  refine pw_c rfl ?_
  refine ps_istore rfl rfl ?_
  refine pw_c rfl ?_
  refine ps_istore rfl rfl ?_
  exact loop (w * v) 0 (by omega)
end MA
