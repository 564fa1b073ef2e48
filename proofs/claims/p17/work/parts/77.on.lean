/-! THE MODEL: what writes; on, thing -/
theorem bI_eq0 : ∀ b : Bool, pm_cmp .eq (bI b) 0 = true → b = false := by decide
theorem bI_eq1 : ∀ b : Bool, pm_cmp .eq (bI b) 0 = false → b = true := by decide
section MG
variable {ys : List Int32} {I : Nat → Nat → Int32} {L : Nat → Nat → Int64} {s : Nat → Option Nat} {Q : List Value → pm_H → Prop}
theorem M_is {a : Int32} (kk : Q [.int (bI (decide (a = 0)))] (pm_u (pm_u I 275 1 0) 275 0 a, L, g_R s, 306)) : pm_W (g_P ys) 192 0 [.ref 275, .int a] [] (I, L, g_R s, 306) (0, 0) Q := by
  refine ps_aload rfl rfl ?_
  refine pw_c rfl ?_
  refine ps_pfi 11 1 rfl rfl rfl rfl rfl ?_
  refine ps_aload rfl rfl ?_
  refine ps_iload rfl rfl ?_
  refine ps_pfi 11 0 rfl rfl rfl rfl rfl ?_
  refine ps_iload rfl rfl ?_
  refine ps_if rfl (fun hc => ?_) (fun hc => ?_)
  · have hn : ¬ a = 0 := by simpa [pm_cmp] using hc
    refine pw_c rfl ?_
    refine ps_zret rfl rfl (Or.inl rfl) ?_
    rw [decide_eq_false hn] at kk
    exact kk
  · have hn : a = 0 := by simpa [pm_cmp] using hc
    refine pw_c rfl ?_
    refine ps_goto rfl ?_
    refine ps_zret rfl rfl (Or.inr rfl) ?_
    rw [decide_eq_true hn] at kk
    exact kk
theorem M_isOn {k : Nat} {x y : Int32} (hk : k < 6) {A B : Bool} (hA : (decide ((0 : Int64) ≤ x.toInt64) && decide (x.toInt64 ≤ (I 278 (7 * k) - 1).toInt64)) = A) (hB : (decide ((0 : Int64) ≤ y.toInt64) && decide (y.toInt64 ≤ (I 278 (7 * k + 1) - 1).toInt64)) = B) (kk : Q [.int (bI (A && B))] (I, L, g_R s, 306)) : pm_W (g_P ys) 208 0 [.ref 275, .int (nI k), .int x, .int y] [] (I, L, g_R s, 306) (0, 0) Q := by
  have z2 : ∀ b c : Int64, (decide ((0 : Int64) ≤ c) && decide (c ≤ b)) = B → A = true → pm_W (g_P ys) 208 28 [.ref 275, .int (nI k), .int x, .int y] [.long b, .long 0, .long c] (I, L, g_R s, 306) (0, 0) Q := by
    intro b c hB hA
    rw [hA] at kk
    refine pw_k rfl rfl rfl rfl ⟨Nat.zero_le _, Nat.zero_le _⟩ ?_
    refine M_isIn ?_
    rw [hB]
    refine ps_if rfl (fun hd => ?_) (fun hd => ?_)
    · rw [bI_eq0 _ hd] at kk
      refine pw_c rfl ?_
      refine ps_zret rfl rfl (Or.inl rfl) ?_
      exact kk
    · rw [bI_eq1 _ hd] at kk
      refine pw_c rfl ?_
      refine ps_goto rfl ?_
      refine ps_zret rfl rfl (Or.inr rfl) ?_
      exact kk
  have z1 : ∀ b c : Int64, (decide ((0 : Int64) ≤ c) && decide (c ≤ b)) = A → pm_W (g_P ys) 208 11 [.ref 275, .int (nI k), .int x, .int y] [.long b, .long 0, .long c] (I, L, g_R s, 306) (0, 0) Q := by
    intro b c hA
    refine pw_k rfl rfl rfl rfl ⟨Nat.zero_le _, Nat.zero_le _⟩ ?_
    refine M_isIn ?_
    rw [hA]
    refine ps_if rfl (fun hc => ?_) (fun hc => ?_)
    · rw [bI_eq0 _ hc] at kk
      refine pw_c rfl ?_
      refine ps_zret rfl rfl (Or.inl rfl) ?_
      exact kk
    · refine ps_iload rfl rfl ?_
      refine ps_ar rfl rfl rfl rfl rfl ?_
      refine pw_c rfl ?_
      refine ps_aload rfl rfl ?_
      refine ps_iload rfl rfl ?_
      refine pw_k rfl rfl rfl rfl ⟨Nat.zero_le _, Nat.zero_le _⟩ ?_
      refine M_highOf hk ?_
      refine pw_c rfl ?_
      refine ps_ar rfl rfl rfl rfl rfl ?_
      refine ps_ar rfl rfl rfl rfl rfl ?_
      exact z2 _ _ hB (bI_eq1 _ hc)
  refine ps_iload rfl rfl ?_
  refine ps_ar rfl rfl rfl rfl rfl ?_
  refine pw_c rfl ?_
  refine ps_aload rfl rfl ?_
  refine ps_iload rfl rfl ?_
  refine pw_k rfl rfl rfl rfl ⟨Nat.zero_le _, Nat.zero_le _⟩ ?_
  refine M_wideOf hk ?_
  refine pw_c rfl ?_
  refine ps_ar rfl rfl rfl rfl rfl ?_
  refine ps_ar rfl rfl rfl rfl rfl ?_
  exact z1 _ _ hA
end MG
