/-! BY HAND: how a text is read, ninth: load -/
section IN
variable {I I' J : Nat → Nat → Int32}
theorem row_s {a c : Nat} {x : Int32} {G H : Nat → Int32} (h : ∀ j, I' a j = if j < c then G j else H j) (hx : x = G c) : ∀ j, pm_u I' a c x a j = if j < c + 1 then G j else H j := by
  intro j
  by_cases e : j = c
  · subst e
    rw [pu_s, if_pos (by omega), hx]
  · rw [pu_n e, h j]
    by_cases e2 : j < c
    · rw [if_pos e2, if_pos (by omega)]
    · rw [if_neg e2, if_neg (by omega)]
/-- what load has laid: how far in each row -/
def ldS (J I' : Nat → Nat → Int32) (c1 c2 c3 c4 c5 : Nat) : Prop :=
  (∀ a j, ¬ a = 275 → ¬ a = 278 → ¬ a = 280 → ¬ a = 282 → ¬ a = 276 → ¬ a = 294 → ¬ a = 288 → I' a j = J a j) ∧
  (∀ j, ¬ j = 14 → I' 275 j = J 275 j) ∧ I' 275 14 = J 275 15 ∧
  (∀ j, I' 278 j = if j < c1 then J 279 j else J 278 j) ∧
  (∀ j, I' 280 j = if j < c2 then J 281 j else J 280 j) ∧
  (∀ j, ¬ j < 1734 → I' 282 j = J 282 j) ∧
  (∀ j, I' 276 j = if j < c3 then J 277 j else J 276 j) ∧
  (∀ j, I' 294 j = if j < c4 then 0 else J 294 j) ∧
  (∀ j, I' 288 j = if j < c5 then J 289 j else J 288 j)
theorem ld_plate {c1 c2 c3 c4 c5 : Nat} {x : Int32} (h : ldS J I' c1 c2 c3 c4 c5) (hx : x = J 279 c1) : ldS J (pm_u I' 278 c1 x) (c1 + 1) c2 c3 c4 c5 := by
  obtain ⟨h1, h2, h3, h4, h5, h6, h7, h8, h9⟩ := h
  refine ⟨fun a j q0 q1 q2 q3 q4 q5 q6 => ?_, fun j q => ?_, ?_, fun j => ?_, fun j => ?_, fun j q => ?_, fun j => ?_, fun j => ?_, fun j => ?_⟩
  · rw [pu_o q1]; exact h1 a j q0 q1 q2 q3 q4 q5 q6
  · rw [pu_o (by decide)]; exact h2 j q
  · rw [pu_o (by decide)]; exact h3
  · exact row_s (G := fun j => J 279 j) h4 hx j
  · rw [pu_o (by decide)]; exact h5 j
  · rw [pu_o (by decide)]; exact h6 j q
  · rw [pu_o (by decide)]; exact h7 j
  · rw [pu_o (by decide)]; exact h8 j
  · rw [pu_o (by decide)]; exact h9 j
theorem ld_hole {c1 c2 c3 c4 c5 : Nat} {x : Int32} (h : ldS J I' c1 c2 c3 c4 c5) (hx : x = J 281 c2) : ldS J (pm_u I' 280 c2 x) c1 (c2 + 1) c3 c4 c5 := by
  obtain ⟨h1, h2, h3, h4, h5, h6, h7, h8, h9⟩ := h
  refine ⟨fun a j q0 q1 q2 q3 q4 q5 q6 => ?_, fun j q => ?_, ?_, fun j => ?_, fun j => ?_, fun j q => ?_, fun j => ?_, fun j => ?_, fun j => ?_⟩
  · rw [pu_o q2]; exact h1 a j q0 q1 q2 q3 q4 q5 q6
  · rw [pu_o (by decide)]; exact h2 j q
  · rw [pu_o (by decide)]; exact h3
  · rw [pu_o (by decide)]; exact h4 j
  · exact row_s (G := fun j => J 281 j) h5 hx j
  · rw [pu_o (by decide)]; exact h6 j q
  · rw [pu_o (by decide)]; exact h7 j
  · rw [pu_o (by decide)]; exact h8 j
  · rw [pu_o (by decide)]; exact h9 j
theorem ld_places {c1 c2 c3 c4 c5 : Nat} {x : Int32} (h : ldS J I' c1 c2 c3 c4 c5) (hx : x = J 277 c3) : ldS J (pm_u I' 276 c3 x) c1 c2 (c3 + 1) c4 c5 := by
  obtain ⟨h1, h2, h3, h4, h5, h6, h7, h8, h9⟩ := h
  refine ⟨fun a j q0 q1 q2 q3 q4 q5 q6 => ?_, fun j q => ?_, ?_, fun j => ?_, fun j => ?_, fun j q => ?_, fun j => ?_, fun j => ?_, fun j => ?_⟩
  · rw [pu_o q4]; exact h1 a j q0 q1 q2 q3 q4 q5 q6
  · rw [pu_o (by decide)]; exact h2 j q
  · rw [pu_o (by decide)]; exact h3
  · rw [pu_o (by decide)]; exact h4 j
  · rw [pu_o (by decide)]; exact h5 j
  · rw [pu_o (by decide)]; exact h6 j q
  · exact row_s (G := fun j => J 277 j) h7 hx j
  · rw [pu_o (by decide)]; exact h8 j
  · rw [pu_o (by decide)]; exact h9 j
theorem ld_areSides {c1 c2 c3 c4 c5 : Nat} {x : Int32} (h : ldS J I' c1 c2 c3 c4 c5) (hx : x = 0) : ldS J (pm_u I' 294 c4 x) c1 c2 c3 (c4 + 1) c5 := by
  obtain ⟨h1, h2, h3, h4, h5, h6, h7, h8, h9⟩ := h
  refine ⟨fun a j q0 q1 q2 q3 q4 q5 q6 => ?_, fun j q => ?_, ?_, fun j => ?_, fun j => ?_, fun j q => ?_, fun j => ?_, fun j => ?_, fun j => ?_⟩
  · rw [pu_o q5]; exact h1 a j q0 q1 q2 q3 q4 q5 q6
  · rw [pu_o (by decide)]; exact h2 j q
  · rw [pu_o (by decide)]; exact h3
  · rw [pu_o (by decide)]; exact h4 j
  · rw [pu_o (by decide)]; exact h5 j
  · rw [pu_o (by decide)]; exact h6 j q
  · rw [pu_o (by decide)]; exact h7 j
  · exact row_s (G := fun j => 0) h8 hx j
  · rw [pu_o (by decide)]; exact h9 j
theorem ld_now {c1 c2 c3 c4 c5 : Nat} {x : Int32} (h : ldS J I' c1 c2 c3 c4 c5) (hx : x = J 289 c5) : ldS J (pm_u I' 288 c5 x) c1 c2 c3 c4 (c5 + 1) := by
  obtain ⟨h1, h2, h3, h4, h5, h6, h7, h8, h9⟩ := h
  refine ⟨fun a j q0 q1 q2 q3 q4 q5 q6 => ?_, fun j q => ?_, ?_, fun j => ?_, fun j => ?_, fun j q => ?_, fun j => ?_, fun j => ?_, fun j => ?_⟩
  · rw [pu_o q6]; exact h1 a j q0 q1 q2 q3 q4 q5 q6
  · rw [pu_o (by decide)]; exact h2 j q
  · rw [pu_o (by decide)]; exact h3
  · rw [pu_o (by decide)]; exact h4 j
  · rw [pu_o (by decide)]; exact h5 j
  · rw [pu_o (by decide)]; exact h6 j q
  · rw [pu_o (by decide)]; exact h7 j
  · rw [pu_o (by decide)]; exact h8 j
  · exact row_s (G := fun j => J 289 j) h9 hx j
theorem ld_weight {c1 c2 c3 c4 c5 i : Nat} {x : Int32} (h : ldS J I' c1 c2 c3 c4 c5) (hi : i < 1734) : ldS J (pm_u I' 282 i x) c1 c2 c3 c4 c5 := by
  obtain ⟨h1, h2, h3, h4, h5, h6, h7, h8, h9⟩ := h
  refine ⟨fun a j q0 q1 q2 q3 q4 q5 q6 => ?_, fun j q => ?_, ?_, fun j => ?_, fun j => ?_, fun j q => ?_, fun j => ?_, fun j => ?_, fun j => ?_⟩
  · rw [pu_o q3]; exact h1 a j q0 q1 q2 q3 q4 q5 q6
  · rw [pu_o (by decide)]; exact h2 j q
  · rw [pu_o (by decide)]; exact h3
  · rw [pu_o (by decide)]; exact h4 j
  · rw [pu_o (by decide)]; exact h5 j
  · rw [pu_n (by omega)]; exact h6 j q
  · rw [pu_o (by decide)]; exact h7 j
  · rw [pu_o (by decide)]; exact h8 j
  · rw [pu_o (by decide)]; exact h9 j
end IN
section IO
variable {ys : List Int32} {J : Nat → Nat → Int32} {L : Nat → Nat → Int64} {s : Nat → Option Nat} {Q : List Value → pm_H → Prop}
/-- all that load lays, once the text is good -/
theorem M_lays (kk : ∀ I' L', ldS J I' 42 1734 282 6 89 → ∀ r, Q [.int r] (pm_u (pm_u I' 275 19 0) 275 41 0, L', g_R s, 306)) (n : Int32) (u : Value) : pm_W (g_P ys) 278 140 [.ref 275, .int n, u] [] (J, L, g_R s, 306) (0, 0) Q := by
  have e5 : ∀ d i, i + d = 89 → ∀ I' L', ldS J I' 42 1734 282 6 i → pm_W (g_P ys) 278 287 [.ref 275, .int n, .int (nI i)] [] (I', L', g_R s, 306) (0, 0) Q := by
    intro d
    induction d with
    | zero =>
      intro i hi I' L' k
      have hi : i = 89 := by omega
      subst hi
      refine ps_iload rfl rfl ?_
      refine pw_c rfl ?_
      refine ps_icmpt rfl (by decide) ?_
      refine ps_aload rfl rfl ?_
      refine pw_c rfl ?_
      refine ps_pfi 11 19 rfl rfl rfl rfl rfl ?_
      refine ps_aload rfl rfl ?_
      refine pw_c rfl ?_
      refine ps_pfz 11 41 rfl rfl rfl rfl rfl (Or.inl rfl) ?_
      refine ps_aload rfl rfl ?_
      refine ps_gfi 11 14 rfl rfl rfl rfl rfl ?_
      refine ps_iret rfl rfl ?_
      exact kk _ _ k _
    | succ d ih =>
      intro i hi I' L' k
      refine ps_iload rfl rfl ?_
      refine pw_c rfl ?_
      refine ps_icmpf rfl (decide_eq_false (nI_ge (b := 89) (by omega) (by omega))) ?_
      refine ps_aload rfl rfl ?_
      refine ps_gfr 11 16 rfl rfl rfl rfl rfl (rfl) ?_
      refine ps_iload rfl rfl ?_
      refine ps_aload rfl rfl ?_
      refine ps_gfr 11 17 rfl rfl rfl rfl rfl (rfl) ?_
      refine ps_iload rfl rfl ?_
      refine ps_iald (i) rfl rfl rfl (rfl) (by omega) ?_
      refine ps_iast (i) rfl rfl rfl (rfl) (by omega) ?_
      refine ps_iinc rfl rfl ?_
      refine ps_goto rfl ?_
      rw [show nI i + Int32.ofInt 1 = nI (i + 1) from nI_1 i]
      exact ih (i + 1) (by omega) _ _ (ld_now k (k.1 _ _ (by decide) (by decide) (by decide) (by decide) (by decide) (by decide) (by decide)))
  have e4 : ∀ d i, i + d = 6 → ∀ I' L', ldS J I' 42 1734 282 i 0 → pm_W (g_P ys) 278 242 [.ref 275, .int n, .int (nI i)] [] (I', L', g_R s, 306) (0, 0) Q := by
    intro d
    induction d with
    | zero =>
      intro i hi I' L' k
      have hi : i = 6 := by omega
      subst hi
      refine ps_iload rfl rfl ?_
      refine pw_c rfl ?_
      refine ps_icmpt rfl (by decide) ?_
      refine pw_c rfl ?_
      refine ps_istore rfl rfl ?_
      exact e5 89 0 (by omega) _ _ k
    | succ d ih =>
      intro i hi I' L' k
      refine ps_iload rfl rfl ?_
      refine pw_c rfl ?_
      refine ps_icmpf rfl (decide_eq_false (nI_ge (b := 6) (by omega) (by omega))) ?_
      refine ps_aload rfl rfl ?_
      refine ps_gfr 11 10 rfl rfl rfl rfl rfl (rfl) ?_
      refine ps_iload rfl rfl ?_
      refine ps_aload rfl rfl ?_
      refine ps_gfr 11 11 rfl rfl rfl rfl rfl (rfl) ?_
      refine ps_iload rfl rfl ?_
      refine ps_lald (i) rfl rfl rfl (rfl) (by omega) ?_
      refine ps_last (i) rfl rfl rfl (rfl) (by omega) ?_
      refine ps_aload rfl rfl ?_
      refine ps_gfr 11 12 rfl rfl rfl rfl rfl (rfl) ?_
      refine ps_iload rfl rfl ?_
      refine ps_aload rfl rfl ?_
      refine ps_gfr 11 13 rfl rfl rfl rfl rfl (rfl) ?_
      refine ps_iload rfl rfl ?_
      refine ps_lald (i) rfl rfl rfl (rfl) (by omega) ?_
      refine ps_last (i) rfl rfl rfl (rfl) (by omega) ?_
      refine ps_aload rfl rfl ?_
      refine ps_gfr 11 23 rfl rfl rfl rfl rfl (rfl) ?_
      refine ps_iload rfl rfl ?_
      refine pw_c rfl ?_
      refine ps_zast (i) rfl rfl rfl (rfl) (by omega) ?_
      refine ps_iinc rfl rfl ?_
      refine ps_goto rfl ?_
      rw [show nI i + Int32.ofInt 1 = nI (i + 1) from nI_1 i]
      exact ih (i + 1) (by omega) _ _ (ld_areSides k rfl)
  have e3 : ∀ d i, i + d = 282 → ∀ I' L', ldS J I' 42 1734 i 0 0 → pm_W (g_P ys) 278 215 [.ref 275, .int n, .int (nI i)] [] (I', L', g_R s, 306) (0, 0) Q := by
    intro d
    induction d with
    | zero =>
      intro i hi I' L' k
      have hi : i = 282 := by omega
      subst hi
      refine ps_iload rfl rfl ?_
      refine pw_c rfl ?_
      refine ps_icmpt rfl (by decide) ?_
      refine pw_c rfl ?_
      refine ps_istore rfl rfl ?_
      exact e4 6 0 (by omega) _ _ k
    | succ d ih =>
      intro i hi I' L' k
      refine ps_iload rfl rfl ?_
      refine pw_c rfl ?_
      refine ps_icmpf rfl (decide_eq_false (nI_ge (b := 282) (by omega) (by omega))) ?_
      refine ps_aload rfl rfl ?_
      refine ps_gfr 11 2 rfl rfl rfl rfl rfl (rfl) ?_
      refine ps_iload rfl rfl ?_
      refine ps_aload rfl rfl ?_
      refine ps_gfr 11 3 rfl rfl rfl rfl rfl (rfl) ?_
      refine ps_iload rfl rfl ?_
      refine ps_iald (i) rfl rfl rfl (rfl) (by omega) ?_
      refine ps_iast (i) rfl rfl rfl (rfl) (by omega) ?_
      refine ps_iinc rfl rfl ?_
      refine ps_goto rfl ?_
      rw [show nI i + Int32.ofInt 1 = nI (i + 1) from nI_1 i]
      exact ih (i + 1) (by omega) _ _ (ld_places k (k.1 _ _ (by decide) (by decide) (by decide) (by decide) (by decide) (by decide) (by decide)))
  have e2 : ∀ d i, i + d = 1734 → ∀ I' L', ldS J I' 42 i 0 0 0 → pm_W (g_P ys) 278 176 [.ref 275, .int n, .int (nI i)] [] (I', L', g_R s, 306) (0, 0) Q := by
    intro d
    induction d with
    | zero =>
      intro i hi I' L' k
      have hi : i = 1734 := by omega
      subst hi
      refine ps_iload rfl rfl ?_
      refine pw_c rfl ?_
      refine ps_icmpt rfl (by decide) ?_
      refine pw_c rfl ?_
      refine ps_istore rfl rfl ?_
      exact e3 282 0 (by omega) _ _ k
    | succ d ih =>
      intro i hi I' L' k
      refine ps_iload rfl rfl ?_
      refine pw_c rfl ?_
      refine ps_icmpf rfl (decide_eq_false (nI_ge (b := 1734) (by omega) (by omega))) ?_
      refine ps_aload rfl rfl ?_
      refine ps_gfr 11 6 rfl rfl rfl rfl rfl (rfl) ?_
      refine ps_iload rfl rfl ?_
      refine ps_aload rfl rfl ?_
      refine ps_gfr 11 7 rfl rfl rfl rfl rfl (rfl) ?_
      refine ps_iload rfl rfl ?_
      refine ps_iald (i) rfl rfl rfl (rfl) (by omega) ?_
      refine ps_iast (i) rfl rfl rfl (rfl) (by omega) ?_
      refine ps_aload rfl rfl ?_
      refine ps_gfr 11 8 rfl rfl rfl rfl rfl (rfl) ?_
      refine ps_iload rfl rfl ?_
      refine ps_aload rfl rfl ?_
      refine ps_gfr 11 9 rfl rfl rfl rfl rfl (rfl) ?_
      refine ps_iload rfl rfl ?_
      refine ps_iald (i) rfl rfl rfl (rfl) (by omega) ?_
      refine ps_iast (i) rfl rfl rfl (rfl) (by omega) ?_
      refine ps_iinc rfl rfl ?_
      refine ps_goto rfl ?_
      rw [show nI i + Int32.ofInt 1 = nI (i + 1) from nI_1 i]
      exact ih (i + 1) (by omega) _ _ (ld_weight (ld_hole k (k.1 _ _ (by decide) (by decide) (by decide) (by decide) (by decide) (by decide) (by decide))) (by omega))
  have e1 : ∀ d i, i + d = 42 → ∀ I' L', ldS J I' i 0 0 0 0 → pm_W (g_P ys) 278 150 [.ref 275, .int n, .int (nI i)] [] (I', L', g_R s, 306) (0, 0) Q := by
    intro d
    induction d with
    | zero =>
      intro i hi I' L' k
      have hi : i = 42 := by omega
      subst hi
      refine ps_iload rfl rfl ?_
      refine pw_c rfl ?_
      refine ps_icmpt rfl (by decide) ?_
      refine pw_c rfl ?_
      refine ps_istore rfl rfl ?_
      exact e2 1734 0 (by omega) _ _ k
    | succ d ih =>
      intro i hi I' L' k
      refine ps_iload rfl rfl ?_
      refine pw_c rfl ?_
      refine ps_icmpf rfl (decide_eq_false (nI_ge (b := 42) (by omega) (by omega))) ?_
      refine ps_aload rfl rfl ?_
      refine ps_gfr 11 4 rfl rfl rfl rfl rfl (rfl) ?_
      refine ps_iload rfl rfl ?_
      refine ps_aload rfl rfl ?_
      refine ps_gfr 11 5 rfl rfl rfl rfl rfl (rfl) ?_
      refine ps_iload rfl rfl ?_
      refine ps_iald (i) rfl rfl rfl (rfl) (by omega) ?_
      refine ps_iast (i) rfl rfl rfl (rfl) (by omega) ?_
      refine ps_iinc rfl rfl ?_
      refine ps_goto rfl ?_
      rw [show nI i + Int32.ofInt 1 = nI (i + 1) from nI_1 i]
      exact ih (i + 1) (by omega) _ _ (ld_plate k (k.1 _ _ (by decide) (by decide) (by decide) (by decide) (by decide) (by decide) (by decide)))
  refine ps_aload rfl rfl ?_
  refine ps_aload rfl rfl ?_
  refine ps_gfi 11 15 rfl rfl rfl rfl rfl ?_
  refine ps_pfi 11 14 rfl rfl rfl rfl rfl ?_
  refine pw_c rfl ?_
  refine ps_istore rfl rfl ?_
  refine e1 42 0 (by omega) _ _ ⟨fun a j q0 _ _ _ _ _ _ => ?_, fun j q => ?_, ?_, fun j => ?_, fun j => ?_, fun j _ => ?_, fun j => ?_, fun j => ?_, fun j => ?_⟩
  · exact pu_o q0
  · exact pu_n q
  · exact pu_s
  · show pm_u J 275 _ _ _ j = _
    rw [if_neg (by omega), pu_o (by decide)]
  · show pm_u J 275 _ _ _ j = _
    rw [if_neg (by omega), pu_o (by decide)]
  · exact pu_o (by decide)
  · show pm_u J 275 _ _ _ j = _
    rw [if_neg (by omega), pu_o (by decide)]
  · show pm_u J 275 _ _ _ j = _
    rw [if_neg (by omega), pu_o (by decide)]
  · show pm_u J 275 _ _ _ j = _
    rw [if_neg (by omega), pu_o (by decide)]
end IO
