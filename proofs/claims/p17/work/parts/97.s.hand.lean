/-! BY HAND: the model's load, exactly -/
section KQ
variable {f T : Nat → Int32} {I I' I'' J : Nat → Nat → Int32} {L L' : Nat → Nat → Int64} {n c t : Nat} {s : Nat → Option Nat} {Q : List Value → pm_H → Prop} {ys : List Int32} {B : sB}
/-- what load has laid: how far in each row -/
def ldX (J I' : Nat → Nat → Int32) (c1 c2 c4 c5 : Nat) : Prop :=
  (∀ a j, ¬ a = 275 → ¬ a = 278 → ¬ a = 280 → ¬ a = 282 → ¬ a = 276 → ¬ a = 294 → ¬ a = 288 → I' a j = J a j) ∧
  (∀ j, ¬ j = 14 → I' 275 j = J 275 j) ∧ I' 275 14 = J 275 15 ∧
  (∀ j, j < c1 → I' 278 j = J 279 j) ∧ (∀ j, j < c2 → I' 280 j = J 281 j ∧ I' 282 j = J 283 j) ∧ (∀ j, j < c4 → I' 294 j = 0) ∧ (∀ j, j < c5 → I' 288 j = J 289 j)
theorem row_t {a k : Nat} {x : Int32} {G : Nat → Int32} (h : ∀ j, j < k → I' a j = G j) (hx : x = G k) : ∀ j, j < k + 1 → pm_u I' a k x a j = G j := by
  intro j hj
  by_cases e : j = k
  · subst e
    rw [pu_s, hx]
  · rw [pu_n e]
    exact h j (by omega)
theorem lx_plate {c1 c2 c4 c5 : Nat} {x : Int32} (h : ldX J I' c1 c2 c4 c5) (hx : x = J 279 c1) : ldX J (pm_u I' 278 c1 x) (c1 + 1) c2 c4 c5 := by
  obtain ⟨h1, h2, h3, h4, h5, h6, h7⟩ := h
  refine ⟨fun a j q0 q1 q2 q3 q4 q5 q6 => ?_, fun j q => ?_, ?_, row_t (G := fun j => J 279 j) h4 hx, fun j hj => ?_, fun j hj => ?_, fun j hj => ?_⟩
  · rw [pu_o q1]; exact h1 a j q0 q1 q2 q3 q4 q5 q6
  · rw [pu_o (by decide)]; exact h2 j q
  · rw [pu_o (by decide)]; exact h3
  · rw [pu_o (by decide), pu_o (by decide)]; exact h5 j hj
  · rw [pu_o (by decide)]; exact h6 j hj
  · rw [pu_o (by decide)]; exact h7 j hj
theorem lx_hole {c1 c2 c4 c5 : Nat} {x y : Int32} (h : ldX J I' c1 c2 c4 c5) (hx : x = J 281 c2) (hy : y = J 283 c2) : ldX J (pm_u (pm_u I' 280 c2 x) 282 c2 y) c1 (c2 + 1) c4 c5 := by
  obtain ⟨h1, h2, h3, h4, h5, h6, h7⟩ := h
  refine ⟨fun a j q0 q1 q2 q3 q4 q5 q6 => ?_, fun j q => ?_, ?_, fun j hj => ?_, fun j hj => ?_, fun j hj => ?_, fun j hj => ?_⟩
  · rw [pu_o q3, pu_o q2]; exact h1 a j q0 q1 q2 q3 q4 q5 q6
  · rw [pu_o (by decide), pu_o (by decide)]; exact h2 j q
  · rw [pu_o (by decide), pu_o (by decide)]; exact h3
  · rw [pu_o (by decide), pu_o (by decide)]; exact h4 j hj
  · refine ⟨?_, ?_⟩
    · rw [pu_o (by decide)]
      exact row_t (G := fun j => J 281 j) (fun j hj => (h5 j hj).1) hx j hj
    · exact row_t (G := fun j => J 283 j) (fun j hj => (pu_o (by decide)).trans (h5 j hj).2) hy j hj
  · rw [pu_o (by decide), pu_o (by decide)]; exact h6 j hj
  · rw [pu_o (by decide), pu_o (by decide)]; exact h7 j hj
theorem lx_places {c1 c2 c4 c5 k : Nat} {x : Int32} (h : ldX J I' c1 c2 c4 c5) : ldX J (pm_u I' 276 k x) c1 c2 c4 c5 := by
  obtain ⟨h1, h2, h3, h4, h5, h6, h7⟩ := h
  refine ⟨fun a j q0 q1 q2 q3 q4 q5 q6 => ?_, fun j q => ?_, ?_, fun j hj => ?_, fun j hj => ?_, fun j hj => ?_, fun j hj => ?_⟩
  · rw [pu_o q4]; exact h1 a j q0 q1 q2 q3 q4 q5 q6
  · rw [pu_o (by decide)]; exact h2 j q
  · rw [pu_o (by decide)]; exact h3
  · rw [pu_o (by decide)]; exact h4 j hj
  · rw [pu_o (by decide), pu_o (by decide)]; exact h5 j hj
  · rw [pu_o (by decide)]; exact h6 j hj
  · rw [pu_o (by decide)]; exact h7 j hj
theorem lx_areSides {c1 c2 c4 c5 : Nat} {x : Int32} (h : ldX J I' c1 c2 c4 c5) (hx : x = 0) : ldX J (pm_u I' 294 c4 x) c1 c2 (c4 + 1) c5 := by
  obtain ⟨h1, h2, h3, h4, h5, h6, h7⟩ := h
  refine ⟨fun a j q0 q1 q2 q3 q4 q5 q6 => ?_, fun j q => ?_, ?_, fun j hj => ?_, fun j hj => ?_, row_t (G := fun _ => 0) h6 hx, fun j hj => ?_⟩
  · rw [pu_o q5]; exact h1 a j q0 q1 q2 q3 q4 q5 q6
  · rw [pu_o (by decide)]; exact h2 j q
  · rw [pu_o (by decide)]; exact h3
  · rw [pu_o (by decide)]; exact h4 j hj
  · rw [pu_o (by decide), pu_o (by decide)]; exact h5 j hj
  · rw [pu_o (by decide)]; exact h7 j hj
theorem lx_now {c1 c2 c4 c5 : Nat} {x : Int32} (h : ldX J I' c1 c2 c4 c5) (hx : x = J 289 c5) : ldX J (pm_u I' 288 c5 x) c1 c2 c4 (c5 + 1) := by
  obtain ⟨h1, h2, h3, h4, h5, h6, h7⟩ := h
  refine ⟨fun a j q0 q1 q2 q3 q4 q5 q6 => ?_, fun j q => ?_, ?_, fun j hj => ?_, fun j hj => ?_, fun j hj => ?_, row_t (G := fun j => J 289 j) h7 hx⟩
  · rw [pu_o q6]; exact h1 a j q0 q1 q2 q3 q4 q5 q6
  · rw [pu_o (by decide)]; exact h2 j q
  · rw [pu_o (by decide)]; exact h3
  · rw [pu_o (by decide)]; exact h4 j hj
  · rw [pu_o (by decide), pu_o (by decide)]; exact h5 j hj
  · rw [pu_o (by decide)]; exact h6 j hj
def lBN (L L' : Nat → Nat → Int64) : Prop := ∀ a j, ¬ a = 284 → ¬ a = 286 → L' a j = L a j
theorem M_laysX (kk : ∀ I' L', ldX J I' 42 1734 6 89 → lBN L L' → Q [.int (J 275 15)] (pm_u (pm_u I' 275 19 0) 275 41 0, L', g_R s, 306)) (n : Int32) (u : Value) : pm_W (g_P ys) 278 140 [.ref 275, .int n, u] [] (J, L, g_R s, 306) (0, 0) Q := by
  have e5 : ∀ d i, i + d = 89 → ∀ I' L', ldX J I' 42 1734 6 i → lBN L L' → pm_W (g_P ys) 278 287 [.ref 275, .int n, .int (nI i)] [] (I', L', g_R s, 306) (0, 0) Q := by
    intro d
    induction d with
    | zero =>
      intro i hi I' L' k l
      have hi : i = 89 := by omega
      subst hi
      refine ps_iload rfl rfl ?_
      refine pw_c rfl ?_
      refine ps_icmpt rfl (by decide) ?_
      refine ps_aload rfl rfl ?_
      refine pw_c rfl ?_
      refine ps_pfi 11 19 rfl rfl rfl rfl rfl ?_
      refine ps_aload rfl rfl ?_
      refine pw_c rfl ?_
      refine ps_pfz 11 41 rfl rfl rfl rfl rfl (Or.inl rfl) ?_
      refine ps_aload rfl rfl ?_
      refine ps_gfi 11 14 rfl rfl rfl rfl rfl ?_
      show pm_W _ _ _ _ [.int (pm_u (pm_u I' 275 19 0) 275 41 0 275 14)] _ _ _
      rw [pu_n (by decide), pu_n (by decide), k.2.2.1]
      refine ps_iret rfl rfl ?_
      exact kk _ _ k l
    | succ d ih =>
      intro i hi I' L' k l
      refine ps_iload rfl rfl ?_
      refine pw_c rfl ?_
      refine ps_icmpf rfl (decide_eq_false (nI_ge (b := 89) (by omega) (by omega))) ?_
      refine ps_aload rfl rfl ?_
      refine ps_gfr 11 16 rfl rfl rfl rfl rfl (rfl) ?_
      refine ps_iload rfl rfl ?_
      refine ps_aload rfl rfl ?_
      refine ps_gfr 11 17 rfl rfl rfl rfl rfl (rfl) ?_
      refine ps_iload rfl rfl ?_
      refine ps_iald (i) rfl rfl rfl (rfl) (by omega) ?_
      refine ps_iast (i) rfl rfl rfl (rfl) (by omega) ?_
      refine ps_iinc rfl rfl ?_
      refine ps_goto rfl ?_
      rw [show nI i + Int32.ofInt 1 = nI (i + 1) from nI_1 i]
      exact ih (i + 1) (by omega) _ _ (lx_now k (k.1 _ _ (by decide) (by decide) (by decide) (by decide) (by decide) (by decide) (by decide))) l
  have e4 : ∀ d i, i + d = 6 → ∀ I' L', ldX J I' 42 1734 i 0 → lBN L L' → pm_W (g_P ys) 278 242 [.ref 275, .int n, .int (nI i)] [] (I', L', g_R s, 306) (0, 0) Q := by
    intro d
    induction d with
    | zero =>
      intro i hi I' L' k l
      have hi : i = 6 := by omega
      subst hi
      refine ps_iload rfl rfl ?_
      refine pw_c rfl ?_
      refine ps_icmpt rfl (by decide) ?_
      refine pw_c rfl ?_
      refine ps_istore rfl rfl ?_
      exact e5 89 0 (by omega) _ _ k l
    | succ d ih =>
      intro i hi I' L' k l
      refine ps_iload rfl rfl ?_
      refine pw_c rfl ?_
      refine ps_icmpf rfl (decide_eq_false (nI_ge (b := 6) (by omega) (by omega))) ?_
      refine ps_aload rfl rfl ?_
      refine ps_gfr 11 10 rfl rfl rfl rfl rfl (rfl) ?_
      refine ps_iload rfl rfl ?_
      refine ps_aload rfl rfl ?_
      refine ps_gfr 11 11 rfl rfl rfl rfl rfl (rfl) ?_
      refine ps_iload rfl rfl ?_
      refine ps_lald (i) rfl rfl rfl (rfl) (by omega) ?_
      refine ps_last (i) rfl rfl rfl (rfl) (by omega) ?_
      refine ps_aload rfl rfl ?_
      refine ps_gfr 11 12 rfl rfl rfl rfl rfl (rfl) ?_
      refine ps_iload rfl rfl ?_
      refine ps_aload rfl rfl ?_
      refine ps_gfr 11 13 rfl rfl rfl rfl rfl (rfl) ?_
      refine ps_iload rfl rfl ?_
      refine ps_lald (i) rfl rfl rfl (rfl) (by omega) ?_
      refine ps_last (i) rfl rfl rfl (rfl) (by omega) ?_
      refine ps_aload rfl rfl ?_
      refine ps_gfr 11 23 rfl rfl rfl rfl rfl (rfl) ?_
      refine ps_iload rfl rfl ?_
      refine pw_c rfl ?_
      refine ps_zast (i) rfl rfl rfl (rfl) (by omega) ?_
      refine ps_iinc rfl rfl ?_
      refine ps_goto rfl ?_
      rw [show nI i + Int32.ofInt 1 = nI (i + 1) from nI_1 i]
      exact ih (i + 1) (by omega) _ _ (lx_areSides k rfl) (fun a j h1 h2 => (puL_o h2).trans ((puL_o h1).trans (l a j h1 h2)))
  have e3 : ∀ d i, i + d = 282 → ∀ I' L', ldX J I' 42 1734 0 0 → lBN L L' → pm_W (g_P ys) 278 215 [.ref 275, .int n, .int (nI i)] [] (I', L', g_R s, 306) (0, 0) Q := by
    intro d
    induction d with
    | zero =>
      intro i hi I' L' k l
      have hi : i = 282 := by omega
      subst hi
      refine ps_iload rfl rfl ?_
      refine pw_c rfl ?_
      refine ps_icmpt rfl (by decide) ?_
      refine pw_c rfl ?_
      refine ps_istore rfl rfl ?_
      exact e4 6 0 (by omega) _ _ k l
    | succ d ih =>
      intro i hi I' L' k l
      refine ps_iload rfl rfl ?_
      refine pw_c rfl ?_
      refine ps_icmpf rfl (decide_eq_false (nI_ge (b := 282) (by omega) (by omega))) ?_
      refine ps_aload rfl rfl ?_
      refine ps_gfr 11 2 rfl rfl rfl rfl rfl (rfl) ?_
      refine ps_iload rfl rfl ?_
      refine ps_aload rfl rfl ?_
      refine ps_gfr 11 3 rfl rfl rfl rfl rfl (rfl) ?_
      refine ps_iload rfl rfl ?_
      refine ps_iald (i) rfl rfl rfl (rfl) (by omega) ?_
      refine ps_iast (i) rfl rfl rfl (rfl) (by omega) ?_
      refine ps_iinc rfl rfl ?_
      refine ps_goto rfl ?_
      rw [show nI i + Int32.ofInt 1 = nI (i + 1) from nI_1 i]
      exact ih (i + 1) (by omega) _ _ (lx_places k) l
  have e2 : ∀ d i, i + d = 1734 → ∀ I' L', ldX J I' 42 i 0 0 → lBN L L' → pm_W (g_P ys) 278 176 [.ref 275, .int n, .int (nI i)] [] (I', L', g_R s, 306) (0, 0) Q := by
    intro d
    induction d with
    | zero =>
      intro i hi I' L' k l
      have hi : i = 1734 := by omega
      subst hi
      refine ps_iload rfl rfl ?_
      refine pw_c rfl ?_
      refine ps_icmpt rfl (by decide) ?_
      refine pw_c rfl ?_
      refine ps_istore rfl rfl ?_
      exact e3 282 0 (by omega) _ _ k l
    | succ d ih =>
      intro i hi I' L' k l
      refine ps_iload rfl rfl ?_
      refine pw_c rfl ?_
      refine ps_icmpf rfl (decide_eq_false (nI_ge (b := 1734) (by omega) (by omega))) ?_
      refine ps_aload rfl rfl ?_
      refine ps_gfr 11 6 rfl rfl rfl rfl rfl (rfl) ?_
      refine ps_iload rfl rfl ?_
      refine ps_aload rfl rfl ?_
      refine ps_gfr 11 7 rfl rfl rfl rfl rfl (rfl) ?_
      refine ps_iload rfl rfl ?_
      refine ps_iald (i) rfl rfl rfl (rfl) (by omega) ?_
      refine ps_iast (i) rfl rfl rfl (rfl) (by omega) ?_
      refine ps_aload rfl rfl ?_
      refine ps_gfr 11 8 rfl rfl rfl rfl rfl (rfl) ?_
      refine ps_iload rfl rfl ?_
      refine ps_aload rfl rfl ?_
      refine ps_gfr 11 9 rfl rfl rfl rfl rfl (rfl) ?_
      refine ps_iload rfl rfl ?_
      refine ps_iald (i) rfl rfl rfl (rfl) (by omega) ?_
      refine ps_iast (i) rfl rfl rfl (rfl) (by omega) ?_
      refine ps_iinc rfl rfl ?_
      refine ps_goto rfl ?_
      rw [show nI i + Int32.ofInt 1 = nI (i + 1) from nI_1 i]
      exact ih (i + 1) (by omega) _ _ (lx_hole k (k.1 _ _ (by decide) (by decide) (by decide) (by decide) (by decide) (by decide) (by decide)) (show pm_u I' 280 i (I' 281 i) 283 i = J 283 i from (pu_o (by decide)).trans (k.1 _ _ (by decide) (by decide) (by decide) (by decide) (by decide) (by decide) (by decide)))) l
  have e1 : ∀ d i, i + d = 42 → ∀ I' L', ldX J I' i 0 0 0 → lBN L L' → pm_W (g_P ys) 278 150 [.ref 275, .int n, .int (nI i)] [] (I', L', g_R s, 306) (0, 0) Q := by
    intro d
    induction d with
    | zero =>
      intro i hi I' L' k l
      have hi : i = 42 := by omega
      subst hi
      refine ps_iload rfl rfl ?_
      refine pw_c rfl ?_
      refine ps_icmpt rfl (by decide) ?_
      refine pw_c rfl ?_
      refine ps_istore rfl rfl ?_
      exact e2 1734 0 (by omega) _ _ k l
    | succ d ih =>
      intro i hi I' L' k l
      refine ps_iload rfl rfl ?_
      refine pw_c rfl ?_
      refine ps_icmpf rfl (decide_eq_false (nI_ge (b := 42) (by omega) (by omega))) ?_
      refine ps_aload rfl rfl ?_
      refine ps_gfr 11 4 rfl rfl rfl rfl rfl (rfl) ?_
      refine ps_iload rfl rfl ?_
      refine ps_aload rfl rfl ?_
      refine ps_gfr 11 5 rfl rfl rfl rfl rfl (rfl) ?_
      refine ps_iload rfl rfl ?_
      refine ps_iald (i) rfl rfl rfl (rfl) (by omega) ?_
      refine ps_iast (i) rfl rfl rfl (rfl) (by omega) ?_
      refine ps_iinc rfl rfl ?_
      refine ps_goto rfl ?_
      rw [show nI i + Int32.ofInt 1 = nI (i + 1) from nI_1 i]
      exact ih (i + 1) (by omega) _ _ (lx_plate k (k.1 _ _ (by decide) (by decide) (by decide) (by decide) (by decide) (by decide) (by decide))) l
  refine ps_aload rfl rfl ?_
  refine ps_aload rfl rfl ?_
  refine ps_gfi 11 15 rfl rfl rfl rfl rfl ?_
  refine ps_pfi 11 14 rfl rfl rfl rfl rfl ?_
  refine pw_c rfl ?_
  refine ps_istore rfl rfl ?_
  refine e1 42 0 (by omega) _ _ ⟨fun a j q0 _ _ _ _ _ _ => ?_, fun j q => ?_, ?_, fun j hj => ?_, fun j hj => ?_, fun j hj => ?_, fun j hj => ?_⟩ (fun _ _ _ _ => rfl)
  · exact pu_o q0
  · exact pu_n q
  · exact pu_s
  · omega
  · omega
  · omega
  · omega
/-- where load writes, with a FAULT, without one -/
def ldB (I I' : Nat → Nat → Int32) : Prop := ∀ a j : Nat, ¬ (a = 277 ∨ a = 279 ∨ a = 281 ∨ a = 283 ∨ a = 289 ∨ (a = 275 ∧ (j = 15 ∨ j = 46 ∨ j = 47 ∨ j = 48 ∨ j = 49 ∨ j = 50 ∨ j = 51 ∨ j = 53 ∨ j = 0 ∨ j = 1 ∨ j = 52 ∨ j = 43 ∨ j = 44 ∨ j = 45))) → I' a j = I a j
def ldO (I I' : Nat → Nat → Int32) : Prop := ∀ a j : Nat, ¬ (a = 277 ∨ a = 279 ∨ a = 281 ∨ a = 283 ∨ a = 289 ∨ a = 278 ∨ a = 280 ∨ a = 282 ∨ a = 276 ∨ a = 294 ∨ a = 288 ∨ (a = 275 ∧ (j = 15 ∨ j = 46 ∨ j = 47 ∨ j = 48 ∨ j = 49 ∨ j = 50 ∨ j = 51 ∨ j = 53 ∨ j = 0 ∨ j = 1 ∨ j = 52 ∨ j = 43 ∨ j = 44 ∨ j = 45 ∨ j = 14 ∨ j = 19 ∨ j = 41))) → I' a j = I a j
/-- the model's PLATES, its scene are B's -/
def mBp (B : sB) (I : Nat → Nat → Int32) : Prop := I 275 14 = nI B.ps ∧ ∀ k, k < B.ps → I 278 (7 * k) = nI (B.pl k).w ∧ I 278 (7 * k + 1) = nI (B.pl k).v ∧ ∀ i, i < (B.pl k).w * (B.pl k).v → I 280 (289 * k + i) = (B.pl k).ho i ∧ I 282 (289 * k + i) = (B.pl k).we i
def mBs (B : sB) (I : Nat → Nat → Int32) : Prop := (∀ q, q < 3 → I 288 q = nI (B.n q)) ∧ I 288 3 = B.bk ∧ I 288 4 = B.us ∧ (∀ q, q < 3 → ∀ k, k < B.n q → ∀ j, j < 3 → I 288 (rwK q + 3 * k + j) = B.sc q k j)
theorem mBn_B0 (h1 : I 275 15 = 0) (h2 : ∀ j, j < 89 → I 289 j = 0) : mBn B0 I L :=
  ⟨h1, fun k hk => absurd hk (by show ¬ k < 0; omega), fun q hq => h2 q (by omega), h2 3 (by omega), h2 4 (by omega), fun q hq k hk => absurd hk (by show ¬ k < 0; omega)⟩
theorem M_loadX {tp : Nat} (ht : I 275 43 = nI tp) (h8 : tp ≤ 800) (hn : n ≤ tp) (S : stX f (I 303) J n c) (nb : 0 ≤ (I 275 51).toInt ∧ (I 275 51).toInt ≤ 9999) (bb : 0 ≤ (I 275 53).toInt ∧ (I 275 53).toInt ≤ 800) (wd : ∀ j, j < 13 → L 304 j = wC j)
    (kB : ∀ k u, xTxt f J c c B0 0 = .error (k, u) → ∀ I' L', ldB I I' → lF L L' → I' 275 44 = k → I' 275 45 = J 8 u → I' 275 43 = 0 → Q [.int (-1)] (I', L', g_R s, 306))
    (kO : ∀ B, xTxt f J c c B0 0 = .ok B → ∀ I' L', ldO I I' → (∀ j, j < 13 → L' 304 j = wC j) → I' 275 44 = 0 → I' 275 45 = -1 → I' 275 43 = 0 → I' 275 19 = 0 → I' 275 41 = 0 → (∀ j, j < 6 → I' 294 j = 0) → mBp B I' → mBs B I' → Q [.int (nI B.ps)] (I', L', g_R s, 306)) : pm_W (g_P ys) 278 0 [.ref 275, .int (nI n), .retAddr 0] [] (I, L, g_R s, 306) (0, 0) Q := by
  have hn8 := S.2.2
  -- behind the text
  have bad : ∀ I1 L1 k u (v : Value), xTxt f J c c B0 0 = .error (k, u) → ldB I I1 → lF L L1 → mX I1 k (J 8 u) → pm_W (g_P ys) 278 73 [.ref 275, .int (nI n), v] [] (I1, L1, g_R s, 306) (0, 0) Q := by
    intro I1 L1 k u v e f1 l1 x1
    obtain ⟨x1, x2, x3⟩ := x1
    have hw : 0 < (I1 275 46).toInt := by rw [x1]; exact x3
    have kn : ¬ k ≤ 0 := fun z => by
      have z := (i_le _ _).mp z
      have : (0 : Int32).toInt = 0 := rfl
      omega
    refine ps_aload rfl rfl ?_
    refine pw_k rfl rfl rfl rfl ⟨Nat.zero_le _, Nat.zero_le _⟩ ?_
    refine M_good ?_
    rw [decide_eq_false (w_nz hw)]
    refine ps_ift rfl (rfl) ?_
    refine ps_aload rfl rfl ?_
    refine pw_c rfl ?_
    refine ps_pfi 11 43 rfl rfl rfl rfl rfl ?_
    refine ps_aload rfl rfl ?_
    refine ps_aload rfl rfl ?_
    refine ps_gfi 11 46 rfl rfl rfl rfl rfl ?_
    refine ps_pfi 11 44 rfl rfl rfl rfl rfl ?_
    refine ps_aload rfl rfl ?_
    refine ps_aload rfl rfl ?_
    refine ps_gfi 11 46 rfl rfl rfl rfl rfl ?_
    show pm_W _ _ _ _ [.int (pm_u (pm_u I1 275 43 0) 275 44 (I1 275 46) 275 46), .ref 275] (pm_u (pm_u I1 275 43 0) 275 44 (I1 275 46), L1, g_R s, 306) _ _
    rw [pu_n (by decide), pu_n (by decide), x1]
    refine ps_iff rfl (decide_eq_false kn) ?_
    refine ps_aload rfl rfl ?_
    refine ps_gfi 11 47 rfl rfl rfl rfl rfl ?_
    show pm_W _ _ _ _ [.int (pm_u (pm_u I1 275 43 0) 275 44 k 275 47), .ref 275] _ _ _
    rw [pu_n (by decide), pu_n (by decide), x2]
    refine ps_goto rfl ?_
    refine ps_pfi 11 45 rfl rfl rfl rfl rfl ?_
    refine ps_aload rfl rfl ?_
    refine ps_gfi 11 46 rfl rfl rfl rfl rfl ?_
    show pm_W _ _ _ _ [.int (pm_u (pm_u (pm_u I1 275 43 0) 275 44 k) 275 45 (J 8 u) 275 46)] (pm_u (pm_u (pm_u I1 275 43 0) 275 44 k) 275 45 (J 8 u), L1, g_R s, 306) _ _
    rw [pu_n (by decide), pu_n (by decide), pu_n (by decide), x1]
    refine ps_iff rfl (decide_eq_false kn) ?_
    refine ps_aload rfl rfl ?_
    refine pw_c rfl ?_
    refine pw_k rfl rfl rfl rfl ⟨Nat.zero_le _, Nat.zero_le _⟩ ?_
    refine ps_aload rfl rfl ?_
    refine ps_iload rfl rfl ?_
    refine ps_pfi 11 0 rfl rfl rfl rfl rfl ?_
    refine pw_c rfl ?_
    refine ps_iret rfl rfl ?_
    refine ps_iret rfl rfl ?_
    refine kB _ _ e _ _ (fun a j q => ?_) l1 ?_ ?_ ?_
    · show pm_u (pm_u (pm_u (pm_u I1 275 43 0) 275 44 k) 275 45 (J 8 u)) 275 0 9 a j = _
      rw [pu_x (fun z => q (by omega)), pu_x (fun z => q (by omega)), pu_x (fun z => q (by omega)), pu_x (fun z => q (by omega))]
      exact f1 a j q
    · show pm_u (pm_u (pm_u (pm_u I1 275 43 0) 275 44 k) 275 45 (J 8 u)) 275 0 9 275 _ = _
      rw [pu_n (by decide), pu_n (by decide), pu_s]
    · show pm_u (pm_u (pm_u (pm_u I1 275 43 0) 275 44 k) 275 45 (J 8 u)) 275 0 9 275 _ = _
      rw [pu_n (by decide), pu_s]
    · show pm_u (pm_u (pm_u (pm_u I1 275 43 0) 275 44 k) 275 45 (J 8 u)) 275 0 9 275 _ = _
      rw [pu_n (by decide), pu_n (by decide), pu_n (by decide), pu_s]
  have good : ∀ I1 L1 B (v : Value), xTxt f J c c B0 0 = .ok B → ldB I I1 → I1 275 46 = 0 → (∀ j, j < 13 → L1 304 j = wC j) → B.ok → mBn B I1 L1 → pm_W (g_P ys) 278 94 [.ref 275, .int (nI n), v] [] (I1, L1, g_R s, 306) (0, 0) Q := by
    intro I1 L1 B v e f1 x1 w1 ok hB
    refine ps_aload rfl rfl ?_
    refine pw_c rfl ?_
    refine ps_pfi 11 43 rfl rfl rfl rfl rfl ?_
    refine ps_aload rfl rfl ?_
    refine ps_aload rfl rfl ?_
    refine ps_gfi 11 46 rfl rfl rfl rfl rfl ?_
    refine ps_pfi 11 44 rfl rfl rfl rfl rfl ?_
    refine ps_aload rfl rfl ?_
    refine ps_aload rfl rfl ?_
    refine ps_gfi 11 46 rfl rfl rfl rfl rfl ?_
    show pm_W _ _ _ _ [.int (pm_u (pm_u I1 275 43 0) 275 44 (I1 275 46) 275 46), .ref 275] (pm_u (pm_u I1 275 43 0) 275 44 (I1 275 46), L1, g_R s, 306) _ _
    rw [pu_n (by decide), pu_n (by decide), x1]
    refine ps_ift rfl (rfl) ?_
    refine pw_c rfl ?_
    refine ps_pfi 11 45 rfl rfl rfl rfl rfl ?_
    refine ps_aload rfl rfl ?_
    refine ps_gfi 11 46 rfl rfl rfl rfl rfl ?_
    show pm_W _ _ _ _ [.int (pm_u (pm_u (pm_u I1 275 43 0) 275 44 0) 275 45 (-1) 275 46)] (pm_u (pm_u (pm_u I1 275 43 0) 275 44 0) 275 45 (-1), L1, g_R s, 306) _ _
    rw [pu_n (by decide), pu_n (by decide), pu_n (by decide), x1]
    obtain ⟨I2, hI2⟩ : ∃ I2, I2 = pm_u (pm_u (pm_u I1 275 43 0) 275 44 0) 275 45 (-1) := ⟨_, rfl⟩
    rw [← hI2]
    have o2 : ∀ a j, ¬ (a = 275 ∧ (j = 43 ∨ j = 44 ∨ j = 45)) → I2 a j = I1 a j := fun a j q => by
      rw [hI2, pu_x (fun z => q (by omega)), pu_x (fun z => q (by omega)), pu_x (fun z => q (by omega))]
    have np : I2 275 15 = nI B.ps := (o2 _ _ (by omega)).trans hB.1
    have ps6 := ok.1
    refine ps_ift rfl (rfl) ?_
    refine M_laysX (fun I3 L3 k l => ?_) _ _
    rw [np]
    obtain ⟨k1, k2, k3, k4, k5, k6, k7⟩ := k
    have o3 : ∀ a j, ¬ (a = 275 ∧ (j = 19 ∨ j = 41)) → pm_u (pm_u I3 275 19 0) 275 41 0 a j = I3 a j := fun a j q => by
      rw [pu_x (fun z => q (by omega)), pu_x (fun z => q (by omega))]
    refine kO B e _ _ (fun a j q => ?_) (fun j hj => (l _ _ (by decide) (by decide)).trans (w1 j hj)) ?_ ?_ ?_ ?_ ?_ (fun j hj => ?_) ⟨?_, fun k hk => ⟨?_, ?_, fun i hi => ⟨?_, ?_⟩⟩⟩ ⟨fun q hq => ?_, ?_, ?_, fun q hq k hk j hj => ?_⟩
    · rw [o3 _ _ (fun z => q (by omega))]
      by_cases a5 : a = 275
      · subst a5
        rw [k2 j (fun z => q (by omega)), o2 _ _ (fun z => q (by omega))]
        exact f1 _ _ (fun z => q (by omega))
      · rw [k1 a j a5 (fun z => q (by omega)) (fun z => q (by omega)) (fun z => q (by omega)) (fun z => q (by omega)) (fun z => q (by omega)) (fun z => q (by omega)), o2 _ _ (fun z => q (by omega))]
        exact f1 _ _ (fun z => q (by omega))
    · rw [o3 _ _ (by omega), k2 _ (by decide), hI2, pu_n (by decide), pu_s]
    · rw [o3 _ _ (by omega), k2 _ (by decide), hI2, pu_s]
    · rw [o3 _ _ (by omega), k2 _ (by decide), hI2, pu_n (by decide), pu_n (by decide), pu_s]
    · rw [pu_n (by decide), pu_s]
    · rw [pu_s]
    · rw [o3 _ _ (by omega)]
      exact k6 j hj
    · rw [o3 _ _ (by omega), k3]
      exact np
    · rw [o3 _ _ (by omega), k4 _ (by omega), o2 _ _ (by omega)]
      exact (hB.2.1 k hk).1
    · rw [o3 _ _ (by omega), k4 _ (by omega), o2 _ _ (by omega)]
      exact (hB.2.1 k hk).2.1
    · have := (ok.2.1 k hk).2.2.1
      rw [o3 _ _ (by omega), (k5 _ (by omega)).1, o2 _ _ (by omega)]
      exact ((hB.2.1 k hk).2.2.2 i hi).1
    · have := (ok.2.1 k hk).2.2.1
      rw [o3 _ _ (by omega), (k5 _ (by omega)).2, o2 _ _ (by omega)]
      exact ((hB.2.1 k hk).2.2.2 i hi).2
    · rw [o3 _ _ (by omega), k7 _ (by omega), o2 _ _ (by omega)]
      exact hB.2.2.1 q hq
    · rw [o3 _ _ (by omega), k7 _ (by omega), o2 _ _ (by omega)]
      exact hB.2.2.2.1
    · rw [o3 _ _ (by omega), k7 _ (by omega), o2 _ _ (by omega)]
      exact hB.2.2.2.2.1
    · have rb := (rw_b hq (Nat.lt_of_lt_of_le hk (sB.ok_n ok hq))).1
      rw [o3 _ _ (by omega), k7 _ (by omega), o2 _ _ (by omega)]
      exact hB.2.2.2.2.2 q hq k hk j hj
  have go : ∀ d B t I' L' (v : Value), c - t ≤ d → mC J (I 303) c n t I' L' → mBn B I' L' → B.ok → ldB I I' → lF L L' → xTxt f J c c B0 0 = xTxt f J c d B t → pm_W (g_P ys) 278 73 [.ref 275, .int (nI n), v] [] (I', L', g_R s, 306) (0, 0) Q := by
    intro d
    induction d with
    | zero =>
      intro B t I' L' v hd m hB ok f1 l1 e
      have so := cu_so S m
      have tc : t = c := by omega
      have j0 : J 7 t = 0 := by rw [tc]; exact S.1.2.2.2.2.1
      refine ps_aload rfl rfl ?_
      refine pw_k rfl rfl rfl rfl ⟨Nat.zero_le _, Nat.zero_le _⟩ ?_
      refine M_good ?_
      rw [decide_eq_true m.1]
      refine ps_iff rfl (rfl) ?_
      refine ps_aload rfl rfl ?_
      refine ps_gfi 11 50 rfl rfl rfl rfl rfl ?_
      rw [show ((I', L', g_R s, 306) : pm_H).1 275 50 = 0 from so.2.1.mpr j0]
      refine ps_ift rfl (rfl) ?_
      exact good _ _ B _ e f1 m.1 m.2.2.2.2.2.1 ok hB
    | succ d ih =>
      intro B t I' L' v hd m hB ok f1 l1 e
      have so := cu_so S m
      rw [xTxt] at e
      refine ps_aload rfl rfl ?_
      refine pw_k rfl rfl rfl rfl ⟨Nat.zero_le _, Nat.zero_le _⟩ ?_
      refine M_good ?_
      rw [decide_eq_true m.1]
      refine ps_iff rfl (rfl) ?_
      refine ps_aload rfl rfl ?_
      refine ps_gfi 11 50 rfl rfl rfl rfl rfl ?_
      by_cases j0 : J 7 t = 0
      · rw [if_pos j0] at e
        rw [show ((I', L', g_R s, 306) : pm_H).1 275 50 = 0 from so.2.1.mpr j0]
        refine ps_ift rfl (rfl) ?_
        exact good _ _ B _ e f1 m.1 m.2.2.2.2.2.1 ok hB
      · rw [if_neg j0] at e
        have tl := tk_lt S so.1 j0
        refine ps_iff rfl (decide_eq_false (fun z => j0 (so.2.1.mp z))) ?_
        refine ps_aload rfl rfl ?_
        refine pw_k rfl rfl rfl rfl ⟨Nat.zero_le _, Nat.zero_le _⟩ ?_
        refine M_lineX S m hB ok (fun k u ex I2 L2 f2 l2 x2 => ?_) (fun u B' ex I2 L2 f2 l2 m2 b2 => ?_)
        · rw [ex] at e
          refine ps_goto rfl ?_
          exact bad _ _ _ _ _ e (fun a j q => (f2 a j (fun z => q (by omega))).trans (f1 a j q)) (lF_t l1 l2) x2
        · rw [ex] at e
          obtain ⟨z1, z2, z3⟩ := xLin_ok S tl ok ex
          refine ps_goto rfl ?_
          exact ih B' u _ _ _ (by omega) m2 b2 z3 (fun a j q => (f2 a j (fun z => q (by omega))).trans (f1 a j q)) (lF_t l1 l2) e
  have cl : ∀ d i I', i + d = 89 → (∀ a j, ¬ a = 289 → I' a j = pm_u (pm_u (pm_u (pm_u (isI I 0) 275 52 (nI n)) 275 49 0) 275 46 0) 275 15 0 a j) → (∀ j, j < i → I' 289 j = 0) → pm_W (g_P ys) 278 50 [.ref 275, .int (nI n), .int (nI i)] [] (I', L, g_R s, 306) (0, 0) Q := by
    intro d
    induction d with
    | zero =>
      intro i I' hi o z
      have hi : i = 89 := by omega
      subst hi
      have fl : ∀ j, ¬ (j = 1 ∨ j = 0 ∨ j = 52 ∨ j = 49 ∨ j = 46 ∨ j = 15) → I' 275 j = I 275 j := fun j q => by
        rw [o _ _ (by decide), pu_n (by omega), pu_n (by omega), pu_n (by omega), pu_n (by omega)]
        unfold isI
        rw [pu_n (by omega), pu_n (by omega)]
      have th : I' 275 49 = nI 0 := by rw [o _ _ (by decide), pu_n (by decide), pu_n (by decide), pu_s]; rfl
      have en : I' 275 52 = nI n := by rw [o _ _ (by decide), pu_n (by decide), pu_n (by decide), pu_n (by decide), pu_s]
      have wr : I' 275 46 = 0 := by rw [o _ _ (by decide), pu_n (by decide), pu_s]
      have np : I' 275 15 = 0 := by rw [o _ _ (by decide), pu_s]
      have tpe : I' 303 = I 303 := by
        funext j
        rw [o _ _ (by decide), pu_o (by decide), pu_o (by decide), pu_o (by decide), pu_o (by decide)]
        unfold isI
        rw [pu_o (by decide), pu_o (by decide)]
      have f1 : ldB I I' := fun a j q => by
        by_cases a5 : a = 275
        · subst a5
          exact fl j (fun z => q (by omega))
        · rw [o a j (fun z => q (by omega)), pu_o a5, pu_o a5, pu_o a5, pu_o a5]
          unfold isI
          rw [pu_o a5, pu_o a5]
      refine ps_iload rfl rfl ?_
      refine pw_c rfl ?_
      refine ps_icmpt rfl (rfl) ?_
      refine ps_aload rfl rfl ?_
      refine pw_k rfl rfl rfl rfl ⟨Nat.zero_le _, Nat.zero_le _⟩ ?_
      refine M_reads th (by omega) en hn8 (by rw [fl _ (by omega)]; exact nb) (by rw [fl _ (by omega)]; exact bb) ?_
      intro I5 L5 dd ll rr
      have dg : dAg I' I5 := by
        obtain ⟨p, i, k, _⟩ := dd
        exact k.1
      have m5 : mC J (I 303) c n 0 I5 L5 := by
        obtain ⟨p, i, k, _⟩ := dd
        obtain ⟨k1, _, _, k4, k5⟩ := k
        have zz := rd_cu S.1 (I := I') (by rw [tpe]; exact S.2.1) S.2.2 (t := 0) (by omega) (rr (by omega))
        rw [tpe] at zz
        refine ⟨(k1 _ _ (by decide)).trans wr, (k1 _ _ (by decide)).trans en, ?_, k4, k5, fun j hj => (lA_n ll (by decide)).trans (wd j hj), zz⟩
        rw [← tpe]
        funext j
        exact dAg_n k1 (by decide)
      refine go c B0 0 I5 L5 _ (by omega) m5 (mBn_B0 ((dg _ _ (by decide)).trans np) (fun j hj => (dAg_n dg (by decide)).trans (z j hj))) B0_ok (fun a j q => (dg a j (fun z => q (by omega))).trans (f1 a j q)) (lF_l ll) rfl
    | succ d ih =>
      intro i I' hi o z
      refine ps_iload rfl rfl ?_
      refine pw_c rfl ?_
      refine ps_icmpf rfl (decide_eq_false (nI_ge (b := 89) (by omega) (by omega))) ?_
      refine ps_aload rfl rfl ?_
      refine ps_gfr 11 17 rfl rfl rfl rfl rfl (rfl) ?_
      refine ps_iload rfl rfl ?_
      refine pw_c rfl ?_
      refine ps_iast (i) rfl rfl rfl (rfl) (by omega) ?_
      refine ps_iinc rfl rfl ?_
      refine ps_goto rfl ?_
      rw [show nI i + Int32.ofInt 1 = nI (i + 1) from nI_1 i]
      exact ih (i + 1) _ (by omega) (fun a j h => (pu_o h).trans (o a j h)) (row_t (G := fun _ => 0) z rfl)
  have d : (decide ((0 : Int64) ≤ (nI n).toInt64) && decide ((nI n).toInt64 ≤ (nI tp).toInt64)) = true := by
    rw [Bool.and_eq_true, decide_eq_true_iff, decide_eq_true_iff]
    exact ⟨Int64.le_iff_toInt_le.mpr (by rw [Int32.toInt_toInt64, nI_toInt (by omega)]; show (0 : Int) ≤ _; omega), Int64.le_iff_toInt_le.mpr (by rw [Int32.toInt_toInt64, Int32.toInt_toInt64, nI_toInt (by omega), nI_toInt (by omega)]; omega)⟩
  refine ps_aload rfl rfl ?_
  refine ps_iload rfl rfl ?_
  refine ps_ar rfl rfl rfl rfl rfl ?_
  refine pw_c rfl ?_
  refine ps_aload rfl rfl ?_
  refine ps_gfi 11 43 rfl rfl rfl rfl rfl ?_
  refine ps_ar rfl rfl rfl rfl rfl ?_
  refine pw_k rfl rfl rfl rfl ⟨Nat.zero_le _, Nat.zero_le _⟩ ?_
  refine M_isIn ?_
  rw [show ((I, L, g_R s, 306) : pm_H).1 275 43 = nI tp from ht]
  rw [d]
  refine ps_iff rfl (rfl) ?_
  refine pw_c rfl ?_
  refine ps_goto rfl ?_
  refine pw_k rfl rfl rfl rfl ⟨Nat.zero_le _, Nat.zero_le _⟩ ?_
  refine M_is ?_
  refine ps_ift rfl (rfl) ?_
  refine ps_aload rfl rfl ?_
  refine ps_iload rfl rfl ?_
  refine ps_pfi 11 52 rfl rfl rfl rfl rfl ?_
  refine ps_aload rfl rfl ?_
  refine pw_c rfl ?_
  refine ps_pfi 11 49 rfl rfl rfl rfl rfl ?_
  refine ps_aload rfl rfl ?_
  refine pw_c rfl ?_
  refine ps_pfi 11 46 rfl rfl rfl rfl rfl ?_
  refine ps_aload rfl rfl ?_
  refine pw_c rfl ?_
  refine ps_pfi 11 15 rfl rfl rfl rfl rfl ?_
  refine pw_c rfl ?_
  refine ps_istore rfl rfl ?_
  exact cl 89 0 _ (by omega) (fun _ _ _ => rfl) (fun j hj => absurd hj (by omega))
end KQ
