/-! BY HAND: the model's ACTS, exactly, third: slide, undo; many, thing -/
section SK
variable {I I' I1 I2 J : Nat → Nat → Int32} {L : Nat → Nat → Int64} {s : Nat → Option Nat} {Q : List Value → pm_H → Prop} {ys : List Int32} {ps m n q : Nat} {S S' : sS} {H H' : Nat → sS}
theorem slide_S {a b : Int32} (hS : mSc 288 0 S I1) (ok : S.ok) (h : ∀ j, I' 288 j = if 5 ≤ j ∧ j < 5 + 3 * S.n 0 ∧ (j - 5) % 3 = 0 then md100 (I1 288 j + a) else if 5 ≤ j ∧ j < 5 + 3 * S.n 0 ∧ (j - 5) % 3 = 1 then md100 (I1 288 j + b) else I1 288 j) : mSc 288 0 (S.slide a b) I' := by
  obtain ⟨h1, h2, h3, h4⟩ := hS
  have n0 : S.n 0 ≤ 8 := ok 0 (by omega)
  refine ⟨fun r hr => ?_, ?_, ?_, fun r hr i hi j hj => ?_⟩
  · rw [h, if_neg (by omega), if_neg (by omega)]
    exact h1 r hr
  · rw [h, if_neg (by omega), if_neg (by omega)]
    exact h2
  · rw [h, if_neg (by omega), if_neg (by omega)]
    exact h3
  · have hi : i < S.n r := hi
    show _ = if r = 0 ∧ j = 0 then md100 (S.sc 0 i 0 + a) else if r = 0 ∧ j = 1 then md100 (S.sc 0 i 1 + b) else S.sc r i j
    have z0 := h4 r hr i hi j hj
    have nr := ok r hr
    rw [Nat.zero_add] at z0
    rw [h, Nat.zero_add]
    by_cases e0 : r = 0
    · subst e0
      have r0 : rwK 0 = 5 := rfl
      rcases q3 hj with rfl | rfl | rfl
      · rw [if_pos (by omega), if_pos ⟨rfl, rfl⟩, z0]
      · rw [if_neg (by omega), if_pos (by omega), if_neg (by omega), if_pos ⟨rfl, rfl⟩, z0]
      · rw [if_neg (by omega), if_neg (by omega), if_neg (by omega), if_neg (by omega), z0]
    · have r1 : 29 ≤ rwK r := by
        rcases q3 hr with rfl | rfl | rfl
        · exact absurd rfl e0
        · decide
        · decide
      rw [if_neg (by omega), if_neg (by omega), if_neg (fun z => e0 z.1), if_neg (fun z => e0 z.1), z0]
theorem M_slide6 (hS : mSc 288 0 S I) (ok : S.ok) (hH : mHs H m I) (hok : ∀ i, i < m → (H i).ok) (x y : Int32) (kE : ∀ e, aSlide S x y = .error e → Q [.int (-1)] (stI I e, L, g_R s, 306)) (kO : ∀ r S', aSlide S x y = .ok (r, S') → ∀ I', aftM S' (psh H m S) (rmM m) (stI I 0) I' → Q [.int r] (I', L, g_R s, 306)) : pm_W (g_P ys) 231 0 [.ref 275, .int x, .int y, .retAddr 0, .retAddr 0] [] (I, L, g_R s, 306) (0, 0) Q := by
  have n8 : S.n 0 ≤ 8 := ok 0 (by omega)
  have c0 : I 288 0 = nI (S.n 0) := hS.1 0 (by omega)
  have bad : ¬ plcB x y → pm_W (g_P ys) 231 28 [.ref 275, .int x, .int y, .retAddr 0, .retAddr 0] [] (I, L, g_R s, 306) (0, 0) Q := by
    intro z
    refine pw_c rfl ?_
    refine ps_istore rfl rfl ?_
    refine ps_aload rfl rfl ?_
    refine ps_iload rfl rfl ?_
    refine ps_iff rfl (rfl) ?_
    refine pw_c rfl ?_
    refine ps_goto rfl ?_
    refine pw_k rfl rfl rfl rfl ⟨Nat.zero_le _, Nat.zero_le _⟩ ?_
    refine M_is ?_
    refine ps_iff rfl (by decide) ?_
    refine pw_c rfl ?_
    refine ps_iret rfl rfl ?_
    exact kE 1 (by unfold aSlide; rw [if_pos z])
  have acts : plcB x y → pm_W (g_P ys) 231 24 [.ref 275, .int x, .int y, .retAddr 0, .retAddr 0] [] (I, L, g_R s, 306) (0, 0) Q := by
    intro hp
    have ea : aSlide S x y = if x = 0 ∧ y = 0 then .error 4 else if S.n 0 = 0 then .error 5 else .ok (nI (S.n 0), S.slide x y) := by
      unfold aSlide
      rw [if_neg (fun z => z hp)]
    have e0 : (0 : Int32).toInt = 0 := rfl
    have sm : (x + y).toInt = x.toInt + y.toInt := i_add (by have := hp.1; have := hp.2; omega) (by have := hp.1; have := hp.2; omega)
    by_cases h0 : x = 0 ∧ y = 0
    · rw [if_pos h0] at ea
      have hz : x + y = 0 := by rw [h0.1, h0.2]; rfl
      refine pw_c rfl ?_
      refine ps_goto rfl ?_
      refine ps_istore rfl rfl ?_
      refine ps_aload rfl rfl ?_
      refine ps_iload rfl rfl ?_
      refine ps_ift rfl (rfl) ?_
      refine ps_iload rfl rfl ?_
      refine ps_iload rfl rfl ?_
      refine ps_ar rfl rfl rfl rfl rfl ?_
      refine ps_iff rfl (decide_eq_false (fun z => z hz)) ?_
      refine pw_c rfl ?_
      refine ps_goto rfl ?_
      refine pw_k rfl rfl rfl rfl ⟨Nat.zero_le _, Nat.zero_le _⟩ ?_
      refine M_is ?_
      refine ps_iff rfl (by decide) ?_
      refine pw_c rfl ?_
      refine ps_iret rfl rfl ?_
      exact kE _ ea
    · rw [if_neg h0] at ea
      have hz : ¬ x + y = 0 := fun z => h0 (by
        have z := (i_eq _ _).mp z
        have := hp.1
        have := hp.2
        exact ⟨(i_eq _ _).mpr (by omega), (i_eq _ _).mpr (by omega)⟩)
      refine pw_c rfl ?_
      refine ps_goto rfl ?_
      refine ps_istore rfl rfl ?_
      refine ps_aload rfl rfl ?_
      refine ps_iload rfl rfl ?_
      refine ps_ift rfl (rfl) ?_
      refine ps_iload rfl rfl ?_
      refine ps_iload rfl rfl ?_
      refine ps_ar rfl rfl rfl rfl rfl ?_
      refine ps_ift rfl (decide_eq_true hz) ?_
      refine ps_aload rfl rfl ?_
      refine ps_gfr 11 16 rfl rfl rfl rfl rfl (rfl) ?_
      refine pw_c rfl ?_
      refine ps_iald (0) rfl rfl rfl (rfl) (by omega) ?_
      rw [show ((I, L, g_R s, 306) : pm_H).1 288 0 = nI (S.n 0) from c0]
      by_cases e : S.n 0 = 0
      · rw [if_pos e] at ea
        refine ps_iff rfl (decide_eq_false (fun z => z (by rw [e]; rfl))) ?_
        refine pw_c rfl ?_
        refine ps_goto rfl ?_
        refine pw_k rfl rfl rfl rfl ⟨Nat.zero_le _, Nat.zero_le _⟩ ?_
        refine M_is ?_
        refine ps_iff rfl (by decide) ?_
        refine pw_c rfl ?_
        refine ps_iret rfl rfl ?_
        exact kE _ ea
      · rw [if_neg e] at ea
        refine ps_ift rfl (decide_eq_true (nI_nz (by omega) (by omega))) ?_
        refine pw_c rfl ?_
        refine pw_k rfl rfl rfl rfl ⟨Nat.zero_le _, Nat.zero_le _⟩ ?_
        refine M_is ?_
        refine ps_ift rfl (by decide) ?_
        refine ps_aload rfl rfl ?_
        show pm_W _ _ _ _ _ (stI I 0, L, g_R s, 306) _ _
        refine pw_k rfl rfl rfl rfl ⟨Nat.zero_le _, Nat.zero_le _⟩ ?_
        refine M_rem6 (st_S hS ok) ok (st_H hH hok) hok (fun I1 n1 s1 h1 _ => ?_)
        have c1 : I1 288 0 = nI (S.n 0) := s1.1 0 (by omega)
        have loop : ∀ d i : Nat, i + d = S.n 0 → ∀ I2, (∀ a j, ¬ a = 288 → I2 a j = I1 a j) → (∀ j, I2 288 j = if 5 ≤ j ∧ j < 5 + 3 * i ∧ (j - 5) % 3 = 0 then md100 (I1 288 j + x) else if 5 ≤ j ∧ j < 5 + 3 * i ∧ (j - 5) % 3 = 1 then md100 (I1 288 j + y) else I1 288 j) → ∀ u : Int32, pm_W (g_P ys) 231 78 [.ref 275, .int x, .int y, .int u, .int (nI i)] [] (I2, L, g_R s, 306) (0, 0) Q := by
          intro d
          induction d with
          | zero =>
            intro i hi I2 o e u
            have c2 : I2 288 0 = nI (S.n 0) := by rw [e, if_neg (by omega), if_neg (by omega), c1]
            refine ps_iload rfl rfl ?_
            refine ps_aload rfl rfl ?_
            refine ps_gfr 11 16 rfl rfl rfl rfl rfl (rfl) ?_
            refine pw_c rfl ?_
            refine ps_iald (0) rfl rfl rfl (rfl) (by omega) ?_
            rw [show ((I2, L, g_R s, 306) : pm_H).1 288 0 = nI (S.n 0) from c2]
            refine ps_icmpt rfl (decide_eq_true (nI_le (by omega) (by omega))) ?_
            refine ps_aload rfl rfl ?_
            refine ps_gfr 11 16 rfl rfl rfl rfl rfl (rfl) ?_
            refine pw_c rfl ?_
            refine ps_iald (0) rfl rfl rfl (rfl) (by omega) ?_
            rw [show ((I2, L, g_R s, 306) : pm_H).1 288 0 = nI (S.n 0) from c2]
            refine ps_iret rfl rfl ?_
            refine kO _ _ ea _ ⟨fun a j z1 z2 z3 => (o a j z2).trans (n1 a j z1 z2 z3), slide_S s1 ok (fun j => ?_), mHs_f h1 (psh_ok ok hH.1 hok) (fun j => o _ _ (by decide)) (o _ _ (by decide))⟩
            rw [e, show i = S.n 0 by omega]
          | succ d ih =>
            intro i hi I2 o e u
            have c2 : I2 288 0 = nI (S.n 0) := by rw [e, if_neg (by omega), if_neg (by omega), c1]
            refine ps_iload rfl rfl ?_
            refine ps_aload rfl rfl ?_
            refine ps_gfr 11 16 rfl rfl rfl rfl rfl (rfl) ?_
            refine pw_c rfl ?_
            refine ps_iald (0) rfl rfl rfl (rfl) (by omega) ?_
            rw [show ((I2, L, g_R s, 306) : pm_H).1 288 0 = nI (S.n 0) from c2]
            refine ps_icmpf rfl (decide_eq_false (nI_ge (by omega) (by omega))) ?_
            refine ps_aload rfl rfl ?_
            refine ps_gfr 11 16 rfl rfl rfl rfl rfl (rfl) ?_
            refine pw_c rfl ?_
            refine pw_c rfl ?_
            refine ps_iload rfl rfl ?_
            refine ps_ar rfl rfl rfl rfl rfl ?_
            refine ps_ar rfl rfl rfl rfl rfl ?_
            refine ps_aload rfl rfl ?_
            refine ps_gfr 11 16 rfl rfl rfl rfl rfl (rfl) ?_
            refine pw_c rfl ?_
            refine pw_c rfl ?_
            refine ps_iload rfl rfl ?_
            refine ps_ar rfl rfl rfl rfl rfl ?_
            refine ps_ar rfl rfl rfl rfl rfl ?_
            refine ps_iald (5 + 3 * i) rfl rfl rfl (by simp only [ni_lit, ni_l0, pk_mul, nI_add, Nat.add_zero]) (by omega) ?_
            refine ps_iload rfl rfl ?_
            refine ps_ar rfl rfl rfl rfl rfl ?_
            refine pw_c rfl ?_
            refine ps_rem rfl (by decide) ?_
            refine ps_iast (5 + 3 * i) rfl rfl rfl (by simp only [ni_lit, ni_l0, pk_mul, nI_add, Nat.add_zero]) (by omega) ?_
            refine ps_aload rfl rfl ?_
            refine ps_gfr 11 16 rfl rfl rfl rfl rfl (rfl) ?_
            refine pw_c rfl ?_
            refine pw_c rfl ?_
            refine ps_iload rfl rfl ?_
            refine ps_ar rfl rfl rfl rfl rfl ?_
            refine ps_ar rfl rfl rfl rfl rfl ?_
            refine pw_c rfl ?_
            refine ps_ar rfl rfl rfl rfl rfl ?_
            refine ps_aload rfl rfl ?_
            refine ps_gfr 11 16 rfl rfl rfl rfl rfl (rfl) ?_
            refine pw_c rfl ?_
            refine pw_c rfl ?_
            refine ps_iload rfl rfl ?_
            refine ps_ar rfl rfl rfl rfl rfl ?_
            refine ps_ar rfl rfl rfl rfl rfl ?_
            refine pw_c rfl ?_
            refine ps_ar rfl rfl rfl rfl rfl ?_
            refine ps_iald (5 + 3 * i + 1) rfl rfl rfl (by simp only [ni_lit, ni_l0, pk_mul, nI_add, Nat.add_zero]) (by omega) ?_
            refine ps_iload rfl rfl ?_
            refine ps_ar rfl rfl rfl rfl rfl ?_
            refine pw_c rfl ?_
            refine ps_rem rfl (by decide) ?_
            refine ps_iast (5 + 3 * i + 1) rfl rfl rfl (by simp only [ni_lit, ni_l0, pk_mul, nI_add, Nat.add_zero]) (by omega) ?_
            refine ps_iinc rfl rfl ?_
            refine ps_goto rfl ?_
            rw [show nI i + Int32.ofInt 1 = nI (i + 1) from nI_1 i]
            have v0 : I2 288 (5 + 3 * i) = I1 288 (5 + 3 * i) := by rw [e, if_neg (by omega), if_neg (by omega)]
            have v1 : I2 288 (5 + 3 * i + 1) = I1 288 (5 + 3 * i + 1) := by rw [e, if_neg (by omega), if_neg (by omega)]
            refine ih (i + 1) (by omega) _ ?_ ?_ u
            · exact fun a j h => (pu_o h).trans ((pu_o h).trans (o a j h))
            intro j
            show pm_u (pm_u I2 288 (5 + 3 * i) (md100 (I2 288 (5 + 3 * i) + x))) 288 (5 + 3 * i + 1) (md100 (pm_u I2 288 (5 + 3 * i) (md100 (I2 288 (5 + 3 * i) + x)) 288 (5 + 3 * i + 1) + y)) 288 j = _
            rw [pu_n (show ¬ 5 + 3 * i + 1 = 5 + 3 * i by omega), v0, v1]
            by_cases e1 : j = 5 + 3 * i + 1
            · rw [e1, pu_s, if_neg (by omega), if_pos (by omega)]
            · rw [pu_n e1]
              by_cases e2 : j = 5 + 3 * i
              · rw [e2, pu_s, if_pos (by omega)]
              · rw [pu_n e2, e]
                by_cases e3 : 5 ≤ j ∧ j < 5 + 3 * i ∧ (j - 5) % 3 = 0
                · rw [if_pos e3, if_pos (by omega)]
                · rw [if_neg e3, if_neg (show ¬ (5 ≤ j ∧ j < 5 + 3 * (i + 1) ∧ (j - 5) % 3 = 0) by omega)]
                  by_cases e4 : 5 ≤ j ∧ j < 5 + 3 * i ∧ (j - 5) % 3 = 1
                  · rw [if_pos e4, if_pos (by omega)]
                  · rw [if_neg e4, if_neg (by omega)]
        refine pw_c rfl ?_
        refine ps_istore rfl rfl ?_
        exact loop (S.n 0) 0 (by omega) I1 (fun _ _ _ => rfl) (fun j => by rw [if_neg (by omega), if_neg (by omega)]) _
  have w2 : (0 ≤ x.toInt ∧ x.toInt ≤ 99) → ∀ a d v : Int64, (decide (a ≤ v) && decide (v ≤ d)) = decide (0 ≤ y.toInt ∧ y.toInt ≤ 99) → pm_W (g_P ys) 231 18 [.ref 275, .int x, .int y, .retAddr 0, .retAddr 0] [.long d, .long a, .long v] (I, L, g_R s, 306) (0, 0) Q := by
    intro hx a d v e
    refine pw_k rfl rfl rfl rfl ⟨Nat.zero_le _, Nat.zero_le _⟩ ?_
    refine M_isIn ?_
    rw [e]
    by_cases hy : 0 ≤ y.toInt ∧ y.toInt ≤ 99
    · rw [decide_eq_true hy]
      refine ps_iff rfl (rfl) ?_
      exact acts ⟨hx, hy⟩
    · rw [decide_eq_false hy]
      refine ps_ift rfl (rfl) ?_
      exact bad (fun z => hy z.2)
  refine ps_iload rfl rfl ?_
  refine ps_ar rfl rfl rfl rfl rfl ?_
  refine pw_c rfl ?_
  refine pw_c rfl ?_
  refine pw_k rfl rfl rfl rfl ⟨Nat.zero_le _, Nat.zero_le _⟩ ?_
  refine M_isIn ?_
  rw [isIn_k x 0 99 0 99 rfl rfl]
  by_cases hx : 0 ≤ x.toInt ∧ x.toInt ≤ 99
  · rw [decide_eq_true hx]
    refine ps_iff rfl (rfl) ?_
    refine ps_iload rfl rfl ?_
    refine ps_ar rfl rfl rfl rfl rfl ?_
    refine pw_c rfl ?_
    refine pw_c rfl ?_
    exact w2 hx _ _ _ (isIn_k y 0 99 0 99 rfl rfl)
  · rw [decide_eq_false hx]
    refine ps_ift rfl (rfl) ?_
    exact bad (fun z => hx z.1)
theorem M_undo6 (hH : mHs H m I) (hok : ∀ i, i < m → (H i).ok) (kE : m = 0 → Q [.int (-1)] (stI I 5, L, g_R s, 306)) (kO : ∀ m', m = m' + 1 → ∀ I', aftM (H m') H m' (stI I 0) I' → Q [.int (nI m')] (I', L, g_R s, 306)) : pm_W (g_P ys) 232 0 [.ref 275, .retAddr 0] [] (I, L, g_R s, 306) (0, 0) Q := by
  have m12 := hH.1
  refine ps_aload rfl rfl ?_
  refine ps_aload rfl rfl ?_
  refine ps_gfi 11 19 rfl rfl rfl rfl rfl ?_
  rw [show ((I, L, g_R s, 306) : pm_H).1 275 19 = nI m from hH.2.1]
  cases m with
  | zero =>
    refine ps_iff rfl (by decide) ?_
    refine pw_c rfl ?_
    refine ps_goto rfl ?_
    refine pw_k rfl rfl rfl rfl ⟨Nat.zero_le _, Nat.zero_le _⟩ ?_
    refine M_is ?_
    refine ps_iff rfl (by decide) ?_
    refine pw_c rfl ?_
    refine ps_iret rfl rfl ?_
    exact kE rfl
  | succ m' =>
    refine ps_ift rfl (decide_eq_true (nI_nz (by omega) (by omega))) ?_
    refine pw_c rfl ?_
    refine pw_k rfl rfl rfl rfl ⟨Nat.zero_le _, Nat.zero_le _⟩ ?_
    refine M_is ?_
    have hS : mSc 290 (89 * m') (H m') (stI I 0) := mSc_f (hH.2.2 m' (by omega)) (hok m' (by omega)) (fun j => stI_o (fun z => absurd z.1 (by decide)))
    have hH' : mHs H m' (pm_u (stI I 0) 275 19 (nI m')) := by
      have z := st_H (e := 0) hH hok
      exact ⟨by omega, pu_s, fun i hi => mSc_f (z.2.2 i (by omega)) (hok i (by omega)) (fun j => pu_o (by decide))⟩
    have cp : stI I 0 275 19 = nI (m' + 1) := (stI_o (by decide)).trans hH.2.1
    refine ps_ift rfl (by decide) ?_
    refine ps_aload rfl rfl ?_
    refine ps_ar rfl rfl rfl rfl rfl ?_
    refine ps_gfi 11 19 rfl rfl rfl rfl rfl ?_
    show pm_W _ _ _ _ _ (stI I 0, L, g_R s, 306) _ _
    rw [show ((pm_u (pm_u I 275 1 0) 275 0 0, L, g_R s, 306) : pm_H).1 275 19 = nI (m' + 1) from cp]
    refine pw_c rfl ?_
    refine ps_ar rfl rfl rfl rfl rfl ?_
    rw [show nI (m' + 1) - (1 : Int32) = nI m' from nI_p m']
    refine ps_pfi 11 19 rfl rfl rfl rfl rfl ?_
    refine pw_c rfl ?_
    refine ps_istore rfl rfl ?_
    have hSJ : mSc 290 (89 * m') (H m') (pm_u (stI I 0) 275 19 (nI m')) := mSc_f hS (hok m' (by omega)) (fun j => pu_o (by decide))
    have oJ : ∀ a j, ¬ (a = 275 ∧ j = 19) → pm_u (stI I 0) 275 19 (nI m') a j = stI I 0 a j := fun a j h => pu_x h
    show pm_W _ _ _ _ _ (pm_u (stI I 0) 275 19 (nI m'), L, g_R s, 306) _ _
    generalize pm_u (stI I 0) 275 19 (nI m') = J at hH' hSJ oJ ⊢
    have loop : ∀ d i : Nat, i + d = 89 → ∀ I2, (∀ a j, ¬ a = 288 → I2 a j = J a j) → (∀ j, j < i → I2 288 j = J 290 (89 * m' + j)) → pm_W (g_P ys) 232 33 [.ref 275, .int (nI i)] [] (I2, L, g_R s, 306) (0, 0) Q := by
      intro d
      induction d with
      | zero =>
        intro i hi I2 o e
        refine ps_iload rfl rfl ?_
        refine pw_c rfl ?_
        refine ps_icmpt rfl (decide_eq_true (nI_le (a := 89) (by omega) (by omega))) ?_
        refine ps_aload rfl rfl ?_
        refine ps_gfi 11 19 rfl rfl rfl rfl rfl ?_
        rw [show ((I2, L, g_R s, 306) : pm_H).1 275 19 = nI m' from (o _ _ (by decide)).trans hH'.2.1]
        refine ps_iret rfl rfl ?_
        refine kO m' rfl _ ⟨fun a j z1 z2 z3 => (o a j z2).trans (oJ a j (by omega)), mSc_t hSJ (hok m' (by omega)) (fun j hj => by rw [Nat.zero_add, e j (by omega)]), mHs_f hH' (fun i hi => hok i (by omega)) (fun j => o _ _ (by decide)) (o _ _ (by decide))⟩
      | succ d ih =>
        intro i hi I2 o e
        refine ps_iload rfl rfl ?_
        refine pw_c rfl ?_
        refine ps_icmpf rfl (decide_eq_false (nI_ge (b := 89) (by omega) (by omega))) ?_
        refine ps_aload rfl rfl ?_
        refine ps_gfr 11 16 rfl rfl rfl rfl rfl (rfl) ?_
        refine ps_iload rfl rfl ?_
        refine ps_aload rfl rfl ?_
        refine ps_gfr 11 18 rfl rfl rfl rfl rfl (rfl) ?_
        refine pw_c rfl ?_
        refine ps_aload rfl rfl ?_
        refine ps_gfi 11 19 rfl rfl rfl rfl rfl ?_
        rw [show ((I2, L, g_R s, 306) : pm_H).1 275 19 = nI m' from (o _ _ (by decide)).trans hH'.2.1]
        refine ps_ar rfl rfl rfl rfl rfl ?_
        refine ps_iload rfl rfl ?_
        refine ps_ar rfl rfl rfl rfl rfl ?_
        refine ps_iald (89 * m' + i) rfl rfl rfl (by simp only [ni_lit, ni_l0, pk_mul, nI_add, Nat.add_zero]) (by omega) ?_
        refine ps_iast (i) rfl rfl rfl (rfl) (by omega) ?_
        refine ps_iinc rfl rfl ?_
        refine ps_goto rfl ?_
        rw [show nI i + Int32.ofInt 1 = nI (i + 1) from nI_1 i]
        refine ih (i + 1) (by omega) _ (fun a j h => (pu_o h).trans (o a j h)) (fun j hj => ?_)
        show pm_u I2 288 i (I2 290 (89 * m' + i)) 288 j = _
        by_cases ej : j = i
        · rw [ej, pu_s, o _ _ (by decide)]
        · rw [pu_n ej]
          exact e j (by omega)
    exact loop 89 0 (by omega) J (fun _ _ _ => rfl) (fun j hj => absurd hj (by omega))
end SK
