/-! BY HAND: how the class reads a text, exactly, third: BITS, places of a set -/
section KZ
variable {I I' J : Nat → Nat → Int32} {L : Nat → Nat → Int64} {s : Nat → Option Nat} {Q : List Value → pm_H → Prop} {ys : List Int32} {B : sB} {b n c t p : Nat} {T : Nat → Int32}
theorem B_hasX {w v : Nat} (hp : isP p) (hP : cP I p w v) (x y : Int32) (kk : Q [.int (bI (decide ((0 ≤ x.toInt ∧ x.toInt < w) ∧ (0 ≤ y.toInt ∧ y.toInt < v))))] (I, L, g_R s, 306)) : pm_W (g_P ys) 54 0 [.ref p, .int x, .int y] [] (I, L, g_R s, 306) (0, 0) Q := by
  obtain ⟨hS0, hS1, hS2, hS3, hR0, hR1, hR2⟩ := pl_F (ys := ys) (s := s) hp
  obtain ⟨wb, vb⟩ := cP_b hP
  have e0 : (0 : Int32).toInt = 0 := rfl
  have tw := nI_toInt (n := w) (by omega)
  have tv := nI_toInt (n := v) (by omega)
  have no : ¬ ((0 ≤ x.toInt ∧ x.toInt < w) ∧ (0 ≤ y.toInt ∧ y.toInt < v)) → pm_W (g_P ys) 54 28 [.ref p, .int x, .int y] [] (I, L, g_R s, 306) (0, 0) Q := by
    intro z
    rw [decide_eq_false z] at kk
    refine pw_c rfl ?_
    refine ps_zret rfl rfl (Or.inl rfl) ?_
    exact kk
  by_cases h1 : 0 ≤ x.toInt
  · refine ps_iload rfl rfl ?_
    refine ps_iff rfl (decide_eq_false (fun z => by have := (i_lt _ _).mp z; omega)) ?_
    refine ps_iload rfl rfl ?_
    refine ps_aload rfl rfl ?_
    refine ps_gfi 9 4 rfl rfl rfl (by first | exact hS0 _ _ | exact hS1 _ _ | exact hS2 _ _ | exact hS3 _ _ | exact hS4 _ _ | exact hS5 _ _ | exact hS6 _ _ | exact hS7 _ _ | exact hS8 _ _ | exact hS9 _ _ | exact hS10 _ _ | exact hS11 _ _ | exact hS12 _ _ | exact hS13 _ _ | assumption | rfl) rfl ?_
    rw [show ((I, L, g_R s, 306) : pm_H).1 p 4 = nI w from hP.1]
    by_cases h2 : x.toInt < w
    · refine ps_icmpf rfl (decide_eq_false (fun z => by have := (i_le _ _).mp z; omega)) ?_
      refine ps_iload rfl rfl ?_
      refine ps_if rfl (fun h3 => ?_) (fun h3 => ?_)
      · have h3 : y < 0 := of_decide_eq_true h3
        rw [i_lt] at h3
        exact no (fun z => by omega)
      · have h3 : ¬ y < 0 := of_decide_eq_false h3
        rw [i_lt] at h3
        refine ps_iload rfl rfl ?_
        refine ps_aload rfl rfl ?_
        refine ps_gfi 9 5 rfl rfl rfl (by first | exact hS0 _ _ | exact hS1 _ _ | exact hS2 _ _ | exact hS3 _ _ | exact hS4 _ _ | exact hS5 _ _ | exact hS6 _ _ | exact hS7 _ _ | exact hS8 _ _ | exact hS9 _ _ | exact hS10 _ _ | exact hS11 _ _ | exact hS12 _ _ | exact hS13 _ _ | assumption | rfl) rfl ?_
        rw [show ((I, L, g_R s, 306) : pm_H).1 p 5 = nI v from hP.2.1]
        by_cases h4 : y.toInt < v
        · rw [decide_eq_true ⟨⟨h1, h2⟩, by omega, h4⟩] at kk
          refine ps_icmpf rfl (decide_eq_false (fun z => by have := (i_le _ _).mp z; omega)) ?_
          refine pw_c rfl ?_
          refine ps_goto rfl ?_
          refine ps_zret rfl rfl (Or.inr rfl) ?_
          exact kk
        · refine ps_icmpt rfl (decide_eq_true ((i_le _ _).mpr (by omega))) ?_
          exact no (fun z => h4 z.2.2)
    · refine ps_icmpt rfl (decide_eq_true ((i_le _ _).mpr (by omega))) ?_
      exact no (fun z => h2 z.1.2)
  · refine ps_iload rfl rfl ?_
    refine ps_ift rfl (decide_eq_true ((i_lt _ _).mpr (by omega))) ?_
    exact no (fun z => h1 z.1.1)
/-- where a LINE's reading writes: the loader, the plate that is next -/
def cM (p : Nat) (I I' : Nat → Nat → Int32) : Prop := ∀ a j, ¬ a = 5 → ¬ a = 11 → ¬ (p ≤ a ∧ a ≤ p + 3) → I' a j = I a j
theorem cM_0 : cM p I I := fun _ _ _ _ _ => rfl
theorem cM_t {I'' : Nat → Nat → Int32} (h : cM p I I') (k : cM p I' I'') : cM p I I'' := fun a j h1 h2 h3 => (k a j h1 h2 h3).trans (h a j h1 h2 h3)
theorem cM_u (h : cM p I I') {a j : Nat} {x : Int32} (ha : a = 5 ∨ a = 11 ∨ (p ≤ a ∧ a ≤ p + 3)) : cM p I (pm_u I' a j x) := fun q i h1 h2 h3 => (pu_x (fun z => by omega)).trans (h q i h1 h2 h3)
theorem cL_M (hp : b ≤ p ∧ p + 3 ≤ b + 40) (h : cL b J I) (k : cM p I I') : cL b J I' := fun a j h1 h2 h3 => (k a j h2 h3 (by omega)).trans (h a j h1 h2 h3)
theorem B_takeBitsX (hb : isB b) (hc : cC b J I t) (h8 : t ≤ 800) (hp : isP p) (hpb : b ≤ p ∧ p + 3 ≤ b + 40) (S : stX (fun j => J 2 j) T J n c) (ht : t ≤ c) (kB : ¬ J 7 t = 4 → ∀ I', cL b J I' → I' 5 4 = eK J t → I' 5 5 = J 8 t → Q [.int 0] (I', L, g_R s, 306)) (kO : J 7 t = 4 → ∀ k I', k = (J 10 t).toInt.toNat → 1 ≤ k → k ≤ 40 → cM p I I' → (∀ j, I' 11 j = I 11 j) → I' p 3 = I p 3 → I' 5 3 = nI (t + 1) → I' 5 4 = I 5 4 → I' 5 5 = I 5 5 → cP I' p k 1 → I' p 9 = 0 → (∀ x, x < k → I' (p + 1) x = if btF (fun j => J 2 j) J t x = true then 1 else 0) → Q [.int 1] (I', L, g_R s, 306)) : pm_W (g_P ys) 47 0 [.ref 5, .ref 1, .ref p, .retAddr 0, .retAddr 0] [] (I, L, g_R s, 306) (0, 0) Q := by
  obtain ⟨hS0, hS1, hS2, hS3, hR0, hR1, hR2⟩ := pl_F (ys := ys) (s := s) hp
  have bb := isB_b hb
  have e10 := cL_r hb hc.1 (a := 10) (by omega) (by omega) t
  have e8 := cL_r hb hc.1 (a := 8) (by omega) (by omega) t
  refine ps_aload rfl rfl ?_
  refine pw_c rfl ?_
  refine pw_k rfl rfl rfl rfl ⟨Nat.zero_le _, Nat.zero_le _⟩ ?_
  refine B_expX hb hc h8 (k := 4) (by decide) (fun h7 I' c1 c2 c3 => ?_) (fun h7 => ?_)
  · refine ps_iff rfl (rfl) ?_
    refine pw_c rfl ?_
    refine ps_zret rfl rfl (Or.inl rfl) ?_
    exact kB h7 _ c1 c2 c3
  have t1 := tk_lt S ht (by rw [h7]; decide)
  obtain ⟨q, k, q1, q2, k1, k40, qn, qb⟩ := tk_bits S t1 h7
  have hn8 := S.2.2
  have ek : k = (J 10 t).toInt.toNat := by rw [q2, nI_toInt (by omega)]; rfl
  refine ps_ift rfl (rfl) ?_
  refine ps_aload rfl rfl ?_
  refine ps_aload rfl rfl ?_
  refine ps_gfr 2 0 rfl rfl rfl rfl rfl (rfl) ?_
  refine ps_gfr 3 3 rfl rfl rfl rfl rfl (rfl) ?_
  refine ps_aload rfl rfl ?_
  refine ps_gfi 2 3 rfl rfl rfl rfl rfl ?_
  refine ps_iald (t) rfl rfl rfl (hc.2.1) (by omega) ?_
  rw [show ((I, L, g_R s, 306) : pm_H).1 10 t = nI k from e10.trans q2]
  refine pv_k rfl rfl rfl rfl rfl (by first | exact hS0 _ _ | exact hS1 _ _ | exact hS2 _ _ | exact hS3 _ _ | exact hS4 _ _ | exact hS5 _ _ | exact hS6 _ _ | exact hS7 _ _ | exact hS8 _ _ | exact hS9 _ _ | exact hS10 _ _ | exact hS11 _ _ | exact hS12 _ _ | exact hS13 _ _ | assumption | rfl) rfl ⟨Nat.zero_le _, Nat.zero_le _⟩ ?_
  refine B_closedX hp (w := k) (by omega) (by omega) ?_
  intro I1 f1 c1 s1 z1
  have h1 : I1 5 3 = nI t := (f1 _ _ (by omega)).trans hc.2.1
  have h28 : I1 8 t = nI q := (f1 _ _ (by omega)).trans (e8.trans q1)
  refine ps_aload rfl rfl ?_
  refine ps_gfr 2 0 rfl rfl rfl (by first | exact hS0 _ _ | exact hS1 _ _ | exact hS2 _ _ | exact hS3 _ _ | exact hS4 _ _ | exact hS5 _ _ | exact hS6 _ _ | exact hS7 _ _ | exact hS8 _ _ | exact hS9 _ _ | exact hS10 _ _ | exact hS11 _ _ | exact hS12 _ _ | exact hS13 _ _ | assumption | rfl) rfl (by first | assumption | rfl) ?_
  refine ps_gfr 3 1 rfl rfl rfl (by first | exact hS0 _ _ | exact hS1 _ _ | exact hS2 _ _ | exact hS3 _ _ | exact hS4 _ _ | exact hS5 _ _ | exact hS6 _ _ | exact hS7 _ _ | exact hS8 _ _ | exact hS9 _ _ | exact hS10 _ _ | exact hS11 _ _ | exact hS12 _ _ | exact hS13 _ _ | assumption | rfl) rfl (by first | assumption | rfl) ?_
  refine ps_aload rfl rfl ?_
  refine ps_gfi 2 3 rfl rfl rfl (by first | exact hS0 _ _ | exact hS1 _ _ | exact hS2 _ _ | exact hS3 _ _ | exact hS4 _ _ | exact hS5 _ _ | exact hS6 _ _ | exact hS7 _ _ | exact hS8 _ _ | exact hS9 _ _ | exact hS10 _ _ | exact hS11 _ _ | exact hS12 _ _ | exact hS13 _ _ | assumption | rfl) rfl ?_
  refine ps_iald (t) rfl (by first | exact hS0 _ _ | exact hS1 _ _ | exact hS2 _ _ | exact hS3 _ _ | exact hS4 _ _ | exact hS5 _ _ | exact hS6 _ _ | exact hS7 _ _ | exact hS8 _ _ | exact hS9 _ _ | exact hS10 _ _ | exact hS11 _ _ | exact hS12 _ _ | exact hS13 _ _ | assumption | rfl) rfl (h1) (by omega) ?_
  rw [show ((I1, L, g_R s, 306) : pm_H).1 8 t = nI q from h28]
  refine pw_c rfl ?_
  refine ps_ar rfl rfl rfl rfl rfl ?_
  rw [show nI q + (1 : Int32) = nI (q + 1) from nI_1 q]
  refine ps_istore rfl rfl ?_
  refine pw_c rfl ?_
  refine ps_istore rfl rfl ?_
  have loop : ∀ d x I', x + d = k → (∀ a j, ¬ (a = p + 1 ∧ j < x) → I' a j = I1 a j) → (∀ j, j < x → I' (p + 1) j = if btF (fun j => J 2 j) J t j = true then 1 else 0) → pm_W (g_P ys) 47 44 [.ref 5, .ref 1, .ref p, .int (nI (q + 1)), .int (nI x)] [] (I', L, g_R s, 306) (0, 0) Q := by
    intro d
    induction d with
    | zero =>
      intro x I' hx g1 g2
      have hxk : x = k := by omega
      rw [hxk] at g1 g2
      have c' := cP_o c1 (fun j => g1 p j (by omega))
      refine ps_iload rfl rfl ?_
      refine ps_aload rfl rfl ?_
      refine ps_gfi 9 4 rfl rfl rfl (by first | exact hS0 _ _ | exact hS1 _ _ | exact hS2 _ _ | exact hS3 _ _ | exact hS4 _ _ | exact hS5 _ _ | exact hS6 _ _ | exact hS7 _ _ | exact hS8 _ _ | exact hS9 _ _ | exact hS10 _ _ | exact hS11 _ _ | exact hS12 _ _ | exact hS13 _ _ | assumption | rfl) rfl ?_
      rw [show ((I', L, g_R s, 306) : pm_H).1 p 4 = nI k from c'.1]
      refine ps_icmpt rfl (decide_eq_true (nI_le (by omega) (by omega))) ?_
      refine ps_aload rfl rfl ?_
      refine ps_ar rfl rfl rfl rfl rfl ?_
      refine ps_gfi 2 3 rfl rfl rfl (by first | exact hS0 _ _ | exact hS1 _ _ | exact hS2 _ _ | exact hS3 _ _ | exact hS4 _ _ | exact hS5 _ _ | exact hS6 _ _ | exact hS7 _ _ | exact hS8 _ _ | exact hS9 _ _ | exact hS10 _ _ | exact hS11 _ _ | exact hS12 _ _ | exact hS13 _ _ | assumption | rfl) rfl ?_
      rw [show ((I', L, g_R s, 306) : pm_H).1 5 3 = nI t from (g1 _ _ (by omega)).trans h1]
      refine pw_c rfl ?_
      refine ps_ar rfl rfl rfl rfl rfl ?_
      rw [show nI t + (1 : Int32) = nI (t + 1) from nI_1 t]
      refine ps_pfi 2 3 rfl rfl rfl (by first | exact hS0 _ _ | exact hS1 _ _ | exact hS2 _ _ | exact hS3 _ _ | exact hS4 _ _ | exact hS5 _ _ | exact hS6 _ _ | exact hS7 _ _ | exact hS8 _ _ | exact hS9 _ _ | exact hS10 _ _ | exact hS11 _ _ | exact hS12 _ _ | exact hS13 _ _ | assumption | rfl) rfl ?_
      refine pw_c rfl ?_
      refine ps_zret rfl rfl (Or.inr rfl) ?_
      refine kO h7 k _ ek k1 k40 (fun a j n1 n2 n3 => ?_) (fun j => ?_) ?_ pu_s ((pu_n (by decide)).trans ((g1 _ _ (by omega)).trans (f1 _ _ (by omega)))) ((pu_n (by decide)).trans ((g1 _ _ (by omega)).trans (f1 _ _ (by omega)))) (cP_o c' (fun j => pu_o (by omega))) ?_ (fun x hx => ?_)
      · show pm_u I' 5 3 (nI (t + 1)) a j = _
        rw [pu_o n1, g1 a j (by omega), f1 a j (by omega)]
      · show pm_u I' 5 3 (nI (t + 1)) 11 j = _
        rw [pu_o (by decide), g1 _ _ (by omega), f1 _ _ (by omega)]
      · show pm_u I' 5 3 (nI (t + 1)) p _ = _
        rw [pu_o (by omega), g1 _ _ (by omega), f1 _ _ (by omega)]
      · show pm_u I' 5 3 (nI (t + 1)) p _ = _
        rw [pu_o (by omega), g1 _ _ (by omega)]
        exact s1
      · show pm_u I' 5 3 (nI (t + 1)) (p + 1) x = _
        rw [pu_o (by omega)]
        exact g2 x hx
    | succ d ih =>
      intro x I' hx g1 g2
      have c' := cP_o c1 (fun j => g1 p j (by omega))
      have tx : I' 2 (q + 1 + x) = J 2 (q + 1 + x) := by
        rw [g1 _ _ (by omega), f1 _ _ (by omega)]
        exact cL_r hb hc.1 (a := 2) (by omega) (by omega) _
      have eb : btF (fun j => J 2 j) J t x = decide ((J 2 (q + 1 + x)).toInt = 49) := by
        unfold btF
        rw [show (J 8 t).toInt.toNat = q by rw [q1, nI_toInt (by omega)]; rfl]
      have next : ∀ z : Int32, z = (if btF (fun j => J 2 j) J t x = true then 1 else 0) → pm_W (g_P ys) 47 78 [.ref 5, .ref 1, .ref p, .int (nI (q + 1)), .int (nI x)] [.int z, .int (nI x), .ref (p + 1)] (I', L, g_R s, 306) (0, 0) Q := by
        intro z hz
        refine ps_iast (x) rfl (by first | exact hS0 _ _ | exact hS1 _ _ | exact hS2 _ _ | exact hS3 _ _ | exact hS4 _ _ | exact hS5 _ _ | exact hS6 _ _ | exact hS7 _ _ | exact hS8 _ _ | exact hS9 _ _ | exact hS10 _ _ | exact hS11 _ _ | exact hS12 _ _ | exact hS13 _ _ | assumption | rfl) rfl (rfl) (by omega) ?_
        refine ps_iinc rfl rfl ?_
        refine ps_goto rfl ?_
        rw [show nI x + Int32.ofInt 1 = nI (x + 1) from nI_1 x]
        exact ih (x + 1) _ (by omega) (fun a j n => (pu_x (fun z => n (by omega))).trans (g1 a j (fun z => n (by omega)))) (row_t (G := fun j => if btF (fun j => J 2 j) J t j = true then (1 : Int32) else 0) g2 hz)
      refine ps_iload rfl rfl ?_
      refine ps_aload rfl rfl ?_
      refine ps_gfi 9 4 rfl rfl rfl (by first | exact hS0 _ _ | exact hS1 _ _ | exact hS2 _ _ | exact hS3 _ _ | exact hS4 _ _ | exact hS5 _ _ | exact hS6 _ _ | exact hS7 _ _ | exact hS8 _ _ | exact hS9 _ _ | exact hS10 _ _ | exact hS11 _ _ | exact hS12 _ _ | exact hS13 _ _ | assumption | rfl) rfl ?_
      rw [show ((I', L, g_R s, 306) : pm_H).1 p 4 = nI k from c'.1]
      refine ps_icmpf rfl (decide_eq_false (nI_ge (by omega) (by omega))) ?_
      refine ps_aload rfl rfl ?_
      refine ps_gfr 9 0 rfl rfl rfl (by first | exact hS0 _ _ | exact hS1 _ _ | exact hS2 _ _ | exact hS3 _ _ | exact hS4 _ _ | exact hS5 _ _ | exact hS6 _ _ | exact hS7 _ _ | exact hS8 _ _ | exact hS9 _ _ | exact hS10 _ _ | exact hS11 _ _ | exact hS12 _ _ | exact hS13 _ _ | assumption | rfl) rfl (by first | assumption | rfl) ?_
      refine ps_iload rfl rfl ?_
      refine ps_aload rfl rfl ?_
      refine ps_gfr 1 0 rfl rfl rfl (by first | exact hS0 _ _ | exact hS1 _ _ | exact hS2 _ _ | exact hS3 _ _ | exact hS4 _ _ | exact hS5 _ _ | exact hS6 _ _ | exact hS7 _ _ | exact hS8 _ _ | exact hS9 _ _ | exact hS10 _ _ | exact hS11 _ _ | exact hS12 _ _ | exact hS13 _ _ | assumption | rfl) rfl (by first | assumption | rfl) ?_
      refine ps_iload rfl rfl ?_
      refine ps_iload rfl rfl ?_
      refine ps_ar rfl rfl rfl rfl rfl ?_
      refine ps_iald (q + 1 + x) rfl (by first | exact hS0 _ _ | exact hS1 _ _ | exact hS2 _ _ | exact hS3 _ _ | exact hS4 _ _ | exact hS5 _ _ | exact hS6 _ _ | exact hS7 _ _ | exact hS8 _ _ | exact hS9 _ _ | exact hS10 _ _ | exact hS11 _ _ | exact hS12 _ _ | exact hS13 _ _ | assumption | rfl) rfl (nI_add _ _) (by omega) ?_
      rw [show ((I', L, g_R s, 306) : pm_H).1 2 (q + 1 + x) = J 2 (q + 1 + x) from tx]
      by_cases e : (J 2 (q + 1 + x)).toInt = 49
      · refine pw_c rfl ?_
        refine ps_icmpf rfl (decide_eq_false (fun z => z ((i_eq _ _).mpr e))) ?_
        refine pw_c rfl ?_
        refine ps_goto rfl ?_
        exact next 1 (by rw [eb, if_pos (decide_eq_true e)])
      · refine pw_c rfl ?_
        refine ps_icmpt rfl (decide_eq_true (fun z => e ((i_eq _ _).mp z))) ?_
        refine pw_c rfl ?_
        exact next 0 (by rw [eb, if_neg (fun z => e (of_decide_eq_true z))])
  exact loop k 0 I1 (by omega) (fun _ _ _ => rfl) (fun j hj => absurd hj (by omega))
theorem B_takePlacesX {w : Nat} (hb : isB b) (hc : cC b J I t) (hp : isP p) (hpb : b ≤ p ∧ p + 3 ≤ b + 40) (S : stX (fun j => J 2 j) T J n c) (ht : t ≤ c) (hJ : J 6 4 = nI (c + 1)) (hg : I 11 0 = nI w) (w1 : 1 ≤ w) (w2 : w ≤ 47) (kB : ∀ k u, xPlc J w (c - t) t (fun _ => 0) = .error (k, u) → ∀ I', cL b J I' → I' 5 4 = k → I' 5 5 = J 8 u → Q [.int 0] (I', L, g_R s, 306)) (kO : ∀ u h, xPlc J w (c - t) t (fun _ => 0) = .ok (u, h) → ∀ I', cM p I I' → (∀ j, I' 11 j = I 11 j) → I' p 3 = I p 3 → I' 5 3 = nI u → I' 5 4 = I 5 4 → I' 5 5 = I 5 5 → cP I' p w 1 → I' p 9 = 0 → (∀ x, x < w → I' (p + 1) x = h x) → Q [.int 1] (I', L, g_R s, 306)) : pm_W (g_P ys) 53 0 [.ref 5, .ref p, .retAddr 0, .retAddr 0] [] (I, L, g_R s, 306) (0, 0) Q := by
  obtain ⟨hS0, hS1, hS2, hS3, hR0, hR1, hR2⟩ := pl_F (ys := ys) (s := s) hp
  have bb := isB_b hb
  have hn8 := S.2.2
  have cn : c ≤ n := S.1.2.1
  refine ps_aload rfl rfl ?_
  refine ps_aload rfl rfl ?_
  refine ps_gfr 2 1 rfl rfl rfl (by first | exact hS0 _ _ | exact hS1 _ _ | exact hS2 _ _ | exact hS3 _ _ | exact hS4 _ _ | exact hS5 _ _ | exact hS6 _ _ | exact hS7 _ _ | exact hS8 _ _ | exact hS9 _ _ | exact hS10 _ _ | exact hS11 _ _ | exact hS12 _ _ | exact hS13 _ _ | assumption | rfl) rfl (by first | assumption | rfl) ?_
  refine pw_c rfl ?_
  refine ps_iald (0) rfl (by first | exact hS0 _ _ | exact hS1 _ _ | exact hS2 _ _ | exact hS3 _ _ | exact hS4 _ _ | exact hS5 _ _ | exact hS6 _ _ | exact hS7 _ _ | exact hS8 _ _ | exact hS9 _ _ | exact hS10 _ _ | exact hS11 _ _ | exact hS12 _ _ | exact hS13 _ _ | assumption | rfl) rfl (rfl) (by omega) ?_
  rw [show ((I, L, g_R s, 306) : pm_H).1 11 0 = nI w from hg]
  refine pv_k rfl rfl rfl rfl rfl (by first | exact hS0 _ _ | exact hS1 _ _ | exact hS2 _ _ | exact hS3 _ _ | exact hS4 _ _ | exact hS5 _ _ | exact hS6 _ _ | exact hS7 _ _ | exact hS8 _ _ | exact hS9 _ _ | exact hS10 _ _ | exact hS11 _ _ | exact hS12 _ _ | exact hS13 _ _ | assumption | rfl) rfl ⟨Nat.zero_le _, Nat.zero_le _⟩ ?_
  refine B_closedX hp (w := w) (by omega) (by omega) ?_
  intro I1 f1 c1 s1 z1
  refine pw_c rfl ?_
  refine ps_istore rfl rfl ?_
  have loop : ∀ d u i I' h (u3 : Value), u + d = c → i ≤ u → (∀ a j, ¬ (a = p + 1) → ¬ (a = 5 ∧ j = 3) → I' a j = I1 a j) → I' 5 3 = nI u → (∀ x, h x = 0 ∨ h x = 1) → (∀ x, x < w → I' (p + 1) x = h x) → (∀ k u', xPlc J w d u h = .error (k, u') → ∀ I', cL b J I' → I' 5 4 = k → I' 5 5 = J 8 u' → Q [.int 0] (I', L, g_R s, 306)) → (∀ u' h', xPlc J w d u h = .ok (u', h') → ∀ I', cM p I I' → (∀ j, I' 11 j = I 11 j) → I' p 3 = I p 3 → I' 5 3 = nI u' → I' 5 4 = I 5 4 → I' 5 5 = I 5 5 → cP I' p w 1 → I' p 9 = 0 → (∀ x, x < w → I' (p + 1) x = h' x) → Q [.int 1] (I', L, g_R s, 306)) → pm_W (g_P ys) 53 12 [.ref 5, .ref p, .int (nI i), u3] [] (I', L, g_R s, 306) (0, 0) Q := by
    intro d
    induction d with
    | zero =>
      intro u i I' h u3 hu hi g1 g3 h01 g2 kB kO
      have huc : u = c := by omega
      have cl : cL b J I' := fun a j n1 n2 n3 => by rw [g1 a j (by omega) (by omega), f1 a j (by omega)]; exact hc.1 a j n1 n2 n3
      have e64 : I' 6 4 = nI (c + 1) := (cL_r hb cl (by omega) (by omega) _).trans hJ
      have e7 : I' 7 u = 0 := (cL_r hb cl (by omega) (by omega) _).trans (by rw [huc]; exact S.1.2.2.2.2.1)
      refine ps_iload rfl rfl ?_
      refine ps_aload rfl rfl ?_
      refine ps_gfr 2 0 rfl rfl rfl (by first | exact hS0 _ _ | exact hS1 _ _ | exact hS2 _ _ | exact hS3 _ _ | exact hS4 _ _ | exact hS5 _ _ | exact hS6 _ _ | exact hS7 _ _ | exact hS8 _ _ | exact hS9 _ _ | exact hS10 _ _ | exact hS11 _ _ | exact hS12 _ _ | exact hS13 _ _ | assumption | rfl) rfl (by first | assumption | rfl) ?_
      refine ps_gfi 3 4 rfl rfl rfl (by first | exact hS0 _ _ | exact hS1 _ _ | exact hS2 _ _ | exact hS3 _ _ | exact hS4 _ _ | exact hS5 _ _ | exact hS6 _ _ | exact hS7 _ _ | exact hS8 _ _ | exact hS9 _ _ | exact hS10 _ _ | exact hS11 _ _ | exact hS12 _ _ | exact hS13 _ _ | assumption | rfl) rfl ?_
      rw [show ((I', L, g_R s, 306) : pm_H).1 6 4 = nI (c + 1) from e64]
      refine ps_icmpf rfl (decide_eq_false (nI_ge (by omega) (by omega))) ?_
      refine ps_aload rfl rfl ?_
      refine ps_gfr 2 0 rfl rfl rfl (by first | exact hS0 _ _ | exact hS1 _ _ | exact hS2 _ _ | exact hS3 _ _ | exact hS4 _ _ | exact hS5 _ _ | exact hS6 _ _ | exact hS7 _ _ | exact hS8 _ _ | exact hS9 _ _ | exact hS10 _ _ | exact hS11 _ _ | exact hS12 _ _ | exact hS13 _ _ | assumption | rfl) rfl (by first | assumption | rfl) ?_
      refine ps_gfr 3 0 rfl rfl rfl (by first | exact hS0 _ _ | exact hS1 _ _ | exact hS2 _ _ | exact hS3 _ _ | exact hS4 _ _ | exact hS5 _ _ | exact hS6 _ _ | exact hS7 _ _ | exact hS8 _ _ | exact hS9 _ _ | exact hS10 _ _ | exact hS11 _ _ | exact hS12 _ _ | exact hS13 _ _ | assumption | rfl) rfl (by first | assumption | rfl) ?_
      refine ps_aload rfl rfl ?_
      refine ps_gfi 2 3 rfl rfl rfl (by first | exact hS0 _ _ | exact hS1 _ _ | exact hS2 _ _ | exact hS3 _ _ | exact hS4 _ _ | exact hS5 _ _ | exact hS6 _ _ | exact hS7 _ _ | exact hS8 _ _ | exact hS9 _ _ | exact hS10 _ _ | exact hS11 _ _ | exact hS12 _ _ | exact hS13 _ _ | assumption | rfl) rfl ?_
      refine ps_iald (u) rfl (by first | exact hS0 _ _ | exact hS1 _ _ | exact hS2 _ _ | exact hS3 _ _ | exact hS4 _ _ | exact hS5 _ _ | exact hS6 _ _ | exact hS7 _ _ | exact hS8 _ _ | exact hS9 _ _ | exact hS10 _ _ | exact hS11 _ _ | exact hS12 _ _ | exact hS13 _ _ | assumption | rfl) rfl (g3) (by omega) ?_
      rw [show ((I', L, g_R s, 306) : pm_H).1 7 u = 0 from e7]
      refine pw_c rfl ?_
      refine ps_icmpt rfl (rfl) ?_
      refine pw_c rfl ?_
      refine ps_zret rfl rfl (Or.inr rfl) ?_
      exact kO _ _ rfl _ (fun a j n1 n2 n3 => by rw [g1 a j (by omega) (by omega), f1 a j (by omega)]) (fun j => by rw [g1 _ _ (by omega) (by omega), f1 _ _ (by omega)]) (by rw [g1 _ _ (by omega) (by omega), f1 _ _ (by omega)]) g3 (by rw [g1 _ _ (by omega) (by omega), f1 _ _ (by omega)]) (by rw [g1 _ _ (by omega) (by omega), f1 _ _ (by omega)]) (cP_o c1 (fun j => g1 _ _ (by omega) (by omega))) ((g1 _ _ (by omega) (by omega)).trans s1) g2
    | succ d ih =>
      intro u i I' h u3 hu hi g1 g3 h01 g2 kB kO
      have cl : cL b J I' := fun a j n1 n2 n3 => by rw [g1 a j (by omega) (by omega), f1 a j (by omega)]; exact hc.1 a j n1 n2 n3
      have e64 : I' 6 4 = nI (c + 1) := (cL_r hb cl (by omega) (by omega) _).trans hJ
      have e7 : I' 7 u = J 7 u := cL_r hb cl (by omega) (by omega) _
      have e10 : I' 10 u = J 10 u := cL_r hb cl (by omega) (by omega) _
      have c' := cP_o c1 (fun j => g1 p j (by omega) (by omega))
      rw [xPlc] at kB kO
      refine ps_iload rfl rfl ?_
      refine ps_aload rfl rfl ?_
      refine ps_gfr 2 0 rfl rfl rfl (by first | exact hS0 _ _ | exact hS1 _ _ | exact hS2 _ _ | exact hS3 _ _ | exact hS4 _ _ | exact hS5 _ _ | exact hS6 _ _ | exact hS7 _ _ | exact hS8 _ _ | exact hS9 _ _ | exact hS10 _ _ | exact hS11 _ _ | exact hS12 _ _ | exact hS13 _ _ | assumption | rfl) rfl (by first | assumption | rfl) ?_
      refine ps_gfi 3 4 rfl rfl rfl (by first | exact hS0 _ _ | exact hS1 _ _ | exact hS2 _ _ | exact hS3 _ _ | exact hS4 _ _ | exact hS5 _ _ | exact hS6 _ _ | exact hS7 _ _ | exact hS8 _ _ | exact hS9 _ _ | exact hS10 _ _ | exact hS11 _ _ | exact hS12 _ _ | exact hS13 _ _ | assumption | rfl) rfl ?_
      rw [show ((I', L, g_R s, 306) : pm_H).1 6 4 = nI (c + 1) from e64]
      refine ps_icmpf rfl (decide_eq_false (nI_ge (by omega) (by omega))) ?_
      refine ps_aload rfl rfl ?_
      refine ps_gfr 2 0 rfl rfl rfl (by first | exact hS0 _ _ | exact hS1 _ _ | exact hS2 _ _ | exact hS3 _ _ | exact hS4 _ _ | exact hS5 _ _ | exact hS6 _ _ | exact hS7 _ _ | exact hS8 _ _ | exact hS9 _ _ | exact hS10 _ _ | exact hS11 _ _ | exact hS12 _ _ | exact hS13 _ _ | assumption | rfl) rfl (by first | assumption | rfl) ?_
      refine ps_gfr 3 0 rfl rfl rfl (by first | exact hS0 _ _ | exact hS1 _ _ | exact hS2 _ _ | exact hS3 _ _ | exact hS4 _ _ | exact hS5 _ _ | exact hS6 _ _ | exact hS7 _ _ | exact hS8 _ _ | exact hS9 _ _ | exact hS10 _ _ | exact hS11 _ _ | exact hS12 _ _ | exact hS13 _ _ | assumption | rfl) rfl (by first | assumption | rfl) ?_
      refine ps_aload rfl rfl ?_
      refine ps_gfi 2 3 rfl rfl rfl (by first | exact hS0 _ _ | exact hS1 _ _ | exact hS2 _ _ | exact hS3 _ _ | exact hS4 _ _ | exact hS5 _ _ | exact hS6 _ _ | exact hS7 _ _ | exact hS8 _ _ | exact hS9 _ _ | exact hS10 _ _ | exact hS11 _ _ | exact hS12 _ _ | exact hS13 _ _ | assumption | rfl) rfl ?_
      refine ps_iald (u) rfl (by first | exact hS0 _ _ | exact hS1 _ _ | exact hS2 _ _ | exact hS3 _ _ | exact hS4 _ _ | exact hS5 _ _ | exact hS6 _ _ | exact hS7 _ _ | exact hS8 _ _ | exact hS9 _ _ | exact hS10 _ _ | exact hS11 _ _ | exact hS12 _ _ | exact hS13 _ _ | assumption | rfl) rfl (g3) (by omega) ?_
      rw [show ((I', L, g_R s, 306) : pm_H).1 7 u = J 7 u from e7]
      by_cases h3 : J 7 u = 3
      · rw [if_pos h3] at kB kO
        have nb := tk_num S (by omega) h3
        obtain ⟨v, hv⟩ : ∃ v, v = (J 10 u).toInt.toNat := ⟨_, rfl⟩
        have ev := nI_oz hv nb.1
        rw [← hv] at kB kO
        have bad : ¬ ((J 10 u).toInt < w ∧ h v = 0) → ∀ u3 : Value, pm_W (g_P ys) 53 71 [.ref 5, .ref p, .int (nI i), u3] [] (I', L, g_R s, 306) (0, 0) Q := by
          intro z u3
          rw [if_neg z] at kB
          refine ps_aload rfl rfl ?_
          refine pw_c rfl ?_
          refine pw_k rfl rfl rfl rfl ⟨Nat.zero_le _, Nat.zero_le _⟩ ?_
          refine B_wroX hb ⟨cl, g3, (by rw [g1 _ _ (by omega) (by omega), f1 _ _ (by omega)]; exact hc.2.2.1), (by rw [g1 _ _ (by omega) (by omega), f1 _ _ (by omega)]; exact hc.2.2.2)⟩ (by omega) (fun I2 d1 d2 d3 => ?_)
          refine ps_zret rfl rfl (Or.inl rfl) ?_
          exact kB _ _ rfl _ d1 d2 d3
        refine pw_c rfl ?_
        refine ps_icmpf rfl (decide_eq_false (fun z => z h3)) ?_
        refine ps_aload rfl rfl ?_
        refine ps_gfr 2 0 rfl rfl rfl (by first | exact hS0 _ _ | exact hS1 _ _ | exact hS2 _ _ | exact hS3 _ _ | exact hS4 _ _ | exact hS5 _ _ | exact hS6 _ _ | exact hS7 _ _ | exact hS8 _ _ | exact hS9 _ _ | exact hS10 _ _ | exact hS11 _ _ | exact hS12 _ _ | exact hS13 _ _ | assumption | rfl) rfl (by first | assumption | rfl) ?_
        refine ps_gfr 3 3 rfl rfl rfl (by first | exact hS0 _ _ | exact hS1 _ _ | exact hS2 _ _ | exact hS3 _ _ | exact hS4 _ _ | exact hS5 _ _ | exact hS6 _ _ | exact hS7 _ _ | exact hS8 _ _ | exact hS9 _ _ | exact hS10 _ _ | exact hS11 _ _ | exact hS12 _ _ | exact hS13 _ _ | assumption | rfl) rfl (by first | assumption | rfl) ?_
        refine ps_aload rfl rfl ?_
        refine ps_gfi 2 3 rfl rfl rfl (by first | exact hS0 _ _ | exact hS1 _ _ | exact hS2 _ _ | exact hS3 _ _ | exact hS4 _ _ | exact hS5 _ _ | exact hS6 _ _ | exact hS7 _ _ | exact hS8 _ _ | exact hS9 _ _ | exact hS10 _ _ | exact hS11 _ _ | exact hS12 _ _ | exact hS13 _ _ | assumption | rfl) rfl ?_
        refine ps_iald (u) rfl (by first | exact hS0 _ _ | exact hS1 _ _ | exact hS2 _ _ | exact hS3 _ _ | exact hS4 _ _ | exact hS5 _ _ | exact hS6 _ _ | exact hS7 _ _ | exact hS8 _ _ | exact hS9 _ _ | exact hS10 _ _ | exact hS11 _ _ | exact hS12 _ _ | exact hS13 _ _ | assumption | rfl) rfl (g3) (by omega) ?_
        rw [show ((I', L, g_R s, 306) : pm_H).1 10 u = J 10 u from e10]
        rw [ev]
        refine ps_istore rfl rfl ?_
        refine ps_aload rfl rfl ?_
        refine ps_iload rfl rfl ?_
        refine pw_c rfl ?_
        refine pv_k rfl rfl rfl rfl rfl (by first | exact hS0 _ _ | exact hS1 _ _ | exact hS2 _ _ | exact hS3 _ _ | exact hS4 _ _ | exact hS5 _ _ | exact hS6 _ _ | exact hS7 _ _ | exact hS8 _ _ | exact hS9 _ _ | exact hS10 _ _ | exact hS11 _ _ | exact hS12 _ _ | exact hS13 _ _ | assumption | rfl) rfl ⟨Nat.zero_le _, Nat.zero_le _⟩ ?_
        refine B_hasX hp c' (nI v) 0 ?_
        have tv : (nI v).toInt = (v : Int) := nI_toInt (by omega)
        have e0 : (0 : Int32).toInt = 0 := rfl
        by_cases hlt : v < w
        · rw [decide_eq_true ⟨⟨by omega, by omega⟩, by omega, by omega⟩]
          refine ps_iff rfl (rfl) ?_
          refine ps_aload rfl rfl ?_
          refine ps_gfr 9 0 rfl rfl rfl (by first | exact hS0 _ _ | exact hS1 _ _ | exact hS2 _ _ | exact hS3 _ _ | exact hS4 _ _ | exact hS5 _ _ | exact hS6 _ _ | exact hS7 _ _ | exact hS8 _ _ | exact hS9 _ _ | exact hS10 _ _ | exact hS11 _ _ | exact hS12 _ _ | exact hS13 _ _ | assumption | rfl) rfl (by first | assumption | rfl) ?_
          refine ps_iload rfl rfl ?_
          refine ps_iald (v) rfl (by first | exact hS0 _ _ | exact hS1 _ _ | exact hS2 _ _ | exact hS3 _ _ | exact hS4 _ _ | exact hS5 _ _ | exact hS6 _ _ | exact hS7 _ _ | exact hS8 _ _ | exact hS9 _ _ | exact hS10 _ _ | exact hS11 _ _ | exact hS12 _ _ | exact hS13 _ _ | assumption | rfl) rfl (rfl) (by omega) ?_
          rw [show ((I', L, g_R s, 306) : pm_H).1 (p + 1) v = h v from g2 v hlt]
          by_cases hz : h v = 0
          · rw [hz]
            rw [if_pos ⟨by omega, hz⟩] at kB kO
            refine pw_c rfl ?_
            refine ps_icmpt rfl (rfl) ?_
            refine ps_aload rfl rfl ?_
            refine ps_gfr 9 0 rfl rfl rfl (by first | exact hS0 _ _ | exact hS1 _ _ | exact hS2 _ _ | exact hS3 _ _ | exact hS4 _ _ | exact hS5 _ _ | exact hS6 _ _ | exact hS7 _ _ | exact hS8 _ _ | exact hS9 _ _ | exact hS10 _ _ | exact hS11 _ _ | exact hS12 _ _ | exact hS13 _ _ | assumption | rfl) rfl (by first | assumption | rfl) ?_
            refine ps_iload rfl rfl ?_
            refine pw_c rfl ?_
            refine ps_iast (v) rfl (by first | exact hS0 _ _ | exact hS1 _ _ | exact hS2 _ _ | exact hS3 _ _ | exact hS4 _ _ | exact hS5 _ _ | exact hS6 _ _ | exact hS7 _ _ | exact hS8 _ _ | exact hS9 _ _ | exact hS10 _ _ | exact hS11 _ _ | exact hS12 _ _ | exact hS13 _ _ | assumption | rfl) rfl (rfl) (by omega) ?_
            refine ps_aload rfl rfl ?_
            refine ps_ar rfl rfl rfl rfl rfl ?_
            refine ps_gfi 2 3 rfl rfl rfl (by first | exact hS0 _ _ | exact hS1 _ _ | exact hS2 _ _ | exact hS3 _ _ | exact hS4 _ _ | exact hS5 _ _ | exact hS6 _ _ | exact hS7 _ _ | exact hS8 _ _ | exact hS9 _ _ | exact hS10 _ _ | exact hS11 _ _ | exact hS12 _ _ | exact hS13 _ _ | assumption | rfl) rfl ?_
            show pm_W _ _ _ _ [.int (pm_u I' (p + 1) v 1 5 3), .ref 5] (pm_u I' (p + 1) v 1, L, g_R s, 306) _ _
            rw [pu_o (by omega), g3]
            refine pw_c rfl ?_
            refine ps_ar rfl rfl rfl rfl rfl ?_
            rw [show nI u + (1 : Int32) = nI (u + 1) from nI_1 u]
            refine ps_pfi 2 3 rfl rfl rfl (by first | exact hS0 _ _ | exact hS1 _ _ | exact hS2 _ _ | exact hS3 _ _ | exact hS4 _ _ | exact hS5 _ _ | exact hS6 _ _ | exact hS7 _ _ | exact hS8 _ _ | exact hS9 _ _ | exact hS10 _ _ | exact hS11 _ _ | exact hS12 _ _ | exact hS13 _ _ | assumption | rfl) rfl ?_
            refine ps_iinc rfl rfl ?_
            refine ps_goto rfl ?_
            rw [show nI i + Int32.ofInt 1 = nI (i + 1) from nI_1 i]
            refine ih (u + 1) (i + 1) _ _ _ (by omega) (by omega) (fun a j n1 n2 => ?_) pu_s (fun x => ?_) (fun x hx => ?_) kB kO
            · show pm_u (pm_u I' (p + 1) v 1) 5 3 (nI (u + 1)) a j = _
              rw [pu_x n2, pu_o n1]
              exact g1 a j n1 n2
            · show (if x = v then (1 : Int32) else h x) = 0 ∨ (if x = v then (1 : Int32) else h x) = 1
              split
              · exact Or.inr rfl
              · exact h01 x
            · show pm_u (pm_u I' (p + 1) v 1) 5 3 (nI (u + 1)) (p + 1) x = if x = v then 1 else h x
              rw [pu_o (by omega)]
              by_cases e : x = v
              · rw [if_pos e, e, pu_s]
              · rw [if_neg e, pu_n e]
                exact g2 x hx
          · have h1 : h v = 1 := Or.resolve_left (h01 v) hz
            rw [h1]
            refine pw_c rfl ?_
            refine ps_icmpf rfl (rfl) ?_
            exact bad (fun z => hz z.2) _
        · rw [decide_eq_false (fun z => by omega)]
          refine ps_ift rfl (rfl) ?_
          exact bad (fun z => by omega) _
      · rw [if_neg h3] at kB kO
        refine pw_c rfl ?_
        refine ps_icmpt rfl (decide_eq_true h3) ?_
        refine pw_c rfl ?_
        refine ps_zret rfl rfl (Or.inr rfl) ?_
        exact kO _ _ rfl _ (fun a j n1 n2 n3 => by rw [g1 a j (by omega) (by omega), f1 a j (by omega)]) (fun j => by rw [g1 _ _ (by omega) (by omega), f1 _ _ (by omega)]) (by rw [g1 _ _ (by omega) (by omega), f1 _ _ (by omega)]) g3 (by rw [g1 _ _ (by omega) (by omega), f1 _ _ (by omega)]) (by rw [g1 _ _ (by omega) (by omega), f1 _ _ (by omega)]) c' ((g1 _ _ (by omega) (by omega)).trans s1) g2
  exact loop (c - t) t 0 I1 (fun _ => 0) _ (by omega) (by omega) (fun _ _ _ _ => rfl) ((f1 _ _ (by omega)).trans hc.2.1) (fun _ => Or.inl rfl) (fun x hx => z1 x hx) kB kO
end KZ
