/-! BY HAND: the scene: what ACTS change; the class's marks and scenes, copied -/
section SA
/-- how many things; things; back; used -/
abbrev sS : Type := (Nat → Nat) × (Nat → Nat → Nat → Int32) × Int32 × Int32
def sS.n (S : sS) : Nat → Nat := S.1
def sS.sc (S : sS) : Nat → Nat → Nat → Int32 := S.2.1
def sS.bk (S : sS) : Int32 := S.2.2.1
def sS.us (S : sS) : Int32 := S.2.2.2
def sS.ok (S : sS) : Prop := ∀ q, q < 3 → S.n q ≤ mst q
def sB.S (B : sB) : sS := B.2.2
def sB.wS (B : sB) (S : sS) : sB := (B.1, B.2.1, S)
variable {I I' J : Nat → Nat → Int32} {L : Nat → Nat → Int64} {s : Nat → Option Nat} {Q : List Value → pm_H → Prop} {ys : List Int32} {n m d e len : Nat}
theorem mst12 {q : Nat} (hq : q < 3) : mst q ≤ 12 := by rcases q3 hq with rfl | rfl | rfl <;> decide
/-- a scene of the class -/
def isE (e : Nat) : Prop := (e = 175 ∨ e = 216) ∨ ∃ i, i < 12 ∧ e = 14 + 13 * i
def isM (m len : Nat) : Prop := ∃ e q, isE e ∧ q < 3 ∧ m = e + 1 + 4 * q ∧ len = mst q
theorem isM_of (he : isE e) {q : Nat} (hq : q < 3) : isM (e + 1 + 4 * q) (mst q) := ⟨e, q, he, hq, rfl, rfl⟩
theorem isE_b {b : Nat} (hb : isB b) : isE (b + 2) := Or.inl (by rcases hb with rfl | rfl <;> omega)
theorem isE_r {i : Nat} (h : i < 12) : isE (14 + 13 * i) := Or.inr ⟨i, h, rfl⟩
theorem en_F (he : isE e) : (∀ I L, pm_sh (g_P ys) (I, L, g_R s, 306) e = some (.inl 5)) ∧ g_R s e 0 = some (e + 1) ∧ g_R s e 1 = some (e + 5) ∧ g_R s e 2 = some (e + 9) := by
  rcases he with (rfl | rfl) | ⟨i, hi, rfl⟩
  · exact ⟨fun _ _ => rfl, rfl, rfl, rfl⟩
  · exact ⟨fun _ _ => rfl, rfl, rfl, rfl⟩
  · rcases (show i = 0 ∨ i = 1 ∨ i = 2 ∨ i = 3 ∨ i = 4 ∨ i = 5 ∨ i = 6 ∨ i = 7 ∨ i = 8 ∨ i = 9 ∨ i = 10 ∨ i = 11 by omega) with rfl | rfl | rfl | rfl | rfl | rfl | rfl | rfl | rfl | rfl | rfl | rfl <;> exact ⟨fun _ _ => rfl, rfl, rfl, rfl⟩
theorem mm_F (hm : isM m len) : (∀ I L, pm_sh (g_P ys) (I, L, g_R s, 306) m = some (.inl 6)) ∧ (∀ I L, pm_sh (g_P ys) (I, L, g_R s, 306) (m + 1) = some (.inr (0, len))) ∧ (∀ I L, pm_sh (g_P ys) (I, L, g_R s, 306) (m + 2) = some (.inr (0, len))) ∧ (∀ I L, pm_sh (g_P ys) (I, L, g_R s, 306) (m + 3) = some (.inr (0, len))) ∧ g_R s m 0 = some (m + 1) ∧ g_R s m 1 = some (m + 2) ∧ g_R s m 2 = some (m + 3) ∧ len ≤ 12 := by
  obtain ⟨e, q, he, hq, rfl, rfl⟩ := hm
  have z := mst12 hq
  rcases he with (rfl | rfl) | ⟨i, hi, rfl⟩
  · rcases q3 hq with rfl | rfl | rfl <;> exact ⟨fun _ _ => rfl, fun _ _ => rfl, fun _ _ => rfl, fun _ _ => rfl, rfl, rfl, rfl, z⟩
  · rcases q3 hq with rfl | rfl | rfl <;> exact ⟨fun _ _ => rfl, fun _ _ => rfl, fun _ _ => rfl, fun _ _ => rfl, rfl, rfl, rfl, z⟩
  · rcases (show i = 0 ∨ i = 1 ∨ i = 2 ∨ i = 3 ∨ i = 4 ∨ i = 5 ∨ i = 6 ∨ i = 7 ∨ i = 8 ∨ i = 9 ∨ i = 10 ∨ i = 11 by omega) with rfl | rfl | rfl | rfl | rfl | rfl | rfl | rfl | rfl | rfl | rfl | rfl <;> rcases q3 hq with rfl | rfl | rfl <;> exact ⟨fun _ _ => rfl, fun _ _ => rfl, fun _ _ => rfl, fun _ _ => rfl, rfl, rfl, rfl, z⟩
theorem B_mHas (hm : isM m len) (hn : I m 3 = nI n) (nl : n ≤ len) (x : Int32) (kk : Q [.int (bI (decide (0 ≤ x.toInt ∧ x.toInt < n)))] (I, L, g_R s, 306)) : pm_W (g_P ys) 100 0 [.ref m, .int x] [] (I, L, g_R s, 306) (0, 0) Q := by
  obtain ⟨hS0, hS1, hS2, hS3, hR0, hR1, hR2, l12⟩ := mm_F (ys := ys) (s := s) hm
  have e0 : (0 : Int32).toInt = 0 := rfl
  by_cases h1 : x.toInt < 0
  · rw [decide_eq_false (by omega)] at kk
    refine ps_iload rfl rfl ?_
    refine ps_ift rfl (decide_eq_true ((i_lt _ _).mpr (by omega))) ?_
    refine pw_c rfl ?_
    refine ps_zret rfl rfl (Or.inl rfl) ?_
    exact kk
  · refine ps_iload rfl rfl ?_
    refine ps_iff rfl (decide_eq_false (fun z => h1 (by have := (i_lt _ _).mp z; omega))) ?_
    refine ps_iload rfl rfl ?_
    refine ps_aload rfl rfl ?_
    refine ps_gfi 6 3 rfl rfl rfl (by first | exact hS0 _ _ | exact hS1 _ _ | exact hS2 _ _ | exact hS3 _ _ | exact hS4 _ _ | exact hS5 _ _ | exact hS6 _ _ | exact hS7 _ _ | exact hS8 _ _ | exact hS9 _ _ | exact hS10 _ _ | exact hS11 _ _ | exact hS12 _ _ | exact hS13 _ _ | assumption | rfl) rfl ?_
    rw [show ((I, L, g_R s, 306) : pm_H).1 m 3 = nI n from hn]
    by_cases h2 : x.toInt < n
    · rw [decide_eq_true (by omega)] at kk
      refine ps_icmpf rfl (decide_eq_false (fun z => by have z := (i_le _ _).mp z; rw [nI_toInt (by omega)] at z; omega)) ?_
      refine pw_c rfl ?_
      refine ps_goto rfl ?_
      refine ps_zret rfl rfl (Or.inr rfl) ?_
      exact kk
    · rw [decide_eq_false (by omega)] at kk
      refine ps_icmpt rfl (decide_eq_true ((i_le _ _).mpr (by rw [nI_toInt (by omega)]; omega))) ?_
      refine pw_c rfl ?_
      refine ps_zret rfl rfl (Or.inl rfl) ?_
      exact kk
theorem B_mFull (hm : isM m len) (hn : I m 3 = nI n) (nl : n ≤ len) (kk : Q [.int (bI (decide (n = len)))] (I, L, g_R s, 306)) : pm_W (g_P ys) 37 0 [.ref m] [] (I, L, g_R s, 306) (0, 0) Q := by
  obtain ⟨hS0, hS1, hS2, hS3, hR0, hR1, hR2, l12⟩ := mm_F (ys := ys) (s := s) hm
  refine ps_aload rfl rfl ?_
  refine ps_gfi 6 3 rfl rfl rfl (by first | exact hS0 _ _ | exact hS1 _ _ | exact hS2 _ _ | exact hS3 _ _ | exact hS4 _ _ | exact hS5 _ _ | exact hS6 _ _ | exact hS7 _ _ | exact hS8 _ _ | exact hS9 _ _ | exact hS10 _ _ | exact hS11 _ _ | exact hS12 _ _ | exact hS13 _ _ | assumption | rfl) rfl ?_
  rw [show ((I, L, g_R s, 306) : pm_H).1 m 3 = nI n from hn]
  refine ps_aload rfl rfl ?_
  refine ps_gfr 6 0 rfl rfl rfl (by first | exact hS0 _ _ | exact hS1 _ _ | exact hS2 _ _ | exact hS3 _ _ | exact hS4 _ _ | exact hS5 _ _ | exact hS6 _ _ | exact hS7 _ _ | exact hS8 _ _ | exact hS9 _ _ | exact hS10 _ _ | exact hS11 _ _ | exact hS12 _ _ | exact hS13 _ _ | assumption | rfl) rfl (by first | assumption | rfl) ?_
  refine ps_alen rfl (by first | exact hS0 _ _ | exact hS1 _ _ | exact hS2 _ _ | exact hS3 _ _ | exact hS4 _ _ | exact hS5 _ _ | exact hS6 _ _ | exact hS7 _ _ | exact hS8 _ _ | exact hS9 _ _ | exact hS10 _ _ | exact hS11 _ _ | exact hS12 _ _ | exact hS13 _ _ | assumption | rfl) ?_
  by_cases e : n < len
  · rw [decide_eq_false (by omega)] at kk
    refine ps_icmpt rfl (decide_eq_true (nI_lt (by omega) (by omega))) ?_
    refine pw_c rfl ?_
    refine ps_zret rfl rfl (Or.inl rfl) ?_
    exact kk
  · rw [decide_eq_true (by omega)] at kk
    refine ps_icmpf rfl (decide_eq_false (fun z => e ((nI_ltI (by omega) (by omega)).mp z))) ?_
    refine pw_c rfl ?_
    refine ps_goto rfl ?_
    refine ps_zret rfl rfl (Or.inr rfl) ?_
    exact kk
/-- are a place's numbers told already -/
theorem B_mTells (hm : isM m len) (hn : I m 3 = nI n) (nl : n ≤ len) (x y : Int32) (kY : (∃ k, k < n ∧ I (m + 1) k = x ∧ I (m + 2) k = y) → Q [.int 1] (I, L, g_R s, 306)) (kN : (∀ k, k < n → ¬ (I (m + 1) k = x ∧ I (m + 2) k = y)) → Q [.int 0] (I, L, g_R s, 306)) : pm_W (g_P ys) 112 0 [.ref m, .int x, .int y, .retAddr 0] [] (I, L, g_R s, 306) (0, 0) Q := by
  obtain ⟨hS0, hS1, hS2, hS3, hR0, hR1, hR2, l12⟩ := mm_F (ys := ys) (s := s) hm
  have nb : Nat.blt len 2147483648 = true := Nat.blt_eq.mpr (by omega)
  have go : ∀ d i : Nat, i + d = n → (∀ k, k < i → ¬ (I (m + 1) k = x ∧ I (m + 2) k = y)) → pm_W (g_P ys) 112 2 [.ref m, .int x, .int y, .int (nI i)] [] (I, L, g_R s, 306) (0, 0) Q := by
    intro d
    induction d with
    | zero =>
      intro i hi h
      refine ps_iload rfl rfl ?_
      refine ps_aload rfl rfl ?_
      refine ps_gfi 6 3 rfl rfl rfl (by first | exact hS0 _ _ | exact hS1 _ _ | exact hS2 _ _ | exact hS3 _ _ | exact hS4 _ _ | exact hS5 _ _ | exact hS6 _ _ | exact hS7 _ _ | exact hS8 _ _ | exact hS9 _ _ | exact hS10 _ _ | exact hS11 _ _ | exact hS12 _ _ | exact hS13 _ _ | assumption | rfl) rfl ?_
      rw [show ((I, L, g_R s, 306) : pm_H).1 m 3 = nI n from hn]
      refine ps_icmpt rfl (decide_eq_true (nI_le (by omega) (by omega))) ?_
      refine pw_c rfl ?_
      refine ps_zret rfl rfl (Or.inl rfl) ?_
      exact kN (fun k hk => h k (by omega))
    | succ d ih =>
      intro i hi h
      have next : ¬ (I (m + 1) i = x ∧ I (m + 2) i = y) → pm_W (g_P ys) 112 32 [.ref m, .int x, .int y, .int (nI i)] [] (I, L, g_R s, 306) (0, 0) Q := by
        intro z
        refine ps_iinc rfl rfl ?_
        refine ps_goto rfl ?_
        rw [show nI i + Int32.ofInt 1 = nI (i + 1) from nI_1 i]
        refine ih (i + 1) (by omega) (fun k hk => ?_)
        by_cases e : k = i
        · rw [e]
          exact z
        · exact h k (by omega)
      refine ps_iload rfl rfl ?_
      refine ps_aload rfl rfl ?_
      refine ps_gfi 6 3 rfl rfl rfl (by first | exact hS0 _ _ | exact hS1 _ _ | exact hS2 _ _ | exact hS3 _ _ | exact hS4 _ _ | exact hS5 _ _ | exact hS6 _ _ | exact hS7 _ _ | exact hS8 _ _ | exact hS9 _ _ | exact hS10 _ _ | exact hS11 _ _ | exact hS12 _ _ | exact hS13 _ _ | assumption | rfl) rfl ?_
      rw [show ((I, L, g_R s, 306) : pm_H).1 m 3 = nI n from hn]
      refine ps_icmpf rfl (decide_eq_false (nI_ge (by omega) (by omega))) ?_
      refine ps_aload rfl rfl ?_
      refine ps_gfr 6 0 rfl rfl rfl (by first | exact hS0 _ _ | exact hS1 _ _ | exact hS2 _ _ | exact hS3 _ _ | exact hS4 _ _ | exact hS5 _ _ | exact hS6 _ _ | exact hS7 _ _ | exact hS8 _ _ | exact hS9 _ _ | exact hS10 _ _ | exact hS11 _ _ | exact hS12 _ _ | exact hS13 _ _ | assumption | rfl) rfl (by first | assumption | rfl) ?_
      refine ps_iload rfl rfl ?_
      refine ps_iald (i) rfl (by first | exact hS0 _ _ | exact hS1 _ _ | exact hS2 _ _ | exact hS3 _ _ | exact hS4 _ _ | exact hS5 _ _ | exact hS6 _ _ | exact hS7 _ _ | exact hS8 _ _ | exact hS9 _ _ | exact hS10 _ _ | exact hS11 _ _ | exact hS12 _ _ | exact hS13 _ _ | assumption | rfl) nb (rfl) (by omega) ?_
      by_cases e1 : I (m + 1) i = x
      · refine ps_iload rfl rfl ?_
        refine ps_icmpf rfl (decide_eq_false (fun z => z e1)) ?_
        refine ps_aload rfl rfl ?_
        refine ps_gfr 6 1 rfl rfl rfl (by first | exact hS0 _ _ | exact hS1 _ _ | exact hS2 _ _ | exact hS3 _ _ | exact hS4 _ _ | exact hS5 _ _ | exact hS6 _ _ | exact hS7 _ _ | exact hS8 _ _ | exact hS9 _ _ | exact hS10 _ _ | exact hS11 _ _ | exact hS12 _ _ | exact hS13 _ _ | assumption | rfl) rfl (by first | assumption | rfl) ?_
        refine ps_iload rfl rfl ?_
        refine ps_iald (i) rfl (by first | exact hS0 _ _ | exact hS1 _ _ | exact hS2 _ _ | exact hS3 _ _ | exact hS4 _ _ | exact hS5 _ _ | exact hS6 _ _ | exact hS7 _ _ | exact hS8 _ _ | exact hS9 _ _ | exact hS10 _ _ | exact hS11 _ _ | exact hS12 _ _ | exact hS13 _ _ | assumption | rfl) nb (rfl) (by omega) ?_
        by_cases e2 : I (m + 2) i = y
        · refine ps_iload rfl rfl ?_
          refine ps_icmpf rfl (decide_eq_false (fun z => z e2)) ?_
          refine pw_c rfl ?_
          refine ps_zret rfl rfl (Or.inr rfl) ?_
          exact kY ⟨i, by omega, e1, e2⟩
        · refine ps_iload rfl rfl ?_
          refine ps_icmpt rfl (decide_eq_true e2) ?_
          exact next (fun z => e2 z.2)
      · refine ps_iload rfl rfl ?_
        refine ps_icmpt rfl (decide_eq_true e1) ?_
        exact next (fun z => e1 z.1)
  refine pw_c rfl ?_
  refine ps_istore rfl rfl ?_
  exact go n 0 (by omega) (fun k hk => absurd hk (by omega))
/-- outside the marks at m all stays -/
def mAg (m : Nat) (I I' : Nat → Nat → Int32) : Prop := ∀ a j : Nat, ¬ (m ≤ a ∧ a ≤ m + 3) → I' a j = I a j
theorem B_mTakeOut {k : Nat} (hm : isM m len) (hn : I m 3 = nI n) (nl : n ≤ len) (hk : k < n) (kk : ∀ I', mAg m I I' → I' m 3 = nI (n - 1) → (∀ j, j < 3 → ∀ i, i < n - 1 → I' (m + 1 + j) i = if i < k then I (m + 1 + j) i else I (m + 1 + j) (i + 1)) → Q [] (I', L, g_R s, 306)) : pm_W (g_P ys) 110 0 [.ref m, .int (nI k), .retAddr 0] [] (I, L, g_R s, 306) (0, 0) Q := by
  obtain ⟨hS0, hS1, hS2, hS3, hR0, hR1, hR2, l12⟩ := mm_F (ys := ys) (s := s) hm
  have nb : Nat.blt len 2147483648 = true := Nat.blt_eq.mpr (by omega)
  have go : ∀ d i : Nat, i + d + 1 = n → k ≤ i → ∀ I', mAg m I I' → I' m 3 = nI n → (∀ j, j < 3 → ∀ p, p < n → I' (m + 1 + j) p = if k ≤ p ∧ p < i then I (m + 1 + j) (p + 1) else I (m + 1 + j) p) → pm_W (g_P ys) 110 11 [.ref m, .int (nI k), .int (nI i)] [] (I', L, g_R s, 306) (0, 0) Q := by
    intro d
    induction d with
    | zero =>
      intro i hi hki I' ag hc hr
      refine ps_iload rfl rfl ?_
      refine pw_c rfl ?_
      refine ps_ar rfl rfl rfl rfl rfl ?_
      rw [show nI i + (1 : Int32) = nI (i + 1) from nI_1 i]
      refine ps_aload rfl rfl ?_
      refine ps_gfi 6 3 rfl rfl rfl (by first | exact hS0 _ _ | exact hS1 _ _ | exact hS2 _ _ | exact hS3 _ _ | exact hS4 _ _ | exact hS5 _ _ | exact hS6 _ _ | exact hS7 _ _ | exact hS8 _ _ | exact hS9 _ _ | exact hS10 _ _ | exact hS11 _ _ | exact hS12 _ _ | exact hS13 _ _ | assumption | rfl) rfl ?_
      rw [show ((I', L, g_R s, 306) : pm_H).1 m 3 = nI n from hc]
      refine ps_icmpt rfl (decide_eq_true (nI_le (by omega) (by omega))) ?_
      refine ps_aload rfl rfl ?_
      refine ps_ar rfl rfl rfl rfl rfl ?_
      refine ps_gfi 6 3 rfl rfl rfl (by first | exact hS0 _ _ | exact hS1 _ _ | exact hS2 _ _ | exact hS3 _ _ | exact hS4 _ _ | exact hS5 _ _ | exact hS6 _ _ | exact hS7 _ _ | exact hS8 _ _ | exact hS9 _ _ | exact hS10 _ _ | exact hS11 _ _ | exact hS12 _ _ | exact hS13 _ _ | assumption | rfl) rfl ?_
      rw [show ((I', L, g_R s, 306) : pm_H).1 m 3 = nI n from hc]
      refine pw_c rfl ?_
      refine ps_ar rfl rfl rfl rfl rfl ?_
      rw [show nI n - (1 : Int32) = nI (n - 1) by have z := nI_p (n - 1); rw [show n - 1 + 1 = n by omega] at z; exact z]
      refine ps_pfi 6 3 rfl rfl rfl (by first | exact hS0 _ _ | exact hS1 _ _ | exact hS2 _ _ | exact hS3 _ _ | exact hS4 _ _ | exact hS5 _ _ | exact hS6 _ _ | exact hS7 _ _ | exact hS8 _ _ | exact hS9 _ _ | exact hS10 _ _ | exact hS11 _ _ | exact hS12 _ _ | exact hS13 _ _ | assumption | rfl) rfl ?_
      refine ps_vret rfl rfl ?_
      refine kk _ (fun a j h => (pu_o (by omega)).trans (ag a j h)) pu_s (fun j hj p hp => ?_)
      show pm_u I' m 3 (nI (n - 1)) (m + 1 + j) p = _
      rw [pu_o (by omega), hr j hj p (by omega)]
      by_cases e : p < k
      · rw [if_neg (by omega), if_pos e]
      · rw [if_pos (by omega), if_neg e]
    | succ d ih =>
      intro i hi hki I' ag hc hr
      refine ps_iload rfl rfl ?_
      refine pw_c rfl ?_
      refine ps_ar rfl rfl rfl rfl rfl ?_
      rw [show nI i + (1 : Int32) = nI (i + 1) from nI_1 i]
      refine ps_aload rfl rfl ?_
      refine ps_gfi 6 3 rfl rfl rfl (by first | exact hS0 _ _ | exact hS1 _ _ | exact hS2 _ _ | exact hS3 _ _ | exact hS4 _ _ | exact hS5 _ _ | exact hS6 _ _ | exact hS7 _ _ | exact hS8 _ _ | exact hS9 _ _ | exact hS10 _ _ | exact hS11 _ _ | exact hS12 _ _ | exact hS13 _ _ | assumption | rfl) rfl ?_
      rw [show ((I', L, g_R s, 306) : pm_H).1 m 3 = nI n from hc]
      refine ps_icmpf rfl (decide_eq_false (nI_ge (by omega) (by omega))) ?_
      refine ps_aload rfl rfl ?_
      refine ps_gfr 6 0 rfl rfl rfl (by first | exact hS0 _ _ | exact hS1 _ _ | exact hS2 _ _ | exact hS3 _ _ | exact hS4 _ _ | exact hS5 _ _ | exact hS6 _ _ | exact hS7 _ _ | exact hS8 _ _ | exact hS9 _ _ | exact hS10 _ _ | exact hS11 _ _ | exact hS12 _ _ | exact hS13 _ _ | assumption | rfl) rfl (by first | assumption | rfl) ?_
      refine ps_iload rfl rfl ?_
      refine ps_aload rfl rfl ?_
      refine ps_gfr 6 0 rfl rfl rfl (by first | exact hS0 _ _ | exact hS1 _ _ | exact hS2 _ _ | exact hS3 _ _ | exact hS4 _ _ | exact hS5 _ _ | exact hS6 _ _ | exact hS7 _ _ | exact hS8 _ _ | exact hS9 _ _ | exact hS10 _ _ | exact hS11 _ _ | exact hS12 _ _ | exact hS13 _ _ | assumption | rfl) rfl (by first | assumption | rfl) ?_
      refine ps_iload rfl rfl ?_
      refine pw_c rfl ?_
      refine ps_ar rfl rfl rfl rfl rfl ?_
      rw [show nI i + (1 : Int32) = nI (i + 1) from nI_1 i]
      refine ps_iald (i + 1) rfl (by first | exact hS0 _ _ | exact hS1 _ _ | exact hS2 _ _ | exact hS3 _ _ | exact hS4 _ _ | exact hS5 _ _ | exact hS6 _ _ | exact hS7 _ _ | exact hS8 _ _ | exact hS9 _ _ | exact hS10 _ _ | exact hS11 _ _ | exact hS12 _ _ | exact hS13 _ _ | assumption | rfl) nb (rfl) (by omega) ?_
      refine ps_iast (i) rfl (by first | exact hS0 _ _ | exact hS1 _ _ | exact hS2 _ _ | exact hS3 _ _ | exact hS4 _ _ | exact hS5 _ _ | exact hS6 _ _ | exact hS7 _ _ | exact hS8 _ _ | exact hS9 _ _ | exact hS10 _ _ | exact hS11 _ _ | exact hS12 _ _ | exact hS13 _ _ | assumption | rfl) nb (rfl) (by omega) ?_
      refine ps_aload rfl rfl ?_
      refine ps_gfr 6 1 rfl rfl rfl (by first | exact hS0 _ _ | exact hS1 _ _ | exact hS2 _ _ | exact hS3 _ _ | exact hS4 _ _ | exact hS5 _ _ | exact hS6 _ _ | exact hS7 _ _ | exact hS8 _ _ | exact hS9 _ _ | exact hS10 _ _ | exact hS11 _ _ | exact hS12 _ _ | exact hS13 _ _ | assumption | rfl) rfl (by first | assumption | rfl) ?_
      refine ps_iload rfl rfl ?_
      refine ps_aload rfl rfl ?_
      refine ps_gfr 6 1 rfl rfl rfl (by first | exact hS0 _ _ | exact hS1 _ _ | exact hS2 _ _ | exact hS3 _ _ | exact hS4 _ _ | exact hS5 _ _ | exact hS6 _ _ | exact hS7 _ _ | exact hS8 _ _ | exact hS9 _ _ | exact hS10 _ _ | exact hS11 _ _ | exact hS12 _ _ | exact hS13 _ _ | assumption | rfl) rfl (by first | assumption | rfl) ?_
      refine ps_iload rfl rfl ?_
      refine pw_c rfl ?_
      refine ps_ar rfl rfl rfl rfl rfl ?_
      rw [show nI i + (1 : Int32) = nI (i + 1) from nI_1 i]
      refine ps_iald (i + 1) rfl (by first | exact hS0 _ _ | exact hS1 _ _ | exact hS2 _ _ | exact hS3 _ _ | exact hS4 _ _ | exact hS5 _ _ | exact hS6 _ _ | exact hS7 _ _ | exact hS8 _ _ | exact hS9 _ _ | exact hS10 _ _ | exact hS11 _ _ | exact hS12 _ _ | exact hS13 _ _ | assumption | rfl) nb (rfl) (by omega) ?_
      refine ps_iast (i) rfl (by first | exact hS0 _ _ | exact hS1 _ _ | exact hS2 _ _ | exact hS3 _ _ | exact hS4 _ _ | exact hS5 _ _ | exact hS6 _ _ | exact hS7 _ _ | exact hS8 _ _ | exact hS9 _ _ | exact hS10 _ _ | exact hS11 _ _ | exact hS12 _ _ | exact hS13 _ _ | assumption | rfl) nb (rfl) (by omega) ?_
      refine ps_aload rfl rfl ?_
      refine ps_gfr 6 2 rfl rfl rfl (by first | exact hS0 _ _ | exact hS1 _ _ | exact hS2 _ _ | exact hS3 _ _ | exact hS4 _ _ | exact hS5 _ _ | exact hS6 _ _ | exact hS7 _ _ | exact hS8 _ _ | exact hS9 _ _ | exact hS10 _ _ | exact hS11 _ _ | exact hS12 _ _ | exact hS13 _ _ | assumption | rfl) rfl (by first | assumption | rfl) ?_
      refine ps_iload rfl rfl ?_
      refine ps_aload rfl rfl ?_
      refine ps_gfr 6 2 rfl rfl rfl (by first | exact hS0 _ _ | exact hS1 _ _ | exact hS2 _ _ | exact hS3 _ _ | exact hS4 _ _ | exact hS5 _ _ | exact hS6 _ _ | exact hS7 _ _ | exact hS8 _ _ | exact hS9 _ _ | exact hS10 _ _ | exact hS11 _ _ | exact hS12 _ _ | exact hS13 _ _ | assumption | rfl) rfl (by first | assumption | rfl) ?_
      refine ps_iload rfl rfl ?_
      refine pw_c rfl ?_
      refine ps_ar rfl rfl rfl rfl rfl ?_
      rw [show nI i + (1 : Int32) = nI (i + 1) from nI_1 i]
      refine ps_iald (i + 1) rfl (by first | exact hS0 _ _ | exact hS1 _ _ | exact hS2 _ _ | exact hS3 _ _ | exact hS4 _ _ | exact hS5 _ _ | exact hS6 _ _ | exact hS7 _ _ | exact hS8 _ _ | exact hS9 _ _ | exact hS10 _ _ | exact hS11 _ _ | exact hS12 _ _ | exact hS13 _ _ | assumption | rfl) nb (rfl) (by omega) ?_
      refine ps_iast (i) rfl (by first | exact hS0 _ _ | exact hS1 _ _ | exact hS2 _ _ | exact hS3 _ _ | exact hS4 _ _ | exact hS5 _ _ | exact hS6 _ _ | exact hS7 _ _ | exact hS8 _ _ | exact hS9 _ _ | exact hS10 _ _ | exact hS11 _ _ | exact hS12 _ _ | exact hS13 _ _ | assumption | rfl) nb (rfl) (by omega) ?_
      refine ps_iinc rfl rfl ?_
      refine ps_goto rfl ?_
      rw [show nI i + Int32.ofInt 1 = nI (i + 1) from nI_1 i]
      refine ih (i + 1) (by omega) (by omega) _ (fun a j h => ?_) ?_ (fun j hj p hp => ?_)
      · show pm_u (pm_u (pm_u I' (m + 1) i (I' (m + 1) (i + 1))) (m + 2) i _) (m + 3) i _ a j = _
        rw [pu_o (by omega), pu_o (by omega), pu_o (by omega)]
        exact ag a j h
      · show pm_u (pm_u (pm_u I' (m + 1) i (I' (m + 1) (i + 1))) (m + 2) i _) (m + 3) i _ m 3 = _
        rw [pu_o (by omega), pu_o (by omega), pu_o (by omega)]
        exact hc
      · show pm_u (pm_u (pm_u I' (m + 1) i (I' (m + 1) (i + 1))) (m + 2) i (pm_u I' (m + 1) i (I' (m + 1) (i + 1)) (m + 2) (i + 1))) (m + 3) i (pm_u (pm_u I' (m + 1) i (I' (m + 1) (i + 1))) (m + 2) i (pm_u I' (m + 1) i (I' (m + 1) (i + 1)) (m + 2) (i + 1)) (m + 3) (i + 1)) (m + 1 + j) p = _
        have e2 : pm_u I' (m + 1) i (I' (m + 1) (i + 1)) (m + 2) (i + 1) = I' (m + 2) (i + 1) := pu_o (by omega)
        have e3 : pm_u (pm_u I' (m + 1) i (I' (m + 1) (i + 1))) (m + 2) i (I' (m + 2) (i + 1)) (m + 3) (i + 1) = I' (m + 3) (i + 1) := (pu_o (by omega)).trans (pu_o (by omega))
        rw [e2, e3]
        have v : ∀ j, j < 3 → I' (m + 1 + j) (i + 1) = I (m + 1 + j) (i + 1) := fun j hj => by
          rw [hr j hj (i + 1) (by omega), if_neg (by omega)]
        have w : pm_u (pm_u (pm_u I' (m + 1) i (I' (m + 1) (i + 1))) (m + 2) i (I' (m + 2) (i + 1))) (m + 3) i (I' (m + 3) (i + 1)) (m + 1 + j) p = if p = i then I' (m + 1 + j) (i + 1) else I' (m + 1 + j) p := by
          by_cases ep : p = i
          · rw [if_pos ep, ep]
            rcases q3 hj with rfl | rfl | rfl
            · rw [pu_o (by omega), pu_o (by omega)]
              exact pu_s
            · rw [pu_o (by omega)]
              exact pu_s
            · exact pu_s
          · rw [if_neg ep, pu_x (by omega), pu_x (by omega), pu_x (by omega)]
        rw [w]
        by_cases ep : p = i
        · rw [if_pos ep, v j hj, if_pos (by omega), ep]
        · rw [if_neg ep, hr j hj p hp]
          by_cases e4 : k ≤ p ∧ p < i
          · rw [if_pos e4, if_pos (by omega)]
          · rw [if_neg e4, if_neg (by omega)]
  refine ps_aload rfl rfl ?_
  refine ps_iload rfl rfl ?_
  refine pv_k rfl rfl rfl rfl rfl (hS0 _ _) rfl ⟨Nat.zero_le _, Nat.zero_le _⟩ ?_
  refine B_mHas hm hn nl _ ?_
  rw [decide_eq_true (by rw [nI_toInt (by omega)]; omega)]
  refine ps_ift rfl (rfl) ?_
  refine ps_iload rfl rfl ?_
  refine ps_istore rfl rfl ?_
  refine go (n - 1 - k) k (by omega) (by omega) I (fun _ _ _ => rfl) hn (fun j hj p hp => ?_)
  rw [if_neg (by omega)]
/-- all moved -/
theorem B_mShift (hm : isM m len) (hn : I m 3 = nI n) (nl : n ≤ len) (a b : Int32) (kk : ∀ I', mAg m I I' → I' m 3 = nI n → (∀ i, i < n → I' (m + 1) i = I (m + 1) i + a - (I (m + 1) i + a) / 100 * 100 ∧ I' (m + 2) i = I (m + 2) i + b - (I (m + 2) i + b) / 100 * 100 ∧ I' (m + 3) i = I (m + 3) i) → Q [] (I', L, g_R s, 306)) : pm_W (g_P ys) 117 0 [.ref m, .int a, .int b, .retAddr 0] [] (I, L, g_R s, 306) (0, 0) Q := by
  obtain ⟨hS0, hS1, hS2, hS3, hR0, hR1, hR2, l12⟩ := mm_F (ys := ys) (s := s) hm
  have nb : Nat.blt len 2147483648 = true := Nat.blt_eq.mpr (by omega)
  have go : ∀ d i : Nat, i + d = n → ∀ I', mAg m I I' → I' m 3 = nI n → (∀ p, p < n → I' (m + 1) p = (if p < i then I (m + 1) p + a - (I (m + 1) p + a) / 100 * 100 else I (m + 1) p) ∧ I' (m + 2) p = (if p < i then I (m + 2) p + b - (I (m + 2) p + b) / 100 * 100 else I (m + 2) p) ∧ I' (m + 3) p = I (m + 3) p) → pm_W (g_P ys) 117 2 [.ref m, .int a, .int b, .int (nI i)] [] (I', L, g_R s, 306) (0, 0) Q := by
    intro d
    induction d with
    | zero =>
      intro i hi I' ag hc hr
      refine ps_iload rfl rfl ?_
      refine ps_aload rfl rfl ?_
      refine ps_gfi 6 3 rfl rfl rfl (by first | exact hS0 _ _ | exact hS1 _ _ | exact hS2 _ _ | exact hS3 _ _ | exact hS4 _ _ | exact hS5 _ _ | exact hS6 _ _ | exact hS7 _ _ | exact hS8 _ _ | exact hS9 _ _ | exact hS10 _ _ | exact hS11 _ _ | exact hS12 _ _ | exact hS13 _ _ | assumption | rfl) rfl ?_
      rw [show ((I', L, g_R s, 306) : pm_H).1 m 3 = nI n from hc]
      refine ps_icmpt rfl (decide_eq_true (nI_le (by omega) (by omega))) ?_
      refine ps_vret rfl rfl ?_
      refine kk _ ag hc (fun p hp => ?_)
      have z := hr p hp
      rw [if_pos (by omega), if_pos (by omega)] at z
      exact z
    | succ d ih =>
      intro i hi I' ag hc hr
      refine ps_iload rfl rfl ?_
      refine ps_aload rfl rfl ?_
      refine ps_gfi 6 3 rfl rfl rfl (by first | exact hS0 _ _ | exact hS1 _ _ | exact hS2 _ _ | exact hS3 _ _ | exact hS4 _ _ | exact hS5 _ _ | exact hS6 _ _ | exact hS7 _ _ | exact hS8 _ _ | exact hS9 _ _ | exact hS10 _ _ | exact hS11 _ _ | exact hS12 _ _ | exact hS13 _ _ | assumption | rfl) rfl ?_
      rw [show ((I', L, g_R s, 306) : pm_H).1 m 3 = nI n from hc]
      refine ps_icmpf rfl (decide_eq_false (nI_ge (by omega) (by omega))) ?_
      refine ps_aload rfl rfl ?_
      refine ps_gfr 6 0 rfl rfl rfl (by first | exact hS0 _ _ | exact hS1 _ _ | exact hS2 _ _ | exact hS3 _ _ | exact hS4 _ _ | exact hS5 _ _ | exact hS6 _ _ | exact hS7 _ _ | exact hS8 _ _ | exact hS9 _ _ | exact hS10 _ _ | exact hS11 _ _ | exact hS12 _ _ | exact hS13 _ _ | assumption | rfl) rfl (by first | assumption | rfl) ?_
      refine ps_iload rfl rfl ?_
      refine ps_aload rfl rfl ?_
      refine ps_gfr 6 0 rfl rfl rfl (by first | exact hS0 _ _ | exact hS1 _ _ | exact hS2 _ _ | exact hS3 _ _ | exact hS4 _ _ | exact hS5 _ _ | exact hS6 _ _ | exact hS7 _ _ | exact hS8 _ _ | exact hS9 _ _ | exact hS10 _ _ | exact hS11 _ _ | exact hS12 _ _ | exact hS13 _ _ | assumption | rfl) rfl (by first | assumption | rfl) ?_
      refine ps_iload rfl rfl ?_
      refine ps_iald (i) rfl (by first | exact hS0 _ _ | exact hS1 _ _ | exact hS2 _ _ | exact hS3 _ _ | exact hS4 _ _ | exact hS5 _ _ | exact hS6 _ _ | exact hS7 _ _ | exact hS8 _ _ | exact hS9 _ _ | exact hS10 _ _ | exact hS11 _ _ | exact hS12 _ _ | exact hS13 _ _ | assumption | rfl) nb (rfl) (by omega) ?_
      refine ps_iload rfl rfl ?_
      refine ps_ar rfl rfl rfl rfl rfl ?_
      refine pw_c rfl ?_
      refine ps_rem rfl (by decide) ?_
      refine ps_iast (i) rfl (by first | exact hS0 _ _ | exact hS1 _ _ | exact hS2 _ _ | exact hS3 _ _ | exact hS4 _ _ | exact hS5 _ _ | exact hS6 _ _ | exact hS7 _ _ | exact hS8 _ _ | exact hS9 _ _ | exact hS10 _ _ | exact hS11 _ _ | exact hS12 _ _ | exact hS13 _ _ | assumption | rfl) nb (rfl) (by omega) ?_
      refine ps_aload rfl rfl ?_
      refine ps_gfr 6 1 rfl rfl rfl (by first | exact hS0 _ _ | exact hS1 _ _ | exact hS2 _ _ | exact hS3 _ _ | exact hS4 _ _ | exact hS5 _ _ | exact hS6 _ _ | exact hS7 _ _ | exact hS8 _ _ | exact hS9 _ _ | exact hS10 _ _ | exact hS11 _ _ | exact hS12 _ _ | exact hS13 _ _ | assumption | rfl) rfl (by first | assumption | rfl) ?_
      refine ps_iload rfl rfl ?_
      refine ps_aload rfl rfl ?_
      refine ps_gfr 6 1 rfl rfl rfl (by first | exact hS0 _ _ | exact hS1 _ _ | exact hS2 _ _ | exact hS3 _ _ | exact hS4 _ _ | exact hS5 _ _ | exact hS6 _ _ | exact hS7 _ _ | exact hS8 _ _ | exact hS9 _ _ | exact hS10 _ _ | exact hS11 _ _ | exact hS12 _ _ | exact hS13 _ _ | assumption | rfl) rfl (by first | assumption | rfl) ?_
      refine ps_iload rfl rfl ?_
      refine ps_iald (i) rfl (by first | exact hS0 _ _ | exact hS1 _ _ | exact hS2 _ _ | exact hS3 _ _ | exact hS4 _ _ | exact hS5 _ _ | exact hS6 _ _ | exact hS7 _ _ | exact hS8 _ _ | exact hS9 _ _ | exact hS10 _ _ | exact hS11 _ _ | exact hS12 _ _ | exact hS13 _ _ | assumption | rfl) nb (rfl) (by omega) ?_
      refine ps_iload rfl rfl ?_
      refine ps_ar rfl rfl rfl rfl rfl ?_
      refine pw_c rfl ?_
      refine ps_rem rfl (by decide) ?_
      refine ps_iast (i) rfl (by first | exact hS0 _ _ | exact hS1 _ _ | exact hS2 _ _ | exact hS3 _ _ | exact hS4 _ _ | exact hS5 _ _ | exact hS6 _ _ | exact hS7 _ _ | exact hS8 _ _ | exact hS9 _ _ | exact hS10 _ _ | exact hS11 _ _ | exact hS12 _ _ | exact hS13 _ _ | assumption | rfl) nb (rfl) (by omega) ?_
      refine ps_iinc rfl rfl ?_
      refine ps_goto rfl ?_
      rw [show nI i + Int32.ofInt 1 = nI (i + 1) from nI_1 i]
      obtain ⟨r1, r2, r3⟩ := hr i (by omega)
      rw [if_neg (by omega)] at r1 r2
      refine ih (i + 1) (by omega) _ (fun a j h => ?_) ?_ (fun p hp => ?_)
      · show pm_u (pm_u I' (m + 1) i _) (m + 2) i _ a j = _
        rw [pu_o (by omega), pu_o (by omega)]
        exact ag a j h
      · show pm_u (pm_u I' (m + 1) i _) (m + 2) i _ m 3 = _
        rw [pu_o (by omega), pu_o (by omega)]
        exact hc
      · obtain ⟨h1, h2, h3⟩ := hr p hp
        show pm_u (pm_u I' (m + 1) i (I' (m + 1) i + a - (I' (m + 1) i + a) / 100 * 100)) (m + 2) i (pm_u I' (m + 1) i (I' (m + 1) i + a - (I' (m + 1) i + a) / 100 * 100) (m + 2) i + b - (pm_u I' (m + 1) i (I' (m + 1) i + a - (I' (m + 1) i + a) / 100 * 100) (m + 2) i + b) / 100 * 100) (m + 1) p = _ ∧ pm_u (pm_u I' (m + 1) i (I' (m + 1) i + a - (I' (m + 1) i + a) / 100 * 100)) (m + 2) i (pm_u I' (m + 1) i (I' (m + 1) i + a - (I' (m + 1) i + a) / 100 * 100) (m + 2) i + b - (pm_u I' (m + 1) i (I' (m + 1) i + a - (I' (m + 1) i + a) / 100 * 100) (m + 2) i + b) / 100 * 100) (m + 2) p = _ ∧ pm_u (pm_u I' (m + 1) i _) (m + 2) i _ (m + 3) p = _
        rw [show pm_u I' (m + 1) i (I' (m + 1) i + a - (I' (m + 1) i + a) / 100 * 100) (m + 2) i = I (m + 2) i from (pu_o (by omega)).trans r2, r1]
        refine ⟨?_, ?_, ?_⟩
        · rw [pu_o (by omega)]
          by_cases e : p = i
          · rw [e, pu_s, if_pos (by omega)]
          · rw [pu_n e, h1]
            by_cases e2 : p < i
            · rw [if_pos e2, if_pos (by omega)]
            · rw [if_neg e2, if_neg (by omega)]
        · by_cases e : p = i
          · rw [e, pu_s, if_pos (by omega)]
          · rw [pu_n e, pu_o (by omega), h2]
            by_cases e2 : p < i
            · rw [if_pos e2, if_pos (by omega)]
            · rw [if_neg e2, if_neg (by omega)]
        · rw [pu_o (by omega), pu_o (by omega)]
          exact h3
  refine pw_c rfl ?_
  refine ps_istore rfl rfl ?_
  refine go n 0 (by omega) I (fun _ _ _ => rfl) hn (fun p hp => ?_)
  rw [if_neg (by omega), if_neg (by omega)]
  exact ⟨rfl, rfl, rfl⟩
end SA
