/-! BY HAND: the class's camera, exactly: it is aimed -/
section TK
variable {I I' J : Nat → Nat → Int32} {L : Nat → Nat → Int64} {s : Nat → Option Nat} {Q : List Value → pm_H → Prop} {ys : List Int32} {p e m t cm ci : Nat} {P : sPl} {S : sS}
/-- counts come to the CELLS of things -/
def acR (P : sPl) (S : sS) (q : Nat) (f : Nat → Int32) : Nat → Nat → Int32
  | 0, i => f i
  | k + 1, i => if i = cellF P (S.sc q k 0) (S.sc q k 1) then acR P S q f k i + S.sc q k 2 else acR P S q f k i
/-- LOST ones marked -/
def lsR (P : sPl) (S : sS) : Nat → Nat → Int32
  | 0, _ => 0
  | k + 1, i => if i = cellF P (S.sc 1 k 0) (S.sc 1 k 1) then 1 else lsR P S k i
/-- shadows of SOURCES, the PLATE turned -/
def thR (P : sPl) (S : sS) (tn : Int32) : Nat → Nat → Int32
  | 0, _ => S.bk
  | k + 1, i => thR P S tn k i + S.sc 0 k 2 * P.ho (shF P.w P.v (-(S.sc 0 k 0 + tn)).toInt (-(S.sc 0 k 1)).toInt i)
def lostF (P : sPl) (S : sS) : Nat → Int32 := lsR P S (S.n 1)
def wholF (P : sPl) (S : sS) (tn : Int32) : Nat → Int32 := acR P S 2 (thR P S tn (S.n 0)) (S.n 2)
def shadF (P : sPl) (S : sS) (i : Nat) : Int32 := if lostF P S i = 1 then 0 else wholF P S 0 i
def truF (P : sPl) (S : sS) : Nat → Int32 := acR P S 0 (fun _ => 0) (S.n 0)
theorem cell_lt (w0 : 0 < P.w) (v0 : 0 < P.v) (x y : Int32) : cellF P x y < P.w * P.v := cxy_lt w0 v0 _ _
theorem acR_c {f g : Nat → Int32} {q n : Nat} (h : ∀ i, i < n → f i = g i) : ∀ k i, i < n → acR P S q f k i = acR P S q g k i
  | 0, i, hi => h i hi
  | k + 1, i, hi => by
    unfold acR
    rw [acR_c h k i hi]
theorem B_addCountsX {q r : Nat} (hc : isC cm ci) (hp : isP p) (he : isE e) (h1 : s ci = some p) (hP : cP I p P.w P.v) (hS : cSc e S I) (ok : S.ok) (hq : q < 3) (hr : r < 7) (kk : ∀ I', (∀ a j, ¬ (a = cm + 1 + r ∧ j < P.w * P.v) → I' a j = I a j) → (∀ i, i < P.w * P.v → I' (cm + 1 + r) i = acR P S q (fun i => I (cm + 1 + r) i) (S.n q) i) → Q [] (I', L, g_R s, 306)) : pm_W (g_P ys) 126 0 [.ref cm, .ref (cm + 1 + r), .ref (e + 1 + 4 * q), .retAddr 0] [] (I, L, g_R s, 306) (0, 0) Q := by
  obtain ⟨hS0, _⟩ := cam_F (ys := ys) (s := s) hc
  obtain ⟨_, _, _, _, _, _, _, _, _, hR13, hR14⟩ := cam_R (s := s) hc
  rw [h1] at hR13
  have hS1 : ∀ I L, pm_sh (g_P ys) (I, L, g_R s, 306) (cm + 1 + r) = some (.inr (0, 289)) := by
    obtain ⟨_, z1, z2, z3, z4, z5, z6, z7, _⟩ := cam_F (ys := ys) (s := s) hc
    rcases (show r = 0 ∨ r = 1 ∨ r = 2 ∨ r = 3 ∨ r = 4 ∨ r = 5 ∨ r = 6 by omega) with rfl | rfl | rfl | rfl | rfl | rfl | rfl <;> assumption
  obtain ⟨hS2, hS3, hS4, hS5, hR0, hR1, hR2, l12⟩ := mm_F (ys := ys) (s := s) (isM_of he hq)
  obtain ⟨hS6, _⟩ := pl_F (ys := ys) (s := s) hp
  have nb : Nat.blt (mst q) 2147483648 = true := Nat.blt_eq.mpr (by omega)
  have cg := isC_ge hc
  have el := isE_lt he
  have pl := isP_lt hp
  have w0 := hP.2.2.2.1
  have v0 := hP.2.2.2.2.1
  have n9 := hP.2.2.2.2.2
  obtain ⟨m, hm⟩ : ∃ m, m = e + 1 + 4 * q := ⟨_, rfl⟩
  have nq := ok q hq
  have cn : I m 3 = nI (S.n q) := by rw [hm]; exact hS.1 q hq
  have row : ∀ k, k < S.n q → ∀ j, j < 3 → I (m + 1 + j) k = S.sc q k j := fun k hk j hj => by rw [hm]; exact hS.2.2.2 q hq k hk j hj
  have m228 : m + 3 ≤ 228 := by omega
  rw [← hm] at hS2 hS3 hS4 hS5 hR0 hR1 hR2 ⊢
  obtain ⟨t, ht⟩ : ∃ t, t = cm + 1 + r := ⟨_, rfl⟩
  have t9 : 255 < t ∧ t ≤ cm + 7 := by omega
  rw [← ht] at hS1 kk ⊢
  have loop : ∀ d k, k + d = S.n q → ∀ I', (∀ a j, ¬ (a = t ∧ j < P.w * P.v) → I' a j = I a j) → (∀ i, i < P.w * P.v → I' t i = acR P S q (fun i => I t i) k i) → pm_W (g_P ys) 126 2 [.ref cm, .ref t, .ref m, .int (nI k)] [] (I', L, g_R s, 306) (0, 0) Q := by
    intro d
    induction d with
    | zero =>
      intro k hk I' g1 g2
      refine ps_iload rfl rfl ?_
      refine ps_aload rfl rfl ?_
      refine ps_gfi 6 3 rfl rfl rfl (by first | exact hS0 _ _ | exact hS1 _ _ | exact hS2 _ _ | exact hS3 _ _ | exact hS4 _ _ | exact hS5 _ _ | exact hS6 _ _ | exact hS7 _ _ | exact hS8 _ _ | exact hS9 _ _ | exact hS10 _ _ | exact hS11 _ _ | exact hS12 _ _ | exact hS13 _ _ | exact hS14 _ _ | exact hS15 _ _ | exact hS16 _ _ | exact hS17 _ _ | exact hS18 _ _ | exact hS19 _ _ | exact hS20 _ _ | exact hS21 _ _ | exact hS22 _ _ | exact hS23 _ _ | assumption | rfl) rfl ?_
      rw [show ((I', L, g_R s, 306) : pm_H).1 m 3 = nI (S.n q) from (g1 _ _ (by omega)).trans cn]
      refine ps_icmpt rfl (decide_eq_true (nI_le (by omega) (by omega))) ?_
      refine ps_vret rfl rfl ?_
      have e1 : k = S.n q := by omega
      subst e1
      exact kk _ g1 g2
    | succ d ih =>
      intro k hk I' g1 g2
      have P' := cP_o hP (fun j => g1 p j (by omega))
      have r0 : I' (m + 1) k = S.sc q k 0 := (g1 _ _ (by omega)).trans (row k (by omega) 0 (by omega))
      have r1 : I' (m + 2) k = S.sc q k 1 := (g1 _ _ (by omega)).trans (row k (by omega) 1 (by omega))
      have r2 : I' (m + 3) k = S.sc q k 2 := (g1 _ _ (by omega)).trans (row k (by omega) 2 (by omega))
      have cl := cell_lt (P := P) w0 v0 (S.sc q k 0) (S.sc q k 1)
      refine ps_iload rfl rfl ?_
      refine ps_aload rfl rfl ?_
      refine ps_gfi 6 3 rfl rfl rfl (by first | exact hS0 _ _ | exact hS1 _ _ | exact hS2 _ _ | exact hS3 _ _ | exact hS4 _ _ | exact hS5 _ _ | exact hS6 _ _ | exact hS7 _ _ | exact hS8 _ _ | exact hS9 _ _ | exact hS10 _ _ | exact hS11 _ _ | exact hS12 _ _ | exact hS13 _ _ | exact hS14 _ _ | exact hS15 _ _ | exact hS16 _ _ | exact hS17 _ _ | exact hS18 _ _ | exact hS19 _ _ | exact hS20 _ _ | exact hS21 _ _ | exact hS22 _ _ | exact hS23 _ _ | assumption | rfl) rfl ?_
      rw [show ((I', L, g_R s, 306) : pm_H).1 m 3 = nI (S.n q) from (g1 _ _ (by omega)).trans cn]
      refine ps_icmpf rfl (decide_eq_false (nI_ge (by omega) (by omega))) ?_
      refine ps_aload rfl rfl ?_
      refine ps_aload rfl rfl ?_
      refine ps_gfr 10 13 rfl rfl rfl (by first | exact hS0 _ _ | exact hS1 _ _ | exact hS2 _ _ | exact hS3 _ _ | exact hS4 _ _ | exact hS5 _ _ | exact hS6 _ _ | exact hS7 _ _ | exact hS8 _ _ | exact hS9 _ _ | exact hS10 _ _ | exact hS11 _ _ | exact hS12 _ _ | exact hS13 _ _ | exact hS14 _ _ | exact hS15 _ _ | exact hS16 _ _ | exact hS17 _ _ | exact hS18 _ _ | exact hS19 _ _ | exact hS20 _ _ | exact hS21 _ _ | exact hS22 _ _ | exact hS23 _ _ | assumption | rfl) rfl (by first | assumption | rfl) ?_
      refine ps_aload rfl rfl ?_
      refine ps_gfr 6 0 rfl rfl rfl (by first | exact hS0 _ _ | exact hS1 _ _ | exact hS2 _ _ | exact hS3 _ _ | exact hS4 _ _ | exact hS5 _ _ | exact hS6 _ _ | exact hS7 _ _ | exact hS8 _ _ | exact hS9 _ _ | exact hS10 _ _ | exact hS11 _ _ | exact hS12 _ _ | exact hS13 _ _ | exact hS14 _ _ | exact hS15 _ _ | exact hS16 _ _ | exact hS17 _ _ | exact hS18 _ _ | exact hS19 _ _ | exact hS20 _ _ | exact hS21 _ _ | exact hS22 _ _ | exact hS23 _ _ | assumption | rfl) rfl (by first | assumption | rfl) ?_
      refine ps_iload rfl rfl ?_
      refine ps_iald (k) rfl (by first | exact hS0 _ _ | exact hS1 _ _ | exact hS2 _ _ | exact hS3 _ _ | exact hS4 _ _ | exact hS5 _ _ | exact hS6 _ _ | exact hS7 _ _ | exact hS8 _ _ | exact hS9 _ _ | exact hS10 _ _ | exact hS11 _ _ | exact hS12 _ _ | exact hS13 _ _ | exact hS14 _ _ | exact hS15 _ _ | exact hS16 _ _ | exact hS17 _ _ | exact hS18 _ _ | exact hS19 _ _ | exact hS20 _ _ | exact hS21 _ _ | exact hS22 _ _ | exact hS23 _ _ | assumption | rfl) nb (rfl) (by omega) ?_
      rw [show ((I', L, g_R s, 306) : pm_H).1 (m + 1) k = S.sc q k 0 from r0]
      refine ps_aload rfl rfl ?_
      refine ps_gfr 6 1 rfl rfl rfl (by first | exact hS0 _ _ | exact hS1 _ _ | exact hS2 _ _ | exact hS3 _ _ | exact hS4 _ _ | exact hS5 _ _ | exact hS6 _ _ | exact hS7 _ _ | exact hS8 _ _ | exact hS9 _ _ | exact hS10 _ _ | exact hS11 _ _ | exact hS12 _ _ | exact hS13 _ _ | exact hS14 _ _ | exact hS15 _ _ | exact hS16 _ _ | exact hS17 _ _ | exact hS18 _ _ | exact hS19 _ _ | exact hS20 _ _ | exact hS21 _ _ | exact hS22 _ _ | exact hS23 _ _ | assumption | rfl) rfl (by first | assumption | rfl) ?_
      refine ps_iload rfl rfl ?_
      refine ps_iald (k) rfl (by first | exact hS0 _ _ | exact hS1 _ _ | exact hS2 _ _ | exact hS3 _ _ | exact hS4 _ _ | exact hS5 _ _ | exact hS6 _ _ | exact hS7 _ _ | exact hS8 _ _ | exact hS9 _ _ | exact hS10 _ _ | exact hS11 _ _ | exact hS12 _ _ | exact hS13 _ _ | exact hS14 _ _ | exact hS15 _ _ | exact hS16 _ _ | exact hS17 _ _ | exact hS18 _ _ | exact hS19 _ _ | exact hS20 _ _ | exact hS21 _ _ | exact hS22 _ _ | exact hS23 _ _ | assumption | rfl) nb (rfl) (by omega) ?_
      rw [show ((I', L, g_R s, 306) : pm_H).1 (m + 2) k = S.sc q k 1 from r1]
      refine pv_k rfl rfl rfl rfl rfl (hS6 _ _) rfl ⟨Nat.zero_le _, Nat.zero_le _⟩ ?_
      refine B_indexOfX hp P' _ _ ?_
      show pm_W _ _ _ _ [.int (nI (cellF P (S.sc q k 0) (S.sc q k 1))), .ref t] _ _ _
      refine ps_ar rfl rfl rfl rfl rfl ?_
      refine ps_iald (cellF P (S.sc q k 0) (S.sc q k 1)) rfl (by first | exact hS0 _ _ | exact hS1 _ _ | exact hS2 _ _ | exact hS3 _ _ | exact hS4 _ _ | exact hS5 _ _ | exact hS6 _ _ | exact hS7 _ _ | exact hS8 _ _ | exact hS9 _ _ | exact hS10 _ _ | exact hS11 _ _ | exact hS12 _ _ | exact hS13 _ _ | exact hS14 _ _ | exact hS15 _ _ | exact hS16 _ _ | exact hS17 _ _ | exact hS18 _ _ | exact hS19 _ _ | exact hS20 _ _ | exact hS21 _ _ | exact hS22 _ _ | exact hS23 _ _ | assumption | rfl) rfl (rfl) (by omega) ?_
      refine ps_aload rfl rfl ?_
      refine ps_gfr 6 2 rfl rfl rfl (by first | exact hS0 _ _ | exact hS1 _ _ | exact hS2 _ _ | exact hS3 _ _ | exact hS4 _ _ | exact hS5 _ _ | exact hS6 _ _ | exact hS7 _ _ | exact hS8 _ _ | exact hS9 _ _ | exact hS10 _ _ | exact hS11 _ _ | exact hS12 _ _ | exact hS13 _ _ | exact hS14 _ _ | exact hS15 _ _ | exact hS16 _ _ | exact hS17 _ _ | exact hS18 _ _ | exact hS19 _ _ | exact hS20 _ _ | exact hS21 _ _ | exact hS22 _ _ | exact hS23 _ _ | assumption | rfl) rfl (by first | assumption | rfl) ?_
      refine ps_iload rfl rfl ?_
      refine ps_iald (k) rfl (by first | exact hS0 _ _ | exact hS1 _ _ | exact hS2 _ _ | exact hS3 _ _ | exact hS4 _ _ | exact hS5 _ _ | exact hS6 _ _ | exact hS7 _ _ | exact hS8 _ _ | exact hS9 _ _ | exact hS10 _ _ | exact hS11 _ _ | exact hS12 _ _ | exact hS13 _ _ | exact hS14 _ _ | exact hS15 _ _ | exact hS16 _ _ | exact hS17 _ _ | exact hS18 _ _ | exact hS19 _ _ | exact hS20 _ _ | exact hS21 _ _ | exact hS22 _ _ | exact hS23 _ _ | assumption | rfl) nb (rfl) (by omega) ?_
      rw [show ((I', L, g_R s, 306) : pm_H).1 (m + 3) k = S.sc q k 2 from r2]
      refine ps_ar rfl rfl rfl rfl rfl ?_
      refine ps_iast (cellF P (S.sc q k 0) (S.sc q k 1)) rfl (by first | exact hS0 _ _ | exact hS1 _ _ | exact hS2 _ _ | exact hS3 _ _ | exact hS4 _ _ | exact hS5 _ _ | exact hS6 _ _ | exact hS7 _ _ | exact hS8 _ _ | exact hS9 _ _ | exact hS10 _ _ | exact hS11 _ _ | exact hS12 _ _ | exact hS13 _ _ | exact hS14 _ _ | exact hS15 _ _ | exact hS16 _ _ | exact hS17 _ _ | exact hS18 _ _ | exact hS19 _ _ | exact hS20 _ _ | exact hS21 _ _ | exact hS22 _ _ | exact hS23 _ _ | assumption | rfl) rfl (rfl) (by omega) ?_
      refine ps_iinc rfl rfl ?_
      refine ps_goto rfl ?_
      rw [show nI k + Int32.ofInt 1 = nI (k + 1) from nI_1 k]
      refine ih (k + 1) (by omega) _ (fun a j h => (pu_x (by omega)).trans (g1 a j h)) (fun i hi => ?_)
      show pm_u I' t (cellF P (S.sc q k 0) (S.sc q k 1)) (I' t (cellF P (S.sc q k 0) (S.sc q k 1)) + S.sc q k 2) t i = _
      rw [acR]
      by_cases ei : i = cellF P (S.sc q k 0) (S.sc q k 1)
      · rw [if_pos ei, ei, pu_s, g2 _ cl]
      · rw [if_neg ei, pu_n ei]
        exact g2 i hi
  refine pw_c rfl ?_
  refine ps_istore rfl rfl ?_
  exact loop (S.n q) 0 (by omega) I (fun _ _ _ => rfl) (fun i hi => rfl)
theorem B_throwAllX {r : Nat} (tn : Int32) (hc : isC cm ci) (hp : isP p) (he : isE e) (h1 : s ci = some p) (h2 : s (ci + 1) = some e) (hP : cPq I p P) (hS : cSc e S I) (ok : S.ok) (hr : r < 7) (kk : ∀ I', (∀ a j, ¬ (a = cm + 1 + r ∧ j < P.w * P.v) → I' a j = I a j) → (∀ i, i < P.w * P.v → I' (cm + 1 + r) i = wholF P S tn i) → Q [] (I', L, g_R s, 306)) : pm_W (g_P ys) 127 0 [.ref cm, .ref (cm + 1 + r), .int tn, .retAddr 0, .retAddr 0] [] (I, L, g_R s, 306) (0, 0) Q := by
  obtain ⟨hS0, _⟩ := cam_F (ys := ys) (s := s) hc
  obtain ⟨_, _, _, _, _, _, _, _, _, hR13, hR14⟩ := cam_R (s := s) hc
  rw [h1] at hR13
  rw [h2] at hR14
  have hS1 : ∀ I L, pm_sh (g_P ys) (I, L, g_R s, 306) (cm + 1 + r) = some (.inr (0, 289)) := by
    obtain ⟨_, z1, z2, z3, z4, z5, z6, z7, _⟩ := cam_F (ys := ys) (s := s) hc
    rcases (show r = 0 ∨ r = 1 ∨ r = 2 ∨ r = 3 ∨ r = 4 ∨ r = 5 ∨ r = 6 by omega) with rfl | rfl | rfl | rfl | rfl | rfl | rfl <;> assumption
  obtain ⟨hS2, hS3, hS4, hS5, hR0, hR1, hR2, l12⟩ := mm_F (ys := ys) (s := s) (isM_of he (q := 0) (by omega))
  obtain ⟨hS6, hS7, hS8, hS9, hR3, hR4, hR5⟩ := pl_F (ys := ys) (s := s) hp
  obtain ⟨hS10, hR6, hR7, hR8⟩ := en_F (ys := ys) (s := s) he
  have cg := isC_ge hc
  have el := isE_lt he
  have pl := isP_lt hp
  have w0 := hP.1.2.2.2.1
  have v0 := hP.1.2.2.2.2.1
  have n9 := hP.1.2.2.2.2.2
  have n8 : S.n 0 ≤ 8 := ok 0 (by omega)
  obtain ⟨t, ht⟩ : ∃ t, t = cm + 1 + r := ⟨_, rfl⟩
  have t9 : 255 < t ∧ t ≤ cm + 7 := by omega
  have hac : ∀ I1 (Q1 : List Value → pm_H → Prop), (∀ a j, ¬ (a = t ∧ j < P.w * P.v) → I1 a j = I a j) → (∀ i, i < P.w * P.v → I1 t i = thR P S tn (S.n 0) i) → (∀ I', (∀ a j, ¬ (a = t ∧ j < P.w * P.v) → I' a j = I a j) → (∀ i, i < P.w * P.v → I' t i = wholF P S tn i) → Q1 [] (I', L, g_R s, 306)) → pm_W (g_P ys) 126 0 [.ref cm, .ref t, .ref (e + 9), .retAddr 0] [] (I1, L, g_R s, 306) (0, 0) Q1 := by
    intro I1 Q1 g1 g2 k1
    rw [ht] at g1 g2 k1 ⊢
    refine B_addCountsX (q := 2) hc hp he h1 (cP_o hP.1 (fun j => g1 p j (by omega))) (cSc_t hS (fun a j z1 z2 => g1 a j (by omega))) ok (by omega) hr (fun I2 f1 f2 => k1 I2 (fun a j z => (f1 a j z).trans (g1 a j z)) (fun i hi => (f2 i hi).trans (acR_c g2 _ _ hi)))
  rw [← ht] at hS1 kk ⊢
  have row : ∀ k, k < S.n 0 → ∀ j, j < 3 → I (e + 1 + 1 + j) k = S.sc 0 k j := fun k hk j hj => hS.2.2.2 0 (by omega) k hk j hj
  have loop : ∀ d k, k + d = S.n 0 → ∀ I', (∀ a j, ¬ (a = t ∧ j < P.w * P.v) → I' a j = I a j) → (∀ i, i < P.w * P.v → I' t i = thR P S tn k i) → pm_W (g_P ys) 127 30 [.ref cm, .ref t, .int tn, .ref (e + 1), .int (nI k)] [] (I', L, g_R s, 306) (0, 0) Q := by
    intro d
    induction d with
    | zero =>
      intro k hk I' g1 g2
      refine ps_iload rfl rfl ?_
      refine ps_aload rfl rfl ?_
      refine ps_gfi 6 3 rfl rfl rfl (by first | exact hS0 _ _ | exact hS1 _ _ | exact hS2 _ _ | exact hS3 _ _ | exact hS4 _ _ | exact hS5 _ _ | exact hS6 _ _ | exact hS7 _ _ | exact hS8 _ _ | exact hS9 _ _ | exact hS10 _ _ | exact hS11 _ _ | exact hS12 _ _ | exact hS13 _ _ | exact hS14 _ _ | exact hS15 _ _ | exact hS16 _ _ | exact hS17 _ _ | exact hS18 _ _ | exact hS19 _ _ | exact hS20 _ _ | exact hS21 _ _ | exact hS22 _ _ | exact hS23 _ _ | assumption | rfl) rfl ?_
      rw [show ((I', L, g_R s, 306) : pm_H).1 (e + 1) 3 = nI (S.n 0) from (g1 _ _ (by omega)).trans (hS.1 0 (by omega))]
      refine ps_icmpt rfl (decide_eq_true (nI_le (by omega) (by omega))) ?_
      refine ps_aload rfl rfl ?_
      refine ps_aload rfl rfl ?_
      refine ps_aload rfl rfl ?_
      refine ps_gfr 10 14 rfl rfl rfl (by first | exact hS0 _ _ | exact hS1 _ _ | exact hS2 _ _ | exact hS3 _ _ | exact hS4 _ _ | exact hS5 _ _ | exact hS6 _ _ | exact hS7 _ _ | exact hS8 _ _ | exact hS9 _ _ | exact hS10 _ _ | exact hS11 _ _ | exact hS12 _ _ | exact hS13 _ _ | exact hS14 _ _ | exact hS15 _ _ | exact hS16 _ _ | exact hS17 _ _ | exact hS18 _ _ | exact hS19 _ _ | exact hS20 _ _ | exact hS21 _ _ | exact hS22 _ _ | exact hS23 _ _ | assumption | rfl) rfl (by first | assumption | rfl) ?_
      refine ps_gfr 5 2 rfl rfl rfl (by first | exact hS0 _ _ | exact hS1 _ _ | exact hS2 _ _ | exact hS3 _ _ | exact hS4 _ _ | exact hS5 _ _ | exact hS6 _ _ | exact hS7 _ _ | exact hS8 _ _ | exact hS9 _ _ | exact hS10 _ _ | exact hS11 _ _ | exact hS12 _ _ | exact hS13 _ _ | exact hS14 _ _ | exact hS15 _ _ | exact hS16 _ _ | exact hS17 _ _ | exact hS18 _ _ | exact hS19 _ _ | exact hS20 _ _ | exact hS21 _ _ | exact hS22 _ _ | exact hS23 _ _ | assumption | rfl) rfl (by first | assumption | rfl) ?_
      refine pv_k rfl rfl rfl rfl rfl (hS0 _ _) rfl ⟨Nat.zero_le _, Nat.zero_le _⟩ ?_
      have e1 : k = S.n 0 := by omega
      subst e1
      refine hac I' _ g1 g2 (fun I2 f1 f2 => ?_)
      refine ps_vret rfl rfl ?_
      exact kk _ f1 f2
    | succ d ih =>
      intro k hk I' g1 g2
      have P' := cP_o hP.1 (fun j => g1 p j (by omega))
      have r0 : I' (e + 1 + 1) k = S.sc 0 k 0 := (g1 _ _ (by omega)).trans (row k (by omega) 0 (by omega))
      have r1 : I' (e + 1 + 2) k = S.sc 0 k 1 := (g1 _ _ (by omega)).trans (row k (by omega) 1 (by omega))
      have r2 : I' (e + 1 + 3) k = S.sc 0 k 2 := (g1 _ _ (by omega)).trans (row k (by omega) 2 (by omega))
      refine ps_iload rfl rfl ?_
      refine ps_aload rfl rfl ?_
      refine ps_gfi 6 3 rfl rfl rfl (by first | exact hS0 _ _ | exact hS1 _ _ | exact hS2 _ _ | exact hS3 _ _ | exact hS4 _ _ | exact hS5 _ _ | exact hS6 _ _ | exact hS7 _ _ | exact hS8 _ _ | exact hS9 _ _ | exact hS10 _ _ | exact hS11 _ _ | exact hS12 _ _ | exact hS13 _ _ | exact hS14 _ _ | exact hS15 _ _ | exact hS16 _ _ | exact hS17 _ _ | exact hS18 _ _ | exact hS19 _ _ | exact hS20 _ _ | exact hS21 _ _ | exact hS22 _ _ | exact hS23 _ _ | assumption | rfl) rfl ?_
      rw [show ((I', L, g_R s, 306) : pm_H).1 (e + 1) 3 = nI (S.n 0) from (g1 _ _ (by omega)).trans (hS.1 0 (by omega))]
      refine ps_icmpf rfl (decide_eq_false (nI_ge (by omega) (by omega))) ?_
      refine ps_aload rfl rfl ?_
      refine ps_gfr 10 13 rfl rfl rfl (by first | exact hS0 _ _ | exact hS1 _ _ | exact hS2 _ _ | exact hS3 _ _ | exact hS4 _ _ | exact hS5 _ _ | exact hS6 _ _ | exact hS7 _ _ | exact hS8 _ _ | exact hS9 _ _ | exact hS10 _ _ | exact hS11 _ _ | exact hS12 _ _ | exact hS13 _ _ | exact hS14 _ _ | exact hS15 _ _ | exact hS16 _ _ | exact hS17 _ _ | exact hS18 _ _ | exact hS19 _ _ | exact hS20 _ _ | exact hS21 _ _ | exact hS22 _ _ | exact hS23 _ _ | assumption | rfl) rfl (by first | assumption | rfl) ?_
      refine ps_aload rfl rfl ?_
      refine ps_aload rfl rfl ?_
      refine ps_gfr 10 13 rfl rfl rfl (by first | exact hS0 _ _ | exact hS1 _ _ | exact hS2 _ _ | exact hS3 _ _ | exact hS4 _ _ | exact hS5 _ _ | exact hS6 _ _ | exact hS7 _ _ | exact hS8 _ _ | exact hS9 _ _ | exact hS10 _ _ | exact hS11 _ _ | exact hS12 _ _ | exact hS13 _ _ | exact hS14 _ _ | exact hS15 _ _ | exact hS16 _ _ | exact hS17 _ _ | exact hS18 _ _ | exact hS19 _ _ | exact hS20 _ _ | exact hS21 _ _ | exact hS22 _ _ | exact hS23 _ _ | assumption | rfl) rfl (by first | assumption | rfl) ?_
      refine ps_gfr 9 0 rfl rfl rfl (by first | exact hS0 _ _ | exact hS1 _ _ | exact hS2 _ _ | exact hS3 _ _ | exact hS4 _ _ | exact hS5 _ _ | exact hS6 _ _ | exact hS7 _ _ | exact hS8 _ _ | exact hS9 _ _ | exact hS10 _ _ | exact hS11 _ _ | exact hS12 _ _ | exact hS13 _ _ | exact hS14 _ _ | exact hS15 _ _ | exact hS16 _ _ | exact hS17 _ _ | exact hS18 _ _ | exact hS19 _ _ | exact hS20 _ _ | exact hS21 _ _ | exact hS22 _ _ | exact hS23 _ _ | assumption | rfl) rfl (by first | assumption | rfl) ?_
      refine ps_aload rfl rfl ?_
      refine ps_gfr 6 0 rfl rfl rfl (by first | exact hS0 _ _ | exact hS1 _ _ | exact hS2 _ _ | exact hS3 _ _ | exact hS4 _ _ | exact hS5 _ _ | exact hS6 _ _ | exact hS7 _ _ | exact hS8 _ _ | exact hS9 _ _ | exact hS10 _ _ | exact hS11 _ _ | exact hS12 _ _ | exact hS13 _ _ | exact hS14 _ _ | exact hS15 _ _ | exact hS16 _ _ | exact hS17 _ _ | exact hS18 _ _ | exact hS19 _ _ | exact hS20 _ _ | exact hS21 _ _ | exact hS22 _ _ | exact hS23 _ _ | assumption | rfl) rfl (by first | assumption | rfl) ?_
      refine ps_iload rfl rfl ?_
      refine ps_iald (k) rfl (by first | exact hS0 _ _ | exact hS1 _ _ | exact hS2 _ _ | exact hS3 _ _ | exact hS4 _ _ | exact hS5 _ _ | exact hS6 _ _ | exact hS7 _ _ | exact hS8 _ _ | exact hS9 _ _ | exact hS10 _ _ | exact hS11 _ _ | exact hS12 _ _ | exact hS13 _ _ | exact hS14 _ _ | exact hS15 _ _ | exact hS16 _ _ | exact hS17 _ _ | exact hS18 _ _ | exact hS19 _ _ | exact hS20 _ _ | exact hS21 _ _ | exact hS22 _ _ | exact hS23 _ _ | assumption | rfl) rfl (rfl) (by show k < 8; omega) ?_
      rw [show ((I', L, g_R s, 306) : pm_H).1 (e + 1 + 1) k = S.sc 0 k 0 from r0]
      refine ps_iload rfl rfl ?_
      refine ps_ar rfl rfl rfl rfl rfl ?_
      refine ps_ar rfl rfl rfl rfl rfl ?_
      refine ps_aload rfl rfl ?_
      refine ps_gfr 6 1 rfl rfl rfl (by first | exact hS0 _ _ | exact hS1 _ _ | exact hS2 _ _ | exact hS3 _ _ | exact hS4 _ _ | exact hS5 _ _ | exact hS6 _ _ | exact hS7 _ _ | exact hS8 _ _ | exact hS9 _ _ | exact hS10 _ _ | exact hS11 _ _ | exact hS12 _ _ | exact hS13 _ _ | exact hS14 _ _ | exact hS15 _ _ | exact hS16 _ _ | exact hS17 _ _ | exact hS18 _ _ | exact hS19 _ _ | exact hS20 _ _ | exact hS21 _ _ | exact hS22 _ _ | exact hS23 _ _ | assumption | rfl) rfl (by first | assumption | rfl) ?_
      refine ps_iload rfl rfl ?_
      refine ps_iald (k) rfl (by first | exact hS0 _ _ | exact hS1 _ _ | exact hS2 _ _ | exact hS3 _ _ | exact hS4 _ _ | exact hS5 _ _ | exact hS6 _ _ | exact hS7 _ _ | exact hS8 _ _ | exact hS9 _ _ | exact hS10 _ _ | exact hS11 _ _ | exact hS12 _ _ | exact hS13 _ _ | exact hS14 _ _ | exact hS15 _ _ | exact hS16 _ _ | exact hS17 _ _ | exact hS18 _ _ | exact hS19 _ _ | exact hS20 _ _ | exact hS21 _ _ | exact hS22 _ _ | exact hS23 _ _ | assumption | rfl) rfl (rfl) (by show k < 8; omega) ?_
      rw [show ((I', L, g_R s, 306) : pm_H).1 (e + 1 + 2) k = S.sc 0 k 1 from r1]
      refine ps_ar rfl rfl rfl rfl rfl ?_
      refine ps_aload rfl rfl ?_
      refine ps_gfr 6 2 rfl rfl rfl (by first | exact hS0 _ _ | exact hS1 _ _ | exact hS2 _ _ | exact hS3 _ _ | exact hS4 _ _ | exact hS5 _ _ | exact hS6 _ _ | exact hS7 _ _ | exact hS8 _ _ | exact hS9 _ _ | exact hS10 _ _ | exact hS11 _ _ | exact hS12 _ _ | exact hS13 _ _ | exact hS14 _ _ | exact hS15 _ _ | exact hS16 _ _ | exact hS17 _ _ | exact hS18 _ _ | exact hS19 _ _ | exact hS20 _ _ | exact hS21 _ _ | exact hS22 _ _ | exact hS23 _ _ | assumption | rfl) rfl (by first | assumption | rfl) ?_
      refine ps_iload rfl rfl ?_
      refine ps_iald (k) rfl (by first | exact hS0 _ _ | exact hS1 _ _ | exact hS2 _ _ | exact hS3 _ _ | exact hS4 _ _ | exact hS5 _ _ | exact hS6 _ _ | exact hS7 _ _ | exact hS8 _ _ | exact hS9 _ _ | exact hS10 _ _ | exact hS11 _ _ | exact hS12 _ _ | exact hS13 _ _ | exact hS14 _ _ | exact hS15 _ _ | exact hS16 _ _ | exact hS17 _ _ | exact hS18 _ _ | exact hS19 _ _ | exact hS20 _ _ | exact hS21 _ _ | exact hS22 _ _ | exact hS23 _ _ | assumption | rfl) rfl (rfl) (by show k < 8; omega) ?_
      rw [show ((I', L, g_R s, 306) : pm_H).1 (e + 1 + 3) k = S.sc 0 k 2 from r2]
      refine pv_k rfl rfl rfl rfl rfl (hS6 _ _) rfl ⟨Nat.zero_le _, Nat.zero_le _⟩ ?_
      refine B_addShiftedX hp P' hS1 hS7 (by omega) (by omega) _ _ _ (fun I2 f1 f2 => ?_)
      refine ps_iinc rfl rfl ?_
      refine ps_goto rfl ?_
      rw [show nI k + Int32.ofInt 1 = nI (k + 1) from nI_1 k]
      refine ih (k + 1) (by omega) I2 (fun a j z => (f1 a j z).trans (g1 a j z)) (fun i hi => ?_)
      have sl : shF P.w P.v (-(S.sc 0 k 0 + tn)).toInt (-(S.sc 0 k 1)).toInt i < P.w * P.v := cxy_lt w0 v0 _ _
      rw [f2 i hi, g2 i hi, g1 _ _ (by omega), (hP.2.2.2.2 _ sl).1]
      rfl
  refine ps_aload rfl rfl ?_
  refine pw_c rfl ?_
  refine ps_aload rfl rfl ?_
  refine ps_gfr 10 13 rfl rfl rfl (by first | exact hS0 _ _ | exact hS1 _ _ | exact hS2 _ _ | exact hS3 _ _ | exact hS4 _ _ | exact hS5 _ _ | exact hS6 _ _ | exact hS7 _ _ | exact hS8 _ _ | exact hS9 _ _ | exact hS10 _ _ | exact hS11 _ _ | exact hS12 _ _ | exact hS13 _ _ | exact hS14 _ _ | exact hS15 _ _ | exact hS16 _ _ | exact hS17 _ _ | exact hS18 _ _ | exact hS19 _ _ | exact hS20 _ _ | exact hS21 _ _ | exact hS22 _ _ | exact hS23 _ _ | assumption | rfl) rfl (by first | assumption | rfl) ?_
  refine ps_gfi 9 6 rfl rfl rfl (by first | exact hS0 _ _ | exact hS1 _ _ | exact hS2 _ _ | exact hS3 _ _ | exact hS4 _ _ | exact hS5 _ _ | exact hS6 _ _ | exact hS7 _ _ | exact hS8 _ _ | exact hS9 _ _ | exact hS10 _ _ | exact hS11 _ _ | exact hS12 _ _ | exact hS13 _ _ | exact hS14 _ _ | exact hS15 _ _ | exact hS16 _ _ | exact hS17 _ _ | exact hS18 _ _ | exact hS19 _ _ | exact hS20 _ _ | exact hS21 _ _ | exact hS22 _ _ | exact hS23 _ _ | assumption | rfl) rfl ?_
  rw [show ((I, L, g_R s, 306) : pm_H).1 p 6 = nI (P.w * P.v) from hP.1.2.2.1]
  refine ps_aload rfl rfl ?_
  refine ps_gfr 10 14 rfl rfl rfl (by first | exact hS0 _ _ | exact hS1 _ _ | exact hS2 _ _ | exact hS3 _ _ | exact hS4 _ _ | exact hS5 _ _ | exact hS6 _ _ | exact hS7 _ _ | exact hS8 _ _ | exact hS9 _ _ | exact hS10 _ _ | exact hS11 _ _ | exact hS12 _ _ | exact hS13 _ _ | exact hS14 _ _ | exact hS15 _ _ | exact hS16 _ _ | exact hS17 _ _ | exact hS18 _ _ | exact hS19 _ _ | exact hS20 _ _ | exact hS21 _ _ | exact hS22 _ _ | exact hS23 _ _ | assumption | rfl) rfl (by first | assumption | rfl) ?_
  refine ps_gfi 5 3 rfl rfl rfl (by first | exact hS0 _ _ | exact hS1 _ _ | exact hS2 _ _ | exact hS3 _ _ | exact hS4 _ _ | exact hS5 _ _ | exact hS6 _ _ | exact hS7 _ _ | exact hS8 _ _ | exact hS9 _ _ | exact hS10 _ _ | exact hS11 _ _ | exact hS12 _ _ | exact hS13 _ _ | exact hS14 _ _ | exact hS15 _ _ | exact hS16 _ _ | exact hS17 _ _ | exact hS18 _ _ | exact hS19 _ _ | exact hS20 _ _ | exact hS21 _ _ | exact hS22 _ _ | exact hS23 _ _ | assumption | rfl) rfl ?_
  rw [show ((I, L, g_R s, 306) : pm_H).1 e 3 = S.bk from hS.2.1]
  refine pw_k rfl rfl rfl rfl ⟨Nat.zero_le _, Nat.zero_le _⟩ ?_
  refine B_fillX (N := 289) hS1 (by omega) n9 S.bk (fun I1 f1 f2 => ?_)
  refine ps_aload rfl rfl ?_
  refine ps_gfr 10 14 rfl rfl rfl (by first | exact hS0 _ _ | exact hS1 _ _ | exact hS2 _ _ | exact hS3 _ _ | exact hS4 _ _ | exact hS5 _ _ | exact hS6 _ _ | exact hS7 _ _ | exact hS8 _ _ | exact hS9 _ _ | exact hS10 _ _ | exact hS11 _ _ | exact hS12 _ _ | exact hS13 _ _ | exact hS14 _ _ | exact hS15 _ _ | exact hS16 _ _ | exact hS17 _ _ | exact hS18 _ _ | exact hS19 _ _ | exact hS20 _ _ | exact hS21 _ _ | exact hS22 _ _ | exact hS23 _ _ | assumption | rfl) rfl (by first | assumption | rfl) ?_
  refine ps_gfr 5 0 rfl rfl rfl (by first | exact hS0 _ _ | exact hS1 _ _ | exact hS2 _ _ | exact hS3 _ _ | exact hS4 _ _ | exact hS5 _ _ | exact hS6 _ _ | exact hS7 _ _ | exact hS8 _ _ | exact hS9 _ _ | exact hS10 _ _ | exact hS11 _ _ | exact hS12 _ _ | exact hS13 _ _ | exact hS14 _ _ | exact hS15 _ _ | exact hS16 _ _ | exact hS17 _ _ | exact hS18 _ _ | exact hS19 _ _ | exact hS20 _ _ | exact hS21 _ _ | exact hS22 _ _ | exact hS23 _ _ | assumption | rfl) rfl (by first | assumption | rfl) ?_
  refine ps_astore rfl rfl ?_
  refine pw_c rfl ?_
  refine ps_istore rfl rfl ?_
  exact loop (S.n 0) 0 (by omega) I1 f1 f2
theorem B_markLostX (hc : isC cm ci) (hp : isP p) (he : isE e) (h1 : s ci = some p) (h2 : s (ci + 1) = some e) (hP : cP I p P.w P.v) (hS : cSc e S I) (ok : S.ok) (kk : ∀ I', (∀ a j, ¬ (a = cm + 1 ∧ j < P.w * P.v) → ¬ (a = cm ∧ j = 12) → I' a j = I a j) → (∀ i, i < P.w * P.v → I' (cm + 1) i = lostF P S i) → I' cm 12 = suI (lostF P S) (P.w * P.v) → Q [] (I', L, g_R s, 306)) : pm_W (g_P ys) 125 0 [.ref cm, .retAddr 0, .retAddr 0] [] (I, L, g_R s, 306) (0, 0) Q := by
  obtain ⟨hS0, hS1, _⟩ := cam_F (ys := ys) (s := s) hc
  obtain ⟨hR10, _, _, _, _, _, _, _, _, hR13, hR14⟩ := cam_R (s := s) hc
  rw [h1] at hR13
  rw [h2] at hR14
  obtain ⟨hS2, hS3, hS4, hS5, hR0, hR1, hR2, l12⟩ := mm_F (ys := ys) (s := s) (isM_of he (q := 1) (by omega))
  obtain ⟨hS6, hS7, hS8, hS9, hR3, hR4, hR5⟩ := pl_F (ys := ys) (s := s) hp
  obtain ⟨hS10, hR6, hR7, hR8⟩ := en_F (ys := ys) (s := s) he
  have cg := isC_ge hc
  have el := isE_lt he
  have pl := isP_lt hp
  have w0 := hP.2.2.2.1
  have v0 := hP.2.2.2.2.1
  have n9 := hP.2.2.2.2.2
  have n12 : S.n 1 ≤ 12 := ok 1 (by omega)
  have row : ∀ k, k < S.n 1 → ∀ j, j < 3 → I (e + 5 + 1 + j) k = S.sc 1 k j := fun k hk j hj => hS.2.2.2 1 (by omega) k hk j hj
  have loop : ∀ d k, k + d = S.n 1 → ∀ I', (∀ a j, ¬ (a = cm + 1 ∧ j < P.w * P.v) → I' a j = I a j) → (∀ i, i < P.w * P.v → I' (cm + 1) i = lsR P S k i) → pm_W (g_P ys) 125 26 [.ref cm, .ref (e + 5), .int (nI k)] [] (I', L, g_R s, 306) (0, 0) Q := by
    intro d
    induction d with
    | zero =>
      intro k hk I' g1 g2
      have e1 : k = S.n 1 := by omega
      subst e1
      refine ps_iload rfl rfl ?_
      refine ps_aload rfl rfl ?_
      refine ps_gfi 6 3 rfl rfl rfl (by first | exact hS0 _ _ | exact hS1 _ _ | exact hS2 _ _ | exact hS3 _ _ | exact hS4 _ _ | exact hS5 _ _ | exact hS6 _ _ | exact hS7 _ _ | exact hS8 _ _ | exact hS9 _ _ | exact hS10 _ _ | exact hS11 _ _ | exact hS12 _ _ | exact hS13 _ _ | exact hS14 _ _ | exact hS15 _ _ | exact hS16 _ _ | exact hS17 _ _ | exact hS18 _ _ | exact hS19 _ _ | exact hS20 _ _ | exact hS21 _ _ | exact hS22 _ _ | exact hS23 _ _ | assumption | rfl) rfl ?_
      rw [show ((I', L, g_R s, 306) : pm_H).1 (e + 5) 3 = nI (S.n 1) from (g1 _ _ (by omega)).trans (hS.1 1 (by omega))]
      refine ps_icmpt rfl (decide_eq_true (nI_le (by omega) (by omega))) ?_
      refine ps_aload rfl rfl ?_
      refine ps_aload rfl rfl ?_
      refine ps_gfr 10 0 rfl rfl rfl (by first | exact hS0 _ _ | exact hS1 _ _ | exact hS2 _ _ | exact hS3 _ _ | exact hS4 _ _ | exact hS5 _ _ | exact hS6 _ _ | exact hS7 _ _ | exact hS8 _ _ | exact hS9 _ _ | exact hS10 _ _ | exact hS11 _ _ | exact hS12 _ _ | exact hS13 _ _ | exact hS14 _ _ | exact hS15 _ _ | exact hS16 _ _ | exact hS17 _ _ | exact hS18 _ _ | exact hS19 _ _ | exact hS20 _ _ | exact hS21 _ _ | exact hS22 _ _ | exact hS23 _ _ | assumption | rfl) rfl (by first | assumption | rfl) ?_
      refine pw_c rfl ?_
      refine ps_aload rfl rfl ?_
      refine ps_gfr 10 13 rfl rfl rfl (by first | exact hS0 _ _ | exact hS1 _ _ | exact hS2 _ _ | exact hS3 _ _ | exact hS4 _ _ | exact hS5 _ _ | exact hS6 _ _ | exact hS7 _ _ | exact hS8 _ _ | exact hS9 _ _ | exact hS10 _ _ | exact hS11 _ _ | exact hS12 _ _ | exact hS13 _ _ | exact hS14 _ _ | exact hS15 _ _ | exact hS16 _ _ | exact hS17 _ _ | exact hS18 _ _ | exact hS19 _ _ | exact hS20 _ _ | exact hS21 _ _ | exact hS22 _ _ | exact hS23 _ _ | assumption | rfl) rfl (by first | assumption | rfl) ?_
      refine ps_gfi 9 6 rfl rfl rfl (by first | exact hS0 _ _ | exact hS1 _ _ | exact hS2 _ _ | exact hS3 _ _ | exact hS4 _ _ | exact hS5 _ _ | exact hS6 _ _ | exact hS7 _ _ | exact hS8 _ _ | exact hS9 _ _ | exact hS10 _ _ | exact hS11 _ _ | exact hS12 _ _ | exact hS13 _ _ | exact hS14 _ _ | exact hS15 _ _ | exact hS16 _ _ | exact hS17 _ _ | exact hS18 _ _ | exact hS19 _ _ | exact hS20 _ _ | exact hS21 _ _ | exact hS22 _ _ | exact hS23 _ _ | assumption | rfl) rfl ?_
      rw [show ((I', L, g_R s, 306) : pm_H).1 p 6 = nI (P.w * P.v) from (g1 _ _ (by omega)).trans hP.2.2.1]
      refine pw_k rfl rfl rfl rfl ⟨Nat.zero_le _, Nat.zero_le _⟩ ?_
      refine B_sumX (f := 0) (n := P.w * P.v) (N := 289) hS1 (by omega) (by omega) ?_
      refine ps_pfi 10 12 rfl rfl rfl (by first | exact hS0 _ _ | exact hS1 _ _ | exact hS2 _ _ | exact hS3 _ _ | exact hS4 _ _ | exact hS5 _ _ | exact hS6 _ _ | exact hS7 _ _ | exact hS8 _ _ | exact hS9 _ _ | exact hS10 _ _ | exact hS11 _ _ | exact hS12 _ _ | exact hS13 _ _ | exact hS14 _ _ | exact hS15 _ _ | exact hS16 _ _ | exact hS17 _ _ | exact hS18 _ _ | exact hS19 _ _ | exact hS20 _ _ | exact hS21 _ _ | exact hS22 _ _ | exact hS23 _ _ | assumption | rfl) rfl ?_
      refine ps_vret rfl rfl ?_
      have sv : suI (fun i => I' (cm + 1) (0 + i)) (P.w * P.v) = suI (lostF P S) (P.w * P.v) := suI_congr (fun i hi => by
        rw [Nat.zero_add]
        exact g2 i hi)
      rw [sv]
      exact kk _ (fun a j z1 z2 => (pu_x z2).trans (g1 a j z1)) (fun i hi => (pu_o (by omega)).trans (g2 i hi)) pu_s
    | succ d ih =>
      intro k hk I' g1 g2
      have P' := cP_o hP (fun j => g1 p j (by omega))
      have r0 : I' (e + 5 + 1) k = S.sc 1 k 0 := (g1 _ _ (by omega)).trans (row k (by omega) 0 (by omega))
      have r1 : I' (e + 5 + 2) k = S.sc 1 k 1 := (g1 _ _ (by omega)).trans (row k (by omega) 1 (by omega))
      have cl := cell_lt (P := P) w0 v0 (S.sc 1 k 0) (S.sc 1 k 1)
      refine ps_iload rfl rfl ?_
      refine ps_aload rfl rfl ?_
      refine ps_gfi 6 3 rfl rfl rfl (by first | exact hS0 _ _ | exact hS1 _ _ | exact hS2 _ _ | exact hS3 _ _ | exact hS4 _ _ | exact hS5 _ _ | exact hS6 _ _ | exact hS7 _ _ | exact hS8 _ _ | exact hS9 _ _ | exact hS10 _ _ | exact hS11 _ _ | exact hS12 _ _ | exact hS13 _ _ | exact hS14 _ _ | exact hS15 _ _ | exact hS16 _ _ | exact hS17 _ _ | exact hS18 _ _ | exact hS19 _ _ | exact hS20 _ _ | exact hS21 _ _ | exact hS22 _ _ | exact hS23 _ _ | assumption | rfl) rfl ?_
      rw [show ((I', L, g_R s, 306) : pm_H).1 (e + 5) 3 = nI (S.n 1) from (g1 _ _ (by omega)).trans (hS.1 1 (by omega))]
      refine ps_icmpf rfl (decide_eq_false (nI_ge (by omega) (by omega))) ?_
      refine ps_aload rfl rfl ?_
      refine ps_gfr 10 0 rfl rfl rfl (by first | exact hS0 _ _ | exact hS1 _ _ | exact hS2 _ _ | exact hS3 _ _ | exact hS4 _ _ | exact hS5 _ _ | exact hS6 _ _ | exact hS7 _ _ | exact hS8 _ _ | exact hS9 _ _ | exact hS10 _ _ | exact hS11 _ _ | exact hS12 _ _ | exact hS13 _ _ | exact hS14 _ _ | exact hS15 _ _ | exact hS16 _ _ | exact hS17 _ _ | exact hS18 _ _ | exact hS19 _ _ | exact hS20 _ _ | exact hS21 _ _ | exact hS22 _ _ | exact hS23 _ _ | assumption | rfl) rfl (by first | assumption | rfl) ?_
      refine ps_aload rfl rfl ?_
      refine ps_gfr 10 13 rfl rfl rfl (by first | exact hS0 _ _ | exact hS1 _ _ | exact hS2 _ _ | exact hS3 _ _ | exact hS4 _ _ | exact hS5 _ _ | exact hS6 _ _ | exact hS7 _ _ | exact hS8 _ _ | exact hS9 _ _ | exact hS10 _ _ | exact hS11 _ _ | exact hS12 _ _ | exact hS13 _ _ | exact hS14 _ _ | exact hS15 _ _ | exact hS16 _ _ | exact hS17 _ _ | exact hS18 _ _ | exact hS19 _ _ | exact hS20 _ _ | exact hS21 _ _ | exact hS22 _ _ | exact hS23 _ _ | assumption | rfl) rfl (by first | assumption | rfl) ?_
      refine ps_aload rfl rfl ?_
      refine ps_gfr 6 0 rfl rfl rfl (by first | exact hS0 _ _ | exact hS1 _ _ | exact hS2 _ _ | exact hS3 _ _ | exact hS4 _ _ | exact hS5 _ _ | exact hS6 _ _ | exact hS7 _ _ | exact hS8 _ _ | exact hS9 _ _ | exact hS10 _ _ | exact hS11 _ _ | exact hS12 _ _ | exact hS13 _ _ | exact hS14 _ _ | exact hS15 _ _ | exact hS16 _ _ | exact hS17 _ _ | exact hS18 _ _ | exact hS19 _ _ | exact hS20 _ _ | exact hS21 _ _ | exact hS22 _ _ | exact hS23 _ _ | assumption | rfl) rfl (by first | assumption | rfl) ?_
      refine ps_iload rfl rfl ?_
      refine ps_iald (k) rfl (by first | exact hS0 _ _ | exact hS1 _ _ | exact hS2 _ _ | exact hS3 _ _ | exact hS4 _ _ | exact hS5 _ _ | exact hS6 _ _ | exact hS7 _ _ | exact hS8 _ _ | exact hS9 _ _ | exact hS10 _ _ | exact hS11 _ _ | exact hS12 _ _ | exact hS13 _ _ | exact hS14 _ _ | exact hS15 _ _ | exact hS16 _ _ | exact hS17 _ _ | exact hS18 _ _ | exact hS19 _ _ | exact hS20 _ _ | exact hS21 _ _ | exact hS22 _ _ | exact hS23 _ _ | assumption | rfl) rfl (rfl) (by show k < 12; omega) ?_
      rw [show ((I', L, g_R s, 306) : pm_H).1 (e + 5 + 1) k = S.sc 1 k 0 from r0]
      refine ps_aload rfl rfl ?_
      refine ps_gfr 6 1 rfl rfl rfl (by first | exact hS0 _ _ | exact hS1 _ _ | exact hS2 _ _ | exact hS3 _ _ | exact hS4 _ _ | exact hS5 _ _ | exact hS6 _ _ | exact hS7 _ _ | exact hS8 _ _ | exact hS9 _ _ | exact hS10 _ _ | exact hS11 _ _ | exact hS12 _ _ | exact hS13 _ _ | exact hS14 _ _ | exact hS15 _ _ | exact hS16 _ _ | exact hS17 _ _ | exact hS18 _ _ | exact hS19 _ _ | exact hS20 _ _ | exact hS21 _ _ | exact hS22 _ _ | exact hS23 _ _ | assumption | rfl) rfl (by first | assumption | rfl) ?_
      refine ps_iload rfl rfl ?_
      refine ps_iald (k) rfl (by first | exact hS0 _ _ | exact hS1 _ _ | exact hS2 _ _ | exact hS3 _ _ | exact hS4 _ _ | exact hS5 _ _ | exact hS6 _ _ | exact hS7 _ _ | exact hS8 _ _ | exact hS9 _ _ | exact hS10 _ _ | exact hS11 _ _ | exact hS12 _ _ | exact hS13 _ _ | exact hS14 _ _ | exact hS15 _ _ | exact hS16 _ _ | exact hS17 _ _ | exact hS18 _ _ | exact hS19 _ _ | exact hS20 _ _ | exact hS21 _ _ | exact hS22 _ _ | exact hS23 _ _ | assumption | rfl) rfl (rfl) (by show k < 12; omega) ?_
      rw [show ((I', L, g_R s, 306) : pm_H).1 (e + 5 + 2) k = S.sc 1 k 1 from r1]
      refine pv_k rfl rfl rfl rfl rfl (hS6 _ _) rfl ⟨Nat.zero_le _, Nat.zero_le _⟩ ?_
      refine B_indexOfX hp P' _ _ ?_
      refine pw_c rfl ?_
      refine ps_iast (cellF P (S.sc 1 k 0) (S.sc 1 k 1)) rfl (by first | exact hS0 _ _ | exact hS1 _ _ | exact hS2 _ _ | exact hS3 _ _ | exact hS4 _ _ | exact hS5 _ _ | exact hS6 _ _ | exact hS7 _ _ | exact hS8 _ _ | exact hS9 _ _ | exact hS10 _ _ | exact hS11 _ _ | exact hS12 _ _ | exact hS13 _ _ | exact hS14 _ _ | exact hS15 _ _ | exact hS16 _ _ | exact hS17 _ _ | exact hS18 _ _ | exact hS19 _ _ | exact hS20 _ _ | exact hS21 _ _ | exact hS22 _ _ | exact hS23 _ _ | assumption | rfl) rfl (rfl) (by omega) ?_
      refine ps_iinc rfl rfl ?_
      refine ps_goto rfl ?_
      rw [show nI k + Int32.ofInt 1 = nI (k + 1) from nI_1 k]
      refine ih (k + 1) (by omega) _ (fun a j h => (pu_x (by omega)).trans (g1 a j h)) (fun i hi => ?_)
      show pm_u I' (cm + 1) (cellF P (S.sc 1 k 0) (S.sc 1 k 1)) 1 (cm + 1) i = _
      rw [lsR]
      by_cases ei : i = cellF P (S.sc 1 k 0) (S.sc 1 k 1)
      · rw [if_pos ei, ei, pu_s]
      · rw [if_neg ei, pu_n ei]
        exact g2 i hi
  refine ps_aload rfl rfl ?_
  refine ps_gfr 10 0 rfl rfl rfl (by first | exact hS0 _ _ | exact hS1 _ _ | exact hS2 _ _ | exact hS3 _ _ | exact hS4 _ _ | exact hS5 _ _ | exact hS6 _ _ | exact hS7 _ _ | exact hS8 _ _ | exact hS9 _ _ | exact hS10 _ _ | exact hS11 _ _ | exact hS12 _ _ | exact hS13 _ _ | exact hS14 _ _ | exact hS15 _ _ | exact hS16 _ _ | exact hS17 _ _ | exact hS18 _ _ | exact hS19 _ _ | exact hS20 _ _ | exact hS21 _ _ | exact hS22 _ _ | exact hS23 _ _ | assumption | rfl) rfl (by first | assumption | rfl) ?_
  refine pw_c rfl ?_
  refine ps_aload rfl rfl ?_
  refine ps_gfr 10 13 rfl rfl rfl (by first | exact hS0 _ _ | exact hS1 _ _ | exact hS2 _ _ | exact hS3 _ _ | exact hS4 _ _ | exact hS5 _ _ | exact hS6 _ _ | exact hS7 _ _ | exact hS8 _ _ | exact hS9 _ _ | exact hS10 _ _ | exact hS11 _ _ | exact hS12 _ _ | exact hS13 _ _ | exact hS14 _ _ | exact hS15 _ _ | exact hS16 _ _ | exact hS17 _ _ | exact hS18 _ _ | exact hS19 _ _ | exact hS20 _ _ | exact hS21 _ _ | exact hS22 _ _ | exact hS23 _ _ | assumption | rfl) rfl (by first | assumption | rfl) ?_
  refine ps_gfi 9 6 rfl rfl rfl (by first | exact hS0 _ _ | exact hS1 _ _ | exact hS2 _ _ | exact hS3 _ _ | exact hS4 _ _ | exact hS5 _ _ | exact hS6 _ _ | exact hS7 _ _ | exact hS8 _ _ | exact hS9 _ _ | exact hS10 _ _ | exact hS11 _ _ | exact hS12 _ _ | exact hS13 _ _ | exact hS14 _ _ | exact hS15 _ _ | exact hS16 _ _ | exact hS17 _ _ | exact hS18 _ _ | exact hS19 _ _ | exact hS20 _ _ | exact hS21 _ _ | exact hS22 _ _ | exact hS23 _ _ | assumption | rfl) rfl ?_
  rw [show ((I, L, g_R s, 306) : pm_H).1 p 6 = nI (P.w * P.v) from hP.2.2.1]
  refine pw_c rfl ?_
  refine pw_k rfl rfl rfl rfl ⟨Nat.zero_le _, Nat.zero_le _⟩ ?_
  refine B_fillX (N := 289) hS1 (by omega) n9 0 (fun I1 f1 f2 => ?_)
  refine ps_aload rfl rfl ?_
  refine ps_gfr 10 14 rfl rfl rfl (by first | exact hS0 _ _ | exact hS1 _ _ | exact hS2 _ _ | exact hS3 _ _ | exact hS4 _ _ | exact hS5 _ _ | exact hS6 _ _ | exact hS7 _ _ | exact hS8 _ _ | exact hS9 _ _ | exact hS10 _ _ | exact hS11 _ _ | exact hS12 _ _ | exact hS13 _ _ | exact hS14 _ _ | exact hS15 _ _ | exact hS16 _ _ | exact hS17 _ _ | exact hS18 _ _ | exact hS19 _ _ | exact hS20 _ _ | exact hS21 _ _ | exact hS22 _ _ | exact hS23 _ _ | assumption | rfl) rfl (by first | assumption | rfl) ?_
  refine ps_gfr 5 1 rfl rfl rfl (by first | exact hS0 _ _ | exact hS1 _ _ | exact hS2 _ _ | exact hS3 _ _ | exact hS4 _ _ | exact hS5 _ _ | exact hS6 _ _ | exact hS7 _ _ | exact hS8 _ _ | exact hS9 _ _ | exact hS10 _ _ | exact hS11 _ _ | exact hS12 _ _ | exact hS13 _ _ | exact hS14 _ _ | exact hS15 _ _ | exact hS16 _ _ | exact hS17 _ _ | exact hS18 _ _ | exact hS19 _ _ | exact hS20 _ _ | exact hS21 _ _ | exact hS22 _ _ | exact hS23 _ _ | assumption | rfl) rfl (by first | assumption | rfl) ?_
  refine ps_astore rfl rfl ?_
  refine pw_c rfl ?_
  refine ps_istore rfl rfl ?_
  exact loop (S.n 1) 0 (by omega) I1 f1 f2
theorem B_clearLostX {r : Nat} (hc : isC cm ci) (hp : isP p) (h1 : s ci = some p) (hP : cP I p P.w P.v) (hr : 0 < r ∧ r < 7) {g : Nat → Int32} (hl : ∀ i, i < P.w * P.v → I (cm + 1) i = g i) (kk : ∀ I', (∀ a j, ¬ (a = cm + 1 + r ∧ j < P.w * P.v) → I' a j = I a j) → (∀ i, i < P.w * P.v → I' (cm + 1 + r) i = if g i = 1 then 0 else I (cm + 1 + r) i) → Q [] (I', L, g_R s, 306)) : pm_W (g_P ys) 157 0 [.ref cm, .ref (cm + 1 + r), .retAddr 0] [] (I, L, g_R s, 306) (0, 0) Q := by
  obtain ⟨hS0, hS1, _⟩ := cam_F (ys := ys) (s := s) hc
  obtain ⟨hR10, _, _, _, _, _, _, _, _, hR13, hR14⟩ := cam_R (s := s) hc
  rw [h1] at hR13
  have hS2 : ∀ I L, pm_sh (g_P ys) (I, L, g_R s, 306) (cm + 1 + r) = some (.inr (0, 289)) := by
    obtain ⟨_, z1, z2, z3, z4, z5, z6, z7, _⟩ := cam_F (ys := ys) (s := s) hc
    rcases (show r = 0 ∨ r = 1 ∨ r = 2 ∨ r = 3 ∨ r = 4 ∨ r = 5 ∨ r = 6 by omega) with rfl | rfl | rfl | rfl | rfl | rfl | rfl <;> assumption
  obtain ⟨hS6, _⟩ := pl_F (ys := ys) (s := s) hp
  have cg := isC_ge hc
  have pl := isP_lt hp
  have n9 := hP.2.2.2.2.2
  obtain ⟨t, ht⟩ : ∃ t, t = cm + 1 + r := ⟨_, rfl⟩
  have t9 : cm + 1 < t ∧ t ≤ cm + 7 := by omega
  rw [← ht] at hS2 kk ⊢
  have loop : ∀ d k, k + d = P.w * P.v → ∀ I', (∀ a j, ¬ (a = t ∧ j < P.w * P.v) → I' a j = I a j) → (∀ i, i < P.w * P.v → I' t i = if i < k ∧ g i = 1 then 0 else I t i) → pm_W (g_P ys) 157 2 [.ref cm, .ref t, .int (nI k)] [] (I', L, g_R s, 306) (0, 0) Q := by
    intro d
    induction d with
    | zero =>
      intro k hk I' g1 g2
      refine ps_iload rfl rfl ?_
      refine ps_aload rfl rfl ?_
      refine ps_gfr 10 13 rfl rfl rfl (by first | exact hS0 _ _ | exact hS1 _ _ | exact hS2 _ _ | exact hS3 _ _ | exact hS4 _ _ | exact hS5 _ _ | exact hS6 _ _ | exact hS7 _ _ | exact hS8 _ _ | exact hS9 _ _ | exact hS10 _ _ | exact hS11 _ _ | exact hS12 _ _ | exact hS13 _ _ | exact hS14 _ _ | exact hS15 _ _ | exact hS16 _ _ | exact hS17 _ _ | exact hS18 _ _ | exact hS19 _ _ | exact hS20 _ _ | exact hS21 _ _ | exact hS22 _ _ | exact hS23 _ _ | assumption | rfl) rfl (by first | assumption | rfl) ?_
      refine ps_gfi 9 6 rfl rfl rfl (by first | exact hS0 _ _ | exact hS1 _ _ | exact hS2 _ _ | exact hS3 _ _ | exact hS4 _ _ | exact hS5 _ _ | exact hS6 _ _ | exact hS7 _ _ | exact hS8 _ _ | exact hS9 _ _ | exact hS10 _ _ | exact hS11 _ _ | exact hS12 _ _ | exact hS13 _ _ | exact hS14 _ _ | exact hS15 _ _ | exact hS16 _ _ | exact hS17 _ _ | exact hS18 _ _ | exact hS19 _ _ | exact hS20 _ _ | exact hS21 _ _ | exact hS22 _ _ | exact hS23 _ _ | assumption | rfl) rfl ?_
      rw [show ((I', L, g_R s, 306) : pm_H).1 p 6 = nI (P.w * P.v) from (g1 _ _ (by omega)).trans hP.2.2.1]
      refine ps_icmpt rfl (decide_eq_true (nI_le (by omega) (by omega))) ?_
      refine ps_vret rfl rfl ?_
      refine kk _ g1 (fun i hi => ?_)
      rw [g2 i hi]
      by_cases e : g i = 1
      · rw [if_pos ⟨by omega, e⟩, if_pos e]
      · rw [if_neg (fun z => e z.2), if_neg e]
    | succ d ih =>
      intro k hk I' g1 g2
      have el : I' (cm + 1) k = g k := (g1 _ _ (by omega)).trans (hl k (by omega))
      refine ps_iload rfl rfl ?_
      refine ps_aload rfl rfl ?_
      refine ps_gfr 10 13 rfl rfl rfl (by first | exact hS0 _ _ | exact hS1 _ _ | exact hS2 _ _ | exact hS3 _ _ | exact hS4 _ _ | exact hS5 _ _ | exact hS6 _ _ | exact hS7 _ _ | exact hS8 _ _ | exact hS9 _ _ | exact hS10 _ _ | exact hS11 _ _ | exact hS12 _ _ | exact hS13 _ _ | exact hS14 _ _ | exact hS15 _ _ | exact hS16 _ _ | exact hS17 _ _ | exact hS18 _ _ | exact hS19 _ _ | exact hS20 _ _ | exact hS21 _ _ | exact hS22 _ _ | exact hS23 _ _ | assumption | rfl) rfl (by first | assumption | rfl) ?_
      refine ps_gfi 9 6 rfl rfl rfl (by first | exact hS0 _ _ | exact hS1 _ _ | exact hS2 _ _ | exact hS3 _ _ | exact hS4 _ _ | exact hS5 _ _ | exact hS6 _ _ | exact hS7 _ _ | exact hS8 _ _ | exact hS9 _ _ | exact hS10 _ _ | exact hS11 _ _ | exact hS12 _ _ | exact hS13 _ _ | exact hS14 _ _ | exact hS15 _ _ | exact hS16 _ _ | exact hS17 _ _ | exact hS18 _ _ | exact hS19 _ _ | exact hS20 _ _ | exact hS21 _ _ | exact hS22 _ _ | exact hS23 _ _ | assumption | rfl) rfl ?_
      rw [show ((I', L, g_R s, 306) : pm_H).1 p 6 = nI (P.w * P.v) from (g1 _ _ (by omega)).trans hP.2.2.1]
      refine ps_icmpf rfl (decide_eq_false (nI_ge (by omega) (by omega))) ?_
      refine ps_aload rfl rfl ?_
      refine ps_gfr 10 0 rfl rfl rfl (by first | exact hS0 _ _ | exact hS1 _ _ | exact hS2 _ _ | exact hS3 _ _ | exact hS4 _ _ | exact hS5 _ _ | exact hS6 _ _ | exact hS7 _ _ | exact hS8 _ _ | exact hS9 _ _ | exact hS10 _ _ | exact hS11 _ _ | exact hS12 _ _ | exact hS13 _ _ | exact hS14 _ _ | exact hS15 _ _ | exact hS16 _ _ | exact hS17 _ _ | exact hS18 _ _ | exact hS19 _ _ | exact hS20 _ _ | exact hS21 _ _ | exact hS22 _ _ | exact hS23 _ _ | assumption | rfl) rfl (by first | assumption | rfl) ?_
      refine ps_iload rfl rfl ?_
      refine ps_iald (k) rfl (by first | exact hS0 _ _ | exact hS1 _ _ | exact hS2 _ _ | exact hS3 _ _ | exact hS4 _ _ | exact hS5 _ _ | exact hS6 _ _ | exact hS7 _ _ | exact hS8 _ _ | exact hS9 _ _ | exact hS10 _ _ | exact hS11 _ _ | exact hS12 _ _ | exact hS13 _ _ | exact hS14 _ _ | exact hS15 _ _ | exact hS16 _ _ | exact hS17 _ _ | exact hS18 _ _ | exact hS19 _ _ | exact hS20 _ _ | exact hS21 _ _ | exact hS22 _ _ | exact hS23 _ _ | assumption | rfl) rfl (rfl) (by omega) ?_
      rw [show ((I', L, g_R s, 306) : pm_H).1 (cm + 1) k = g k from el]
      by_cases e : g k = 1
      · refine pw_c rfl ?_
        refine ps_icmpf rfl (decide_eq_false (fun z => z e)) ?_
        refine ps_aload rfl rfl ?_
        refine ps_iload rfl rfl ?_
        refine pw_c rfl ?_
        refine ps_iast (k) rfl (by first | exact hS0 _ _ | exact hS1 _ _ | exact hS2 _ _ | exact hS3 _ _ | exact hS4 _ _ | exact hS5 _ _ | exact hS6 _ _ | exact hS7 _ _ | exact hS8 _ _ | exact hS9 _ _ | exact hS10 _ _ | exact hS11 _ _ | exact hS12 _ _ | exact hS13 _ _ | exact hS14 _ _ | exact hS15 _ _ | exact hS16 _ _ | exact hS17 _ _ | exact hS18 _ _ | exact hS19 _ _ | exact hS20 _ _ | exact hS21 _ _ | exact hS22 _ _ | exact hS23 _ _ | assumption | rfl) rfl (rfl) (by omega) ?_
        refine ps_iinc rfl rfl ?_
        refine ps_goto rfl ?_
        rw [show nI k + Int32.ofInt 1 = nI (k + 1) from nI_1 k]
        refine ih (k + 1) (by omega) _ (fun a j h => (pu_x (by omega)).trans (g1 a j h)) (fun i hi => ?_)
        show pm_u I' t k 0 t i = _
        by_cases ei : i = k
        · rw [ei, pu_s, if_pos ⟨by omega, e⟩]
        · rw [pu_n ei, g2 i hi]
          by_cases e2 : i < k ∧ g i = 1
          · rw [if_pos e2, if_pos ⟨by omega, e2.2⟩]
          · rw [if_neg e2, if_neg (fun z => e2 ⟨by omega, z.2⟩)]
      · refine pw_c rfl ?_
        refine ps_icmpt rfl (decide_eq_true e) ?_
        refine ps_iinc rfl rfl ?_
        refine ps_goto rfl ?_
        rw [show nI k + Int32.ofInt 1 = nI (k + 1) from nI_1 k]
        refine ih (k + 1) (by omega) I' g1 (fun i hi => ?_)
        rw [g2 i hi]
        by_cases ei : i = k
        · rw [ei, if_neg (by omega), if_neg (fun z => e z.2)]
        · by_cases e2 : i < k ∧ g i = 1
          · rw [if_pos e2, if_pos ⟨by omega, e2.2⟩]
          · rw [if_neg e2, if_neg (fun z => e2 ⟨by omega, z.2⟩)]
  refine pw_c rfl ?_
  refine ps_istore rfl rfl ?_
  refine loop (P.w * P.v) 0 (by omega) I (fun _ _ _ => rfl) (fun i hi => ?_)
  rw [if_neg (by omega)]
end TK
