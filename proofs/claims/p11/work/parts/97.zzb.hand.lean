/-! BY HAND: the class's differences, window, alike, exactly -/
section TC
variable {I I' J : Nat → Nat → Int32} {L : Nat → Nat → Int64} {s : Nat → Option Nat} {Q : List Value → pm_H → Prop} {ys : List Int32} {p b c w v n r : Nat} {B : sB}
/-- one's HOLES are the other's, turned by dx, dy -/
theorem B_hasHolesX {w2 v2 : Nat} (hp : isP p) (hr : isP r) (hP : cP I p w v) (hR : cP I r w v) (dx dy : Nat) (hx : dx < 1000) (hy : dy < 1000) (kY : (∀ j, j < w * v → I (p + 1) j = I (r + 1) (cxy w v (((j % w : Nat) : Int) + dx) (((j / w : Nat) : Int) + dy))) → Q [.int 1] (I, L, g_R s, 306)) (kN : (∃ j, j < w * v ∧ ¬ I (p + 1) j = I (r + 1) (cxy w v (((j % w : Nat) : Int) + dx) (((j / w : Nat) : Int) + dy))) → Q [.int 0] (I, L, g_R s, 306)) : pm_W (g_P ys) 96 0 [.ref p, .ref r, .int (nI dx), .int (nI dy), .retAddr 0] [] (I, L, g_R s, 306) (0, 0) Q := by
  obtain ⟨hS0, hS1, hS2, hS3, hR0, hR1, hR2⟩ := pl_F (ys := ys) (s := s) hp
  obtain ⟨hS4, hS5, hS6, hS7, hR4, hR5, hR6⟩ := pl_F (ys := ys) (s := s) hr
  obtain ⟨wb, vb⟩ := cP_b hP
  have n289 := hP.2.2.2.2.2
  have w0 := hP.2.2.2.1
  have v0 := hP.2.2.2.2.1
  have loop : ∀ d i, i + d = w * v → (∀ j, j < i → I (p + 1) j = I (r + 1) (cxy w v (((j % w : Nat) : Int) + dx) (((j / w : Nat) : Int) + dy))) → pm_W (g_P ys) 96 3 [.ref p, .ref r, .int (nI dx), .int (nI dy), .int (nI i)] [] (I, L, g_R s, 306) (0, 0) Q := by
    intro d
    induction d with
    | zero =>
      intro i hi h
      refine ps_iload rfl rfl ?_
      refine ps_aload rfl rfl ?_
      refine ps_gfi 9 6 rfl rfl rfl (by first | exact hS0 _ _ | exact hS1 _ _ | exact hS2 _ _ | exact hS3 _ _ | exact hS4 _ _ | exact hS5 _ _ | exact hS6 _ _ | exact hS7 _ _ | exact hS8 _ _ | exact hS9 _ _ | exact hS10 _ _ | exact hS11 _ _ | exact hS12 _ _ | exact hS13 _ _ | exact hS14 _ _ | exact hS15 _ _ | exact hS16 _ _ | exact hS17 _ _ | exact hS18 _ _ | exact hS19 _ _ | exact hS20 _ _ | exact hS21 _ _ | exact hS22 _ _ | exact hS23 _ _ | assumption | rfl) rfl ?_
      rw [show ((I, L, g_R s, 306) : pm_H).1 p 6 = nI (w * v) from hP.2.2.1]
      refine ps_icmpt rfl (decide_eq_true (nI_le (by omega) (by omega))) ?_
      refine pw_c rfl ?_
      refine ps_zret rfl rfl (Or.inr rfl) ?_
      exact kY (fun j hj => h j (by omega))
    | succ d ih =>
      intro i hi h
      have x9 := Nat.mod_lt i w0
      have y9 : i / w ≤ i := Nat.div_le_self _ _
      have cl := cxy_lt w0 v0 (((i % w : Nat) : Int) + dx) (((i / w : Nat) : Int) + dy)
      refine ps_iload rfl rfl ?_
      refine ps_aload rfl rfl ?_
      refine ps_gfi 9 6 rfl rfl rfl (by first | exact hS0 _ _ | exact hS1 _ _ | exact hS2 _ _ | exact hS3 _ _ | exact hS4 _ _ | exact hS5 _ _ | exact hS6 _ _ | exact hS7 _ _ | exact hS8 _ _ | exact hS9 _ _ | exact hS10 _ _ | exact hS11 _ _ | exact hS12 _ _ | exact hS13 _ _ | exact hS14 _ _ | exact hS15 _ _ | exact hS16 _ _ | exact hS17 _ _ | exact hS18 _ _ | exact hS19 _ _ | exact hS20 _ _ | exact hS21 _ _ | exact hS22 _ _ | exact hS23 _ _ | assumption | rfl) rfl ?_
      rw [show ((I, L, g_R s, 306) : pm_H).1 p 6 = nI (w * v) from hP.2.2.1]
      refine ps_icmpf rfl (decide_eq_false (nI_ge (by omega) (by omega))) ?_
      refine ps_aload rfl rfl ?_
      refine ps_gfr 9 0 rfl rfl rfl (by first | exact hS0 _ _ | exact hS1 _ _ | exact hS2 _ _ | exact hS3 _ _ | exact hS4 _ _ | exact hS5 _ _ | exact hS6 _ _ | exact hS7 _ _ | exact hS8 _ _ | exact hS9 _ _ | exact hS10 _ _ | exact hS11 _ _ | exact hS12 _ _ | exact hS13 _ _ | exact hS14 _ _ | exact hS15 _ _ | exact hS16 _ _ | exact hS17 _ _ | exact hS18 _ _ | exact hS19 _ _ | exact hS20 _ _ | exact hS21 _ _ | exact hS22 _ _ | exact hS23 _ _ | assumption | rfl) rfl (by first | assumption | rfl) ?_
      refine ps_iload rfl rfl ?_
      refine ps_iald (i) rfl (by first | exact hS0 _ _ | exact hS1 _ _ | exact hS2 _ _ | exact hS3 _ _ | exact hS4 _ _ | exact hS5 _ _ | exact hS6 _ _ | exact hS7 _ _ | exact hS8 _ _ | exact hS9 _ _ | exact hS10 _ _ | exact hS11 _ _ | exact hS12 _ _ | exact hS13 _ _ | exact hS14 _ _ | exact hS15 _ _ | exact hS16 _ _ | exact hS17 _ _ | exact hS18 _ _ | exact hS19 _ _ | exact hS20 _ _ | exact hS21 _ _ | exact hS22 _ _ | exact hS23 _ _ | assumption | rfl) rfl (rfl) (by omega) ?_
      refine ps_aload rfl rfl ?_
      refine ps_gfr 9 0 rfl rfl rfl (by first | exact hS0 _ _ | exact hS1 _ _ | exact hS2 _ _ | exact hS3 _ _ | exact hS4 _ _ | exact hS5 _ _ | exact hS6 _ _ | exact hS7 _ _ | exact hS8 _ _ | exact hS9 _ _ | exact hS10 _ _ | exact hS11 _ _ | exact hS12 _ _ | exact hS13 _ _ | exact hS14 _ _ | exact hS15 _ _ | exact hS16 _ _ | exact hS17 _ _ | exact hS18 _ _ | exact hS19 _ _ | exact hS20 _ _ | exact hS21 _ _ | exact hS22 _ _ | exact hS23 _ _ | assumption | rfl) rfl (by first | assumption | rfl) ?_
      refine ps_aload rfl rfl ?_
      refine ps_aload rfl rfl ?_
      refine ps_iload rfl rfl ?_
      refine pv_k rfl rfl rfl rfl rfl (hS0 _ _) rfl ⟨Nat.zero_le _, Nat.zero_le _⟩ ?_
      refine B_xOfX hp hP (by omega) ?_
      refine ps_iload rfl rfl ?_
      refine ps_ar rfl rfl rfl rfl rfl ?_
      rw [nI_add]
      refine ps_aload rfl rfl ?_
      refine ps_iload rfl rfl ?_
      refine pv_k rfl rfl rfl rfl rfl (hS0 _ _) rfl ⟨Nat.zero_le _, Nat.zero_le _⟩ ?_
      refine B_yOfX hp hP (by omega) ?_
      refine ps_iload rfl rfl ?_
      refine ps_ar rfl rfl rfl rfl rfl ?_
      rw [nI_add]
      refine pv_k rfl rfl rfl rfl rfl (hS4 _ _) rfl ⟨Nat.zero_le _, Nat.zero_le _⟩ ?_
      refine B_indexOfX hr hR _ _ ?_
      rw [nI_toInt (by omega), nI_toInt (by omega), Int.natCast_add, Int.natCast_add]
      refine ps_iald (cxy w v (((i % w : Nat) : Int) + dx) (((i / w : Nat) : Int) + dy)) rfl (by first | exact hS0 _ _ | exact hS1 _ _ | exact hS2 _ _ | exact hS3 _ _ | exact hS4 _ _ | exact hS5 _ _ | exact hS6 _ _ | exact hS7 _ _ | exact hS8 _ _ | exact hS9 _ _ | exact hS10 _ _ | exact hS11 _ _ | exact hS12 _ _ | exact hS13 _ _ | exact hS14 _ _ | exact hS15 _ _ | exact hS16 _ _ | exact hS17 _ _ | exact hS18 _ _ | exact hS19 _ _ | exact hS20 _ _ | exact hS21 _ _ | exact hS22 _ _ | exact hS23 _ _ | assumption | rfl) rfl (rfl) (by omega) ?_
      by_cases e : I (p + 1) i = I (r + 1) (cxy w v (((i % w : Nat) : Int) + dx) (((i / w : Nat) : Int) + dy))
      · refine ps_icmpt rfl (decide_eq_true e) ?_
        refine ps_iinc rfl rfl ?_
        refine ps_goto rfl ?_
        rw [show nI i + Int32.ofInt 1 = nI (i + 1) from nI_1 i]
        refine ih (i + 1) (by omega) (fun j hj => ?_)
        by_cases ej : j = i
        · rw [ej]
          exact e
        · exact h j (by omega)
      · refine ps_icmpf rfl (decide_eq_false e) ?_
        refine pw_c rfl ?_
        refine ps_zret rfl rfl (Or.inl rfl) ?_
        exact kN ⟨i, by omega, e⟩
  refine pw_c rfl ?_
  refine ps_istore rfl rfl ?_
  exact loop (w * v) 0 (by omega) (fun j hj => absurd hj (by omega))
def alkP (P R : sPl) : Prop := P.w = R.w ∧ P.v = R.v ∧ ∃ i, i < P.w * P.v ∧ ∀ j, j < P.w * P.v → P.ho j = R.ho (cxy P.w P.v (((j % P.w : Nat) : Int) + ((i % P.w : Nat) : Int)) (((j / P.w : Nat) : Int) + ((i / P.w : Nat) : Int)))
/-- a plate of the class, in full but for its SIDES -/
def cPq (I : Nat → Nat → Int32) (p : Nat) (P : sPl) : Prop := cP I p P.w P.v ∧ I p 3 = P.nm ∧ I p 7 = suI P.ho (P.w * P.v) ∧ I p 8 = suI P.we (P.w * P.v) ∧ ∀ i, i < P.w * P.v → I (p + 1) i = P.ho i ∧ I (p + 2) i = P.we i
theorem alk_ho {P R : sPl} (w0 : 0 < P.w) (v0 : 0 < P.v) (h : alkP P R) : suI P.ho (P.w * P.v) = suI R.ho (R.w * R.v) := by
  obtain ⟨e1, e2, i, hi, hj⟩ := h
  rw [← e1, ← e2, ← suI_turn (f := R.ho) w0 v0 ((i % P.w : Nat) : Int) ((i / P.w : Nat) : Int)]
  exact suI_congr hj
theorem B_isTurnedX {P R : sPl} (hp : isP p) (hr : isP r) (hP : cPq I p P) (hR : cPq I r R) (kY : alkP P R → Q [.int 1] (I, L, g_R s, 306)) (kN : ¬ alkP P R → Q [.int 0] (I, L, g_R s, 306)) : pm_W (g_P ys) 95 0 [.ref p, .ref r, .retAddr 0] [] (I, L, g_R s, 306) (0, 0) Q := by
  obtain ⟨hS0, hS1, hS2, hS3, hR0, hR1, hR2⟩ := pl_F (ys := ys) (s := s) hp
  obtain ⟨hS4, hS5, hS6, hS7, hR4, hR5, hR6⟩ := pl_F (ys := ys) (s := s) hr
  obtain ⟨wb, vb⟩ := cP_b hP.1
  obtain ⟨wb2, vb2⟩ := cP_b hR.1
  have n289 := hP.1.2.2.2.2.2
  have w0 := hP.1.2.2.2.1
  have v0 := hP.1.2.2.2.2.1
  have no : ¬ alkP P R → pm_W (g_P ys) 95 33 [.ref p, .ref r, .retAddr 0] [] (I, L, g_R s, 306) (0, 0) Q := by
    intro z
    refine pw_c rfl ?_
    refine ps_zret rfl rfl (Or.inl rfl) ?_
    exact kN z
  refine ps_aload rfl rfl ?_
  refine ps_gfi 9 4 rfl rfl rfl (by first | exact hS0 _ _ | exact hS1 _ _ | exact hS2 _ _ | exact hS3 _ _ | exact hS4 _ _ | exact hS5 _ _ | exact hS6 _ _ | exact hS7 _ _ | exact hS8 _ _ | exact hS9 _ _ | exact hS10 _ _ | exact hS11 _ _ | exact hS12 _ _ | exact hS13 _ _ | exact hS14 _ _ | exact hS15 _ _ | exact hS16 _ _ | exact hS17 _ _ | exact hS18 _ _ | exact hS19 _ _ | exact hS20 _ _ | exact hS21 _ _ | exact hS22 _ _ | exact hS23 _ _ | assumption | rfl) rfl ?_
  rw [show ((I, L, g_R s, 306) : pm_H).1 p 4 = nI P.w from hP.1.1]
  refine ps_aload rfl rfl ?_
  refine ps_gfi 9 4 rfl rfl rfl (by first | exact hS0 _ _ | exact hS1 _ _ | exact hS2 _ _ | exact hS3 _ _ | exact hS4 _ _ | exact hS5 _ _ | exact hS6 _ _ | exact hS7 _ _ | exact hS8 _ _ | exact hS9 _ _ | exact hS10 _ _ | exact hS11 _ _ | exact hS12 _ _ | exact hS13 _ _ | exact hS14 _ _ | exact hS15 _ _ | exact hS16 _ _ | exact hS17 _ _ | exact hS18 _ _ | exact hS19 _ _ | exact hS20 _ _ | exact hS21 _ _ | exact hS22 _ _ | exact hS23 _ _ | assumption | rfl) rfl ?_
  rw [show ((I, L, g_R s, 306) : pm_H).1 r 4 = nI R.w from hR.1.1]
  by_cases e1 : P.w = R.w
  · refine ps_icmpf rfl (decide_eq_false (fun z => z (by rw [e1]))) ?_
    refine ps_aload rfl rfl ?_
    refine ps_gfi 9 5 rfl rfl rfl (by first | exact hS0 _ _ | exact hS1 _ _ | exact hS2 _ _ | exact hS3 _ _ | exact hS4 _ _ | exact hS5 _ _ | exact hS6 _ _ | exact hS7 _ _ | exact hS8 _ _ | exact hS9 _ _ | exact hS10 _ _ | exact hS11 _ _ | exact hS12 _ _ | exact hS13 _ _ | exact hS14 _ _ | exact hS15 _ _ | exact hS16 _ _ | exact hS17 _ _ | exact hS18 _ _ | exact hS19 _ _ | exact hS20 _ _ | exact hS21 _ _ | exact hS22 _ _ | exact hS23 _ _ | assumption | rfl) rfl ?_
    rw [show ((I, L, g_R s, 306) : pm_H).1 p 5 = nI P.v from hP.1.2.1]
    refine ps_aload rfl rfl ?_
    refine ps_gfi 9 5 rfl rfl rfl (by first | exact hS0 _ _ | exact hS1 _ _ | exact hS2 _ _ | exact hS3 _ _ | exact hS4 _ _ | exact hS5 _ _ | exact hS6 _ _ | exact hS7 _ _ | exact hS8 _ _ | exact hS9 _ _ | exact hS10 _ _ | exact hS11 _ _ | exact hS12 _ _ | exact hS13 _ _ | exact hS14 _ _ | exact hS15 _ _ | exact hS16 _ _ | exact hS17 _ _ | exact hS18 _ _ | exact hS19 _ _ | exact hS20 _ _ | exact hS21 _ _ | exact hS22 _ _ | exact hS23 _ _ | assumption | rfl) rfl ?_
    rw [show ((I, L, g_R s, 306) : pm_H).1 r 5 = nI R.v from hR.1.2.1]
    by_cases e2 : P.v = R.v
    · refine ps_icmpf rfl (decide_eq_false (fun z => z (by rw [e2]))) ?_
      refine ps_aload rfl rfl ?_
      refine ps_gfi 9 7 rfl rfl rfl (by first | exact hS0 _ _ | exact hS1 _ _ | exact hS2 _ _ | exact hS3 _ _ | exact hS4 _ _ | exact hS5 _ _ | exact hS6 _ _ | exact hS7 _ _ | exact hS8 _ _ | exact hS9 _ _ | exact hS10 _ _ | exact hS11 _ _ | exact hS12 _ _ | exact hS13 _ _ | exact hS14 _ _ | exact hS15 _ _ | exact hS16 _ _ | exact hS17 _ _ | exact hS18 _ _ | exact hS19 _ _ | exact hS20 _ _ | exact hS21 _ _ | exact hS22 _ _ | exact hS23 _ _ | assumption | rfl) rfl ?_
      rw [show ((I, L, g_R s, 306) : pm_H).1 p 7 = suI P.ho (P.w * P.v) from hP.2.2.1]
      refine ps_aload rfl rfl ?_
      refine ps_gfi 9 7 rfl rfl rfl (by first | exact hS0 _ _ | exact hS1 _ _ | exact hS2 _ _ | exact hS3 _ _ | exact hS4 _ _ | exact hS5 _ _ | exact hS6 _ _ | exact hS7 _ _ | exact hS8 _ _ | exact hS9 _ _ | exact hS10 _ _ | exact hS11 _ _ | exact hS12 _ _ | exact hS13 _ _ | exact hS14 _ _ | exact hS15 _ _ | exact hS16 _ _ | exact hS17 _ _ | exact hS18 _ _ | exact hS19 _ _ | exact hS20 _ _ | exact hS21 _ _ | exact hS22 _ _ | exact hS23 _ _ | assumption | rfl) rfl ?_
      rw [show ((I, L, g_R s, 306) : pm_H).1 r 7 = suI R.ho (R.w * R.v) from hR.2.2.1]
      by_cases e3 : suI P.ho (P.w * P.v) = suI R.ho (R.w * R.v)
      · have hR' : cP I r P.w P.v := by
          rw [e1, e2]
          exact hR.1
        have rows : ∀ j, j < P.w * P.v → I (p + 1) j = P.ho j := fun j hj => (hP.2.2.2.2 j hj).1
        have rows2 : ∀ j, j < P.w * P.v → I (r + 1) j = R.ho j := fun j hj => (hR.2.2.2.2 j (by rw [← e1, ← e2]; exact hj)).1
        have loop : ∀ d i, i + d = P.w * P.v → (∀ k, k < i → ¬ ∀ j, j < P.w * P.v → P.ho j = R.ho (cxy P.w P.v (((j % P.w : Nat) : Int) + ((k % P.w : Nat) : Int)) (((j / P.w : Nat) : Int) + ((k / P.w : Nat) : Int)))) → pm_W (g_P ys) 95 37 [.ref p, .ref r, .int (nI i)] [] (I, L, g_R s, 306) (0, 0) Q := by
          intro d
          induction d with
          | zero =>
            intro i hi h
            refine ps_iload rfl rfl ?_
            refine ps_aload rfl rfl ?_
            refine ps_gfi 9 6 rfl rfl rfl (by first | exact hS0 _ _ | exact hS1 _ _ | exact hS2 _ _ | exact hS3 _ _ | exact hS4 _ _ | exact hS5 _ _ | exact hS6 _ _ | exact hS7 _ _ | exact hS8 _ _ | exact hS9 _ _ | exact hS10 _ _ | exact hS11 _ _ | exact hS12 _ _ | exact hS13 _ _ | exact hS14 _ _ | exact hS15 _ _ | exact hS16 _ _ | exact hS17 _ _ | exact hS18 _ _ | exact hS19 _ _ | exact hS20 _ _ | exact hS21 _ _ | exact hS22 _ _ | exact hS23 _ _ | assumption | rfl) rfl ?_
            rw [show ((I, L, g_R s, 306) : pm_H).1 p 6 = nI (P.w * P.v) from hP.1.2.2.1]
            refine ps_icmpt rfl (decide_eq_true (nI_le (by omega) (by omega))) ?_
            refine pw_c rfl ?_
            refine ps_zret rfl rfl (Or.inl rfl) ?_
            refine kN (fun z => ?_)
            obtain ⟨_, _, k, hk, hj⟩ := z
            exact h k (by omega) hj
          | succ d ih =>
            intro i hi h
            have x9 := Nat.mod_lt i w0
            have y9 : i / P.w ≤ i := Nat.div_le_self _ _
            refine ps_iload rfl rfl ?_
            refine ps_aload rfl rfl ?_
            refine ps_gfi 9 6 rfl rfl rfl (by first | exact hS0 _ _ | exact hS1 _ _ | exact hS2 _ _ | exact hS3 _ _ | exact hS4 _ _ | exact hS5 _ _ | exact hS6 _ _ | exact hS7 _ _ | exact hS8 _ _ | exact hS9 _ _ | exact hS10 _ _ | exact hS11 _ _ | exact hS12 _ _ | exact hS13 _ _ | exact hS14 _ _ | exact hS15 _ _ | exact hS16 _ _ | exact hS17 _ _ | exact hS18 _ _ | exact hS19 _ _ | exact hS20 _ _ | exact hS21 _ _ | exact hS22 _ _ | exact hS23 _ _ | assumption | rfl) rfl ?_
            rw [show ((I, L, g_R s, 306) : pm_H).1 p 6 = nI (P.w * P.v) from hP.1.2.2.1]
            refine ps_icmpf rfl (decide_eq_false (nI_ge (by omega) (by omega))) ?_
            refine ps_aload rfl rfl ?_
            refine ps_aload rfl rfl ?_
            refine ps_aload rfl rfl ?_
            refine ps_iload rfl rfl ?_
            refine pv_k rfl rfl rfl rfl rfl (hS0 _ _) rfl ⟨Nat.zero_le _, Nat.zero_le _⟩ ?_
            refine B_xOfX hp hP.1 (by omega) ?_
            refine ps_aload rfl rfl ?_
            refine ps_iload rfl rfl ?_
            refine pv_k rfl rfl rfl rfl rfl (hS0 _ _) rfl ⟨Nat.zero_le _, Nat.zero_le _⟩ ?_
            refine B_yOfX hp hP.1 (by omega) ?_
            refine pv_k rfl rfl rfl rfl rfl (hS0 _ _) rfl ⟨Nat.zero_le _, Nat.zero_le _⟩ ?_
            refine B_hasHolesX (w2 := 0) (v2 := 0) hp hr hP.1 hR' (i % P.w) (i / P.w) (by omega) (by omega) (fun z => ?_) (fun z => ?_)
            · refine ps_iff rfl (rfl) ?_
              refine pw_c rfl ?_
              refine ps_zret rfl rfl (Or.inr rfl) ?_
              refine kY ⟨e1, e2, i, by omega, fun j hj => ?_⟩
              have y := z j hj
              rw [rows j hj, rows2 _ (cxy_lt w0 v0 _ _)] at y
              exact y
            · refine ps_ift rfl (rfl) ?_
              refine ps_iinc rfl rfl ?_
              refine ps_goto rfl ?_
              rw [show nI i + Int32.ofInt 1 = nI (i + 1) from nI_1 i]
              refine ih (i + 1) (by omega) (fun k hk y => ?_)
              by_cases ek : k = i
              · rw [ek] at y
                obtain ⟨j, hj, ne⟩ := z
                rw [rows j hj, rows2 _ (cxy_lt w0 v0 _ _)] at ne
                exact ne (y j hj)
              · exact h k (by omega) y
        refine ps_icmpt rfl (decide_eq_true e3) ?_
        refine pw_c rfl ?_
        refine ps_istore rfl rfl ?_
        exact loop (P.w * P.v) 0 (by omega) (fun k hk => absurd hk (by omega))
      · refine ps_icmpf rfl (decide_eq_false e3) ?_
        exact no (fun z => e3 (alk_ho w0 v0 z))
    · refine ps_icmpt rfl (decide_eq_true (fun z => e2 (nI_eqv (by omega) (by omega) z))) ?_
      exact no (fun z => e2 z.2.1)
  · refine ps_icmpt rfl (decide_eq_true (fun z => e1 (nI_eqv (by omega) (by omega) z))) ?_
    exact no (fun z => e1 z.1)
theorem cBq_p (h : cBq b B I) {k : Nat} (hk : k < B.ps) : cPq I (b + 17 + 4 * k) (B.pl k) := h.2 k hk
/-- a number of a PLATE -/
theorem B_plate6 (hb : isB b) (hB : cBq b B I) (p6 : B.ps ≤ 6) (x : Int32) (kY : ∀ k, k < B.ps → x = nI k → Q [.ref (b + 17 + 4 * k)] (I, L, g_R s, 306)) (kN : ¬ (0 ≤ x.toInt ∧ x.toInt < B.ps) → Q [.null] (I, L, g_R s, 306)) : pm_W (g_P ys) 56 0 [.ref b, .int x] [] (I, L, g_R s, 306) (0, 0) Q := by
  by_cases hk : 0 ≤ x.toInt ∧ x.toInt < B.ps
  · obtain ⟨i, hi⟩ : ∃ i, i = x.toInt.toNat := ⟨_, rfl⟩
    have ek := nI_oz hi hk.1
    subst ek
    exact B_plateOfX hb hB.1 p6 (k := i) (by omega) (kY i (by omega) rfl)
  · exact B_plateOfN hb hB.1 p6 hk (kN hk)
/-- which PLATE -/
def plN (B : sB) (x : Int32) : Option Nat := if 0 ≤ x.toInt ∧ x.toInt < B.ps then some x.toInt.toNat else none
theorem plN_y {k : Nat} {x : Int32} (hk : k < B.ps) (p6 : B.ps ≤ 6) (e : x = nI k) : plN B x = some k := by
  unfold plN
  rw [e, nI_toInt (by omega), if_pos (by omega)]
  rfl
theorem plN_n {x : Int32} (h : ¬ (0 ≤ x.toInt ∧ x.toInt < B.ps)) : plN B x = none := by
  unfold plN
  rw [if_neg h]
theorem plN_s {k : Nat} {x : Int32} (h : plN B x = some k) : k < B.ps ∧ x = nI k := by
  unfold plN at h
  split at h
  · rename_i h1
    cases h
    exact ⟨by omega, nI_oz rfl h1.1⟩
  · cases h
end TC
