/-! BY HAND: the class's camera, exactly, fifth: filled, frames, anti (printed by wip/src/gen97zzm.py) -/
section TO
variable {I I' J : Nat → Nat → Int32} {L : Nat → Nat → Int64} {s s' : Nat → Option Nat} {Q : List Value → pm_H → Prop} {ys : List Int32} {p e m t cm ci r : Nat} {P : sPl} {S : sS} {g : Nat → Int32} {h : pm_H}
def tbG (P : sPl) (S : sS) (i : Nat) : Nat → Int32 := fun n => fnC P S n * onF P (fnP P S n) i
/-- what all that is found throws on the CELL i -/
def tbF (P : sPl) (S : sS) (i : Nat) : Int32 := suI (tbG P S i) (fdN P S)
theorem B_thrownByFoundX {i : Nat} (hV : cV cm ci p e s P S I) (hg : cSg cm P S I) (hi : i < P.w * P.v) (kk : Q [.int (tbF P S i)] (I, L, g_R s, 306)) : pm_W (g_P ys) 161 0 [.ref cm, .int (nI i), .retAddr 0, .retAddr 0] [] (I, L, g_R s, 306) (0, 0) Q := by
  have hV0 := hV
  obtain ⟨hc, hp, he, h1, h2, hP, hS, ok⟩ := hV
  have cg := isC_ge hc
  have el := isE_lt he
  have pl := isP_lt hp
  have w0 := hP.1.2.2.2.1
  have v0 := hP.1.2.2.2.2.1
  have n9 := hP.1.2.2.2.2.2
  have n0 : 0 < P.w * P.v := Nat.mul_pos w0 v0
  obtain ⟨hS0, hS1, hS2, hS3, hS4, hS5, hS6, hS7, hS8, hS9⟩ := cam_F (ys := ys) (s := s) hc
  obtain ⟨hR0, hR1, hR2, hR3, hR4, hR5, hR6, hR7, hR8, hR13, hR14⟩ := cam_R (s := s) hc
  rw [h1] at hR13
  rw [h2] at hR14
  obtain ⟨hS10, hS11, hS12, hS13, hR15, hR16, hR17⟩ := pl_F (ys := ys) (s := s) hp
  obtain ⟨hS14, hR18, hR19, hR20⟩ := en_F (ys := ys) (s := s) he
  have n8 := fdN_le (P := P) (S := S)
  have loop : ∀ d k, k + d = fdN P S → pm_W (g_P ys) 161 4 [.ref cm, .int (nI i), .int (suI (tbG P S i) k), .int (nI k)] [] (I, L, g_R s, 306) (0, 0) Q := by
    intro d
    induction d with
    | zero =>
      intro k hk
      refine ps_iload rfl rfl ?_
      refine ps_aload rfl rfl ?_
      refine ps_gfi 10 9 rfl rfl rfl (by first | exact hS0 _ _ | exact hS1 _ _ | exact hS2 _ _ | exact hS3 _ _ | exact hS4 _ _ | exact hS5 _ _ | exact hS6 _ _ | exact hS7 _ _ | exact hS8 _ _ | exact hS9 _ _ | exact hS10 _ _ | exact hS11 _ _ | exact hS12 _ _ | exact hS13 _ _ | exact hS14 _ _ | exact hS15 _ _ | exact hS16 _ _ | exact hS17 _ _ | exact hS18 _ _ | exact hS19 _ _ | exact hS20 _ _ | exact hS21 _ _ | exact hS22 _ _ | exact hS23 _ _ | assumption | rfl) rfl ?_
      rw [show ((I, L, g_R s, 306) : pm_H).1 cm 9 = nI (fdN P S) from hg.2.1]
      refine ps_icmpt rfl (decide_eq_true (nI_le (by omega) (by omega))) ?_
      refine ps_iload rfl rfl ?_
      refine ps_iret rfl rfl ?_
      rw [show k = fdN P S by omega]
      exact kk
    | succ d ih =>
      intro k hk
      have z := ih (k + 1) (by omega)
      rw [suI_s] at z
      have p9 : fnP P S k < P.w * P.v := pgF_lt n0
      refine ps_iload rfl rfl ?_
      refine ps_aload rfl rfl ?_
      refine ps_gfi 10 9 rfl rfl rfl (by first | exact hS0 _ _ | exact hS1 _ _ | exact hS2 _ _ | exact hS3 _ _ | exact hS4 _ _ | exact hS5 _ _ | exact hS6 _ _ | exact hS7 _ _ | exact hS8 _ _ | exact hS9 _ _ | exact hS10 _ _ | exact hS11 _ _ | exact hS12 _ _ | exact hS13 _ _ | exact hS14 _ _ | exact hS15 _ _ | exact hS16 _ _ | exact hS17 _ _ | exact hS18 _ _ | exact hS19 _ _ | exact hS20 _ _ | exact hS21 _ _ | exact hS22 _ _ | exact hS23 _ _ | assumption | rfl) rfl ?_
      rw [show ((I, L, g_R s, 306) : pm_H).1 cm 9 = nI (fdN P S) from hg.2.1]
      refine ps_icmpf rfl (decide_eq_false (nI_ge (by omega) (by omega))) ?_
      refine ps_iload rfl rfl ?_
      refine ps_aload rfl rfl ?_
      refine ps_gfr 10 8 rfl rfl rfl (by first | exact hS0 _ _ | exact hS1 _ _ | exact hS2 _ _ | exact hS3 _ _ | exact hS4 _ _ | exact hS5 _ _ | exact hS6 _ _ | exact hS7 _ _ | exact hS8 _ _ | exact hS9 _ _ | exact hS10 _ _ | exact hS11 _ _ | exact hS12 _ _ | exact hS13 _ _ | exact hS14 _ _ | exact hS15 _ _ | exact hS16 _ _ | exact hS17 _ _ | exact hS18 _ _ | exact hS19 _ _ | exact hS20 _ _ | exact hS21 _ _ | exact hS22 _ _ | exact hS23 _ _ | assumption | rfl) rfl (by first | assumption | rfl) ?_
      refine ps_iload rfl rfl ?_
      refine ps_iald (k) rfl (by first | exact hS0 _ _ | exact hS1 _ _ | exact hS2 _ _ | exact hS3 _ _ | exact hS4 _ _ | exact hS5 _ _ | exact hS6 _ _ | exact hS7 _ _ | exact hS8 _ _ | exact hS9 _ _ | exact hS10 _ _ | exact hS11 _ _ | exact hS12 _ _ | exact hS13 _ _ | exact hS14 _ _ | exact hS15 _ _ | exact hS16 _ _ | exact hS17 _ _ | exact hS18 _ _ | exact hS19 _ _ | exact hS20 _ _ | exact hS21 _ _ | exact hS22 _ _ | exact hS23 _ _ | assumption | rfl) rfl (rfl) (by omega) ?_
      rw [show ((I, L, g_R s, 306) : pm_H).1 (cm + 9) k = fnC P S k from (hg.2.2 k (by omega)).2]
      refine ps_aload rfl rfl ?_
      refine ps_aload rfl rfl ?_
      refine ps_gfr 10 7 rfl rfl rfl (by first | exact hS0 _ _ | exact hS1 _ _ | exact hS2 _ _ | exact hS3 _ _ | exact hS4 _ _ | exact hS5 _ _ | exact hS6 _ _ | exact hS7 _ _ | exact hS8 _ _ | exact hS9 _ _ | exact hS10 _ _ | exact hS11 _ _ | exact hS12 _ _ | exact hS13 _ _ | exact hS14 _ _ | exact hS15 _ _ | exact hS16 _ _ | exact hS17 _ _ | exact hS18 _ _ | exact hS19 _ _ | exact hS20 _ _ | exact hS21 _ _ | exact hS22 _ _ | exact hS23 _ _ | assumption | rfl) rfl (by first | assumption | rfl) ?_
      refine ps_iload rfl rfl ?_
      refine ps_iald (k) rfl (by first | exact hS0 _ _ | exact hS1 _ _ | exact hS2 _ _ | exact hS3 _ _ | exact hS4 _ _ | exact hS5 _ _ | exact hS6 _ _ | exact hS7 _ _ | exact hS8 _ _ | exact hS9 _ _ | exact hS10 _ _ | exact hS11 _ _ | exact hS12 _ _ | exact hS13 _ _ | exact hS14 _ _ | exact hS15 _ _ | exact hS16 _ _ | exact hS17 _ _ | exact hS18 _ _ | exact hS19 _ _ | exact hS20 _ _ | exact hS21 _ _ | exact hS22 _ _ | exact hS23 _ _ | assumption | rfl) rfl (rfl) (by omega) ?_
      rw [show ((I, L, g_R s, 306) : pm_H).1 (cm + 8) k = nI (fnP P S k) from (hg.2.2 k (by omega)).1]
      refine ps_iload rfl rfl ?_
      refine pv_k rfl rfl rfl rfl rfl (hS0 _ _) rfl ⟨Nat.zero_le _, Nat.zero_le _⟩ ?_
      refine B_throwsOnX hV0 (by omega) (by omega) ?_
      refine ps_ar rfl rfl rfl rfl rfl ?_
      refine ps_ar rfl rfl rfl rfl rfl ?_
      refine ps_istore rfl rfl ?_
      refine ps_iinc rfl rfl ?_
      refine ps_goto rfl ?_
      rw [show nI k + Int32.ofInt 1 = nI (k + 1) from nI_1 k]
      exact z
  refine pw_c rfl ?_
  refine ps_istore rfl rfl ?_
  refine pw_c rfl ?_
  refine ps_istore rfl rfl ?_
  exact loop (fdN P S) 0 (by omega)
/-- FILLED -/
def filF (P : sPl) (S : sS) (i : Nat) : Int32 := if lostF P S i = 1 then S.bk + tbF P S i else shadF P S i
/-- where seeking and filling write -/
def skW (cm : Nat) (I I' : Nat → Nat → Int32) : Prop := ∀ a j : Nat, ¬ (cm + 5 ≤ a ∧ a ≤ cm + 9) → ¬ (a = cm ∧ (j = 9 ∨ j = 16 ∨ j = 17)) → I' a j = I a j
theorem cSg_o (h : cSg cm P S I) (k : ∀ j, I' cm j = I cm j) (k8 : ∀ j, I' (cm + 8) j = I (cm + 8) j) (k9 : ∀ j, I' (cm + 9) j = I (cm + 9) j) : cSg cm P S I' := ⟨(k _).trans h.1, (k _).trans h.2.1, fun i hi => ⟨(k8 _).trans (h.2.2 i hi).1, (k9 _).trans (h.2.2 i hi).2⟩⟩
theorem cDk_o (h : cDk cm P S I) (k : ∀ j, I' cm j = I cm j) (k5 : ∀ j, I' (cm + 5) j = I (cm + 5) j) : cDk cm P S I' := ⟨(k _).trans h.1, fun i hi => (k5 _).trans (h.2 i hi)⟩
theorem cAm_o (h : cAm cm P S I) (k : I' cm 12 = I cm 12) (kk : ∀ a j, cm + 1 ≤ a → a ≤ cm + 4 → I' a j = I a j) : cAm cm P S I' := ⟨fun i hi => ⟨(kk _ _ (by omega) (by omega)).trans (h.1 i hi).1, (kk _ _ (by omega) (by omega)).trans (h.1 i hi).2.1, (kk _ _ (by omega) (by omega)).trans (h.1 i hi).2.2.1, (kk _ _ (by omega) (by omega)).trans (h.1 i hi).2.2.2⟩, k.trans h.2⟩
theorem cSk_o (h : cSk I p P) (hp : isP p) (k : ∀ a j, a < 255 → I' a j = I a j) : cSk I' p P := by
  have pl := isP_lt hp
  exact ⟨(k _ _ (by omega)).trans h.1, fun i hi => (k _ _ (by omega)).trans (h.2.1 i hi), (k _ _ (by omega)).trans h.2.2.1, (k _ _ (by omega)).trans h.2.2.2⟩
theorem B_fillLostX (hV : cV cm ci p e s P S I) (hk : cSk I p P) (ha : cAm cm P S I) (hd : cDd cm P S I) (hs : cSh cm P S I) (kk : ∀ I', skW cm I I' → cSg cm P S I' → cDk cm P S I' → (∀ i, i < P.w * P.v → I' (cm + 7) i = filF P S i) → Q [] (I', L, g_R s, 306)) : pm_W (g_P ys) 160 0 [.ref cm, .retAddr 0] [] (I, L, g_R s, 306) (0, 0) Q := by
  have hV0 := hV
  obtain ⟨hc, hp, he, h1, h2, hP, hS, ok⟩ := hV
  have cg := isC_ge hc
  have el := isE_lt he
  have pl := isP_lt hp
  have w0 := hP.1.2.2.2.1
  have v0 := hP.1.2.2.2.2.1
  have n9 := hP.1.2.2.2.2.2
  have n0 : 0 < P.w * P.v := Nat.mul_pos w0 v0
  obtain ⟨hS0, hS1, hS2, hS3, hS4, hS5, hS6, hS7, hS8, hS9⟩ := cam_F (ys := ys) (s := s) hc
  obtain ⟨hR0, hR1, hR2, hR3, hR4, hR5, hR6, hR7, hR8, hR13, hR14⟩ := cam_R (s := s) hc
  rw [h1] at hR13
  rw [h2] at hR14
  obtain ⟨hS10, hS11, hS12, hS13, hR15, hR16, hR17⟩ := pl_F (ys := ys) (s := s) hp
  obtain ⟨hS14, hR18, hR19, hR20⟩ := en_F (ys := ys) (s := s) he
  refine ps_aload rfl rfl ?_
  refine pv_k rfl rfl rfl rfl rfl (hS0 _ _) rfl ⟨Nat.zero_le _, Nat.zero_le _⟩ ?_
  refine B_seekSourcesX hV0 hk ha hd hs (fun I1 r1 g1 d1 => ?_)
  have V1 : cV cm ci p e s P S I1 := cV_o hV0 (fun a j z => r1 a j (by omega) (by omega) (by omega) (by omega) (by omega))
  have l1 : ∀ i, i < P.w * P.v → I1 (cm + 1) i = lostF P S i := fun i hi => (r1 _ _ (by omega) (by omega) (by omega) (by omega) (by omega)).trans (ha.1 i hi).1
  have s1 : ∀ i, i < P.w * P.v → I1 (cm + 3) i = shadF P S i := fun i hi => (r1 _ _ (by omega) (by omega) (by omega) (by omega) (by omega)).trans (ha.1 i hi).2.2.1
  have loop : ∀ d i, i + d = P.w * P.v → ∀ I', (∀ a j, ¬ a = cm + 7 → I' a j = I1 a j) → (∀ j, j < i → I' (cm + 7) j = filF P S j) → pm_W (g_P ys) 160 6 [.ref cm, .int (nI i)] [] (I', L, g_R s, 306) (0, 0) Q := by
    intro d
    induction d with
    | zero =>
      intro i hi I' q1 q2
      refine ps_iload rfl rfl ?_
      refine ps_aload rfl rfl ?_
      refine ps_gfr 10 13 rfl rfl rfl (by first | exact hS0 _ _ | exact hS1 _ _ | exact hS2 _ _ | exact hS3 _ _ | exact hS4 _ _ | exact hS5 _ _ | exact hS6 _ _ | exact hS7 _ _ | exact hS8 _ _ | exact hS9 _ _ | exact hS10 _ _ | exact hS11 _ _ | exact hS12 _ _ | exact hS13 _ _ | exact hS14 _ _ | exact hS15 _ _ | exact hS16 _ _ | exact hS17 _ _ | exact hS18 _ _ | exact hS19 _ _ | exact hS20 _ _ | exact hS21 _ _ | exact hS22 _ _ | exact hS23 _ _ | assumption | rfl) rfl (by first | assumption | rfl) ?_
      refine ps_gfi 9 6 rfl rfl rfl (by first | exact hS0 _ _ | exact hS1 _ _ | exact hS2 _ _ | exact hS3 _ _ | exact hS4 _ _ | exact hS5 _ _ | exact hS6 _ _ | exact hS7 _ _ | exact hS8 _ _ | exact hS9 _ _ | exact hS10 _ _ | exact hS11 _ _ | exact hS12 _ _ | exact hS13 _ _ | exact hS14 _ _ | exact hS15 _ _ | exact hS16 _ _ | exact hS17 _ _ | exact hS18 _ _ | exact hS19 _ _ | exact hS20 _ _ | exact hS21 _ _ | exact hS22 _ _ | exact hS23 _ _ | assumption | rfl) rfl ?_
      rw [show ((I', L, g_R s, 306) : pm_H).1 p 6 = nI (P.w * P.v) from (q1 _ _ (by omega)).trans V1.2.2.2.2.2.1.1.2.2.1]
      refine ps_icmpt rfl (decide_eq_true (nI_le (by omega) (by omega))) ?_
      refine ps_vret rfl rfl ?_
      exact kk I' (fun a j z1 z2 => (q1 a j (by omega)).trans (r1 a j (by omega) (by omega) (by omega) (by omega) z2)) (cSg_o g1 (fun j => q1 _ _ (by omega)) (fun j => q1 _ _ (by omega)) (fun j => q1 _ _ (by omega))) (cDk_o d1 (fun j => q1 _ _ (by omega)) (fun j => q1 _ _ (by omega))) (fun i' hi' => q2 i' (by omega))
    | succ d ih =>
      intro i hi I' q1 q2
      have V' : cV cm ci p e s P S I' := cV_o V1 (fun a j z => q1 a j (by omega))
      have g' : cSg cm P S I' := cSg_o g1 (fun j => q1 _ _ (by omega)) (fun j => q1 _ _ (by omega)) (fun j => q1 _ _ (by omega))
      have next : ∀ x, x = filF P S i → pm_W (g_P ys) 160 54 [.ref cm, .int (nI i)] [.int x, .int (nI i), .ref (cm + 7)] (I', L, g_R s, 306) (0, 0) Q := by
        intro x hx
        refine ps_iast (i) rfl (by first | exact hS0 _ _ | exact hS1 _ _ | exact hS2 _ _ | exact hS3 _ _ | exact hS4 _ _ | exact hS5 _ _ | exact hS6 _ _ | exact hS7 _ _ | exact hS8 _ _ | exact hS9 _ _ | exact hS10 _ _ | exact hS11 _ _ | exact hS12 _ _ | exact hS13 _ _ | exact hS14 _ _ | exact hS15 _ _ | exact hS16 _ _ | exact hS17 _ _ | exact hS18 _ _ | exact hS19 _ _ | exact hS20 _ _ | exact hS21 _ _ | exact hS22 _ _ | exact hS23 _ _ | assumption | rfl) rfl (rfl) (by omega) ?_
        refine ps_iinc rfl rfl ?_
        refine ps_goto rfl ?_
        rw [show nI i + Int32.ofInt 1 = nI (i + 1) from nI_1 i]
        refine ih (i + 1) (by omega) _ (fun a j z => (pu_o z).trans (q1 a j z)) (fun j hj => ?_)
        show pm_u I' (cm + 7) i x (cm + 7) j = _
        by_cases ej : j = i
        · rw [ej, pu_s, hx]
        · rw [pu_n ej]
          exact q2 j (by omega)
      refine ps_iload rfl rfl ?_
      refine ps_aload rfl rfl ?_
      refine ps_gfr 10 13 rfl rfl rfl (by first | exact hS0 _ _ | exact hS1 _ _ | exact hS2 _ _ | exact hS3 _ _ | exact hS4 _ _ | exact hS5 _ _ | exact hS6 _ _ | exact hS7 _ _ | exact hS8 _ _ | exact hS9 _ _ | exact hS10 _ _ | exact hS11 _ _ | exact hS12 _ _ | exact hS13 _ _ | exact hS14 _ _ | exact hS15 _ _ | exact hS16 _ _ | exact hS17 _ _ | exact hS18 _ _ | exact hS19 _ _ | exact hS20 _ _ | exact hS21 _ _ | exact hS22 _ _ | exact hS23 _ _ | assumption | rfl) rfl (by first | assumption | rfl) ?_
      refine ps_gfi 9 6 rfl rfl rfl (by first | exact hS0 _ _ | exact hS1 _ _ | exact hS2 _ _ | exact hS3 _ _ | exact hS4 _ _ | exact hS5 _ _ | exact hS6 _ _ | exact hS7 _ _ | exact hS8 _ _ | exact hS9 _ _ | exact hS10 _ _ | exact hS11 _ _ | exact hS12 _ _ | exact hS13 _ _ | exact hS14 _ _ | exact hS15 _ _ | exact hS16 _ _ | exact hS17 _ _ | exact hS18 _ _ | exact hS19 _ _ | exact hS20 _ _ | exact hS21 _ _ | exact hS22 _ _ | exact hS23 _ _ | assumption | rfl) rfl ?_
      rw [show ((I', L, g_R s, 306) : pm_H).1 p 6 = nI (P.w * P.v) from V'.2.2.2.2.2.1.1.2.2.1]
      refine ps_icmpf rfl (decide_eq_false (nI_ge (by omega) (by omega))) ?_
      refine ps_aload rfl rfl ?_
      refine ps_gfr 10 6 rfl rfl rfl (by first | exact hS0 _ _ | exact hS1 _ _ | exact hS2 _ _ | exact hS3 _ _ | exact hS4 _ _ | exact hS5 _ _ | exact hS6 _ _ | exact hS7 _ _ | exact hS8 _ _ | exact hS9 _ _ | exact hS10 _ _ | exact hS11 _ _ | exact hS12 _ _ | exact hS13 _ _ | exact hS14 _ _ | exact hS15 _ _ | exact hS16 _ _ | exact hS17 _ _ | exact hS18 _ _ | exact hS19 _ _ | exact hS20 _ _ | exact hS21 _ _ | exact hS22 _ _ | exact hS23 _ _ | assumption | rfl) rfl (by first | assumption | rfl) ?_
      refine ps_iload rfl rfl ?_
      refine ps_aload rfl rfl ?_
      refine ps_gfr 10 0 rfl rfl rfl (by first | exact hS0 _ _ | exact hS1 _ _ | exact hS2 _ _ | exact hS3 _ _ | exact hS4 _ _ | exact hS5 _ _ | exact hS6 _ _ | exact hS7 _ _ | exact hS8 _ _ | exact hS9 _ _ | exact hS10 _ _ | exact hS11 _ _ | exact hS12 _ _ | exact hS13 _ _ | exact hS14 _ _ | exact hS15 _ _ | exact hS16 _ _ | exact hS17 _ _ | exact hS18 _ _ | exact hS19 _ _ | exact hS20 _ _ | exact hS21 _ _ | exact hS22 _ _ | exact hS23 _ _ | assumption | rfl) rfl (by first | assumption | rfl) ?_
      refine ps_iload rfl rfl ?_
      refine ps_iald (i) rfl (by first | exact hS0 _ _ | exact hS1 _ _ | exact hS2 _ _ | exact hS3 _ _ | exact hS4 _ _ | exact hS5 _ _ | exact hS6 _ _ | exact hS7 _ _ | exact hS8 _ _ | exact hS9 _ _ | exact hS10 _ _ | exact hS11 _ _ | exact hS12 _ _ | exact hS13 _ _ | exact hS14 _ _ | exact hS15 _ _ | exact hS16 _ _ | exact hS17 _ _ | exact hS18 _ _ | exact hS19 _ _ | exact hS20 _ _ | exact hS21 _ _ | exact hS22 _ _ | exact hS23 _ _ | assumption | rfl) rfl (rfl) (by omega) ?_
      rw [show ((I', L, g_R s, 306) : pm_H).1 (cm + 1) i = lostF P S i from (q1 _ _ (by omega)).trans (l1 i (by omega))]
      by_cases ek : lostF P S i = 1
      · refine pw_c rfl ?_
        refine ps_icmpf rfl (decide_eq_false (fun z => z ek)) ?_
        refine ps_aload rfl rfl ?_
        refine ps_gfr 10 14 rfl rfl rfl (by first | exact hS0 _ _ | exact hS1 _ _ | exact hS2 _ _ | exact hS3 _ _ | exact hS4 _ _ | exact hS5 _ _ | exact hS6 _ _ | exact hS7 _ _ | exact hS8 _ _ | exact hS9 _ _ | exact hS10 _ _ | exact hS11 _ _ | exact hS12 _ _ | exact hS13 _ _ | exact hS14 _ _ | exact hS15 _ _ | exact hS16 _ _ | exact hS17 _ _ | exact hS18 _ _ | exact hS19 _ _ | exact hS20 _ _ | exact hS21 _ _ | exact hS22 _ _ | exact hS23 _ _ | assumption | rfl) rfl (by first | assumption | rfl) ?_
        refine ps_gfi 5 3 rfl rfl rfl (by first | exact hS0 _ _ | exact hS1 _ _ | exact hS2 _ _ | exact hS3 _ _ | exact hS4 _ _ | exact hS5 _ _ | exact hS6 _ _ | exact hS7 _ _ | exact hS8 _ _ | exact hS9 _ _ | exact hS10 _ _ | exact hS11 _ _ | exact hS12 _ _ | exact hS13 _ _ | exact hS14 _ _ | exact hS15 _ _ | exact hS16 _ _ | exact hS17 _ _ | exact hS18 _ _ | exact hS19 _ _ | exact hS20 _ _ | exact hS21 _ _ | exact hS22 _ _ | exact hS23 _ _ | assumption | rfl) rfl ?_
        rw [show ((I', L, g_R s, 306) : pm_H).1 e 3 = S.bk from V'.2.2.2.2.2.2.1.2.1]
        refine ps_aload rfl rfl ?_
        refine ps_iload rfl rfl ?_
        refine pv_k rfl rfl rfl rfl rfl (hS0 _ _) rfl ⟨Nat.zero_le _, Nat.zero_le _⟩ ?_
        refine B_thrownByFoundX V' g' (by omega) ?_
        refine ps_ar rfl rfl rfl rfl rfl ?_
        refine ps_goto rfl ?_
        exact next _ (by unfold filF; rw [if_pos ek])
      · refine pw_c rfl ?_
        refine ps_icmpt rfl (decide_eq_true ek) ?_
        refine ps_aload rfl rfl ?_
        refine ps_gfr 10 2 rfl rfl rfl (by first | exact hS0 _ _ | exact hS1 _ _ | exact hS2 _ _ | exact hS3 _ _ | exact hS4 _ _ | exact hS5 _ _ | exact hS6 _ _ | exact hS7 _ _ | exact hS8 _ _ | exact hS9 _ _ | exact hS10 _ _ | exact hS11 _ _ | exact hS12 _ _ | exact hS13 _ _ | exact hS14 _ _ | exact hS15 _ _ | exact hS16 _ _ | exact hS17 _ _ | exact hS18 _ _ | exact hS19 _ _ | exact hS20 _ _ | exact hS21 _ _ | exact hS22 _ _ | exact hS23 _ _ | assumption | rfl) rfl (by first | assumption | rfl) ?_
        refine ps_iload rfl rfl ?_
        refine ps_iald (i) rfl (by first | exact hS0 _ _ | exact hS1 _ _ | exact hS2 _ _ | exact hS3 _ _ | exact hS4 _ _ | exact hS5 _ _ | exact hS6 _ _ | exact hS7 _ _ | exact hS8 _ _ | exact hS9 _ _ | exact hS10 _ _ | exact hS11 _ _ | exact hS12 _ _ | exact hS13 _ _ | exact hS14 _ _ | exact hS15 _ _ | exact hS16 _ _ | exact hS17 _ _ | exact hS18 _ _ | exact hS19 _ _ | exact hS20 _ _ | exact hS21 _ _ | exact hS22 _ _ | exact hS23 _ _ | assumption | rfl) rfl (rfl) (by omega) ?_
        rw [show ((I', L, g_R s, 306) : pm_H).1 (cm + 3) i = shadF P S i from (q1 _ _ (by omega)).trans (s1 i (by omega))]
        exact next _ (by unfold filF; rw [if_neg ek])
  refine pw_c rfl ?_
  refine ps_istore rfl rfl ?_
  exact loop (P.w * P.v) 0 (by omega) I1 (fun _ _ _ => rfl) (fun j hj => absurd hj (by omega))
theorem erF_c {f g : Nat → Int32} {l : Int32} (h : ∀ i, i < P.w * P.v → f i = g i) : erF P S f l = erF P S g l := by
  unfold erF
  refine suI_congr (fun i hi => ?_)
  rw [h i hi]
theorem B_errorFilledX (hV : cV cm ci p e s P S I) (hk : cSk I p P) (ha : ∀ i, i < P.w * P.v → I (cm + 4) i = truF P S i) (hg : ∀ i, i < P.w * P.v → I (cm + 7) i = g i) (kk : ∀ I', (∀ a j, ¬ a = cm + 6 → I' a j = I a j) → Q [.int (erF P S (decF P g) (suI g (P.w * P.v) - S.bk * nI (P.w * P.v)))] (I', L, g_R s, 306)) : pm_W (g_P ys) 162 0 [.ref cm] [] (I, L, g_R s, 306) (0, 0) Q := by
  have hV0 := hV
  obtain ⟨hc, hp, he, h1, h2, hP, hS, ok⟩ := hV
  have cg := isC_ge hc
  have el := isE_lt he
  have pl := isP_lt hp
  have w0 := hP.1.2.2.2.1
  have v0 := hP.1.2.2.2.2.1
  have n9 := hP.1.2.2.2.2.2
  have n0 : 0 < P.w * P.v := Nat.mul_pos w0 v0
  obtain ⟨hS0, hS1, hS2, hS3, hS4, hS5, hS6, hS7, hS8, hS9⟩ := cam_F (ys := ys) (s := s) hc
  obtain ⟨hR0, hR1, hR2, hR3, hR4, hR5, hR6, hR7, hR8, hR13, hR14⟩ := cam_R (s := s) hc
  rw [h1] at hR13
  rw [h2] at hR14
  obtain ⟨hS10, hS11, hS12, hS13, hR15, hR16, hR17⟩ := pl_F (ys := ys) (s := s) hp
  obtain ⟨hS14, hR18, hR19, hR20⟩ := en_F (ys := ys) (s := s) he
  refine ps_aload rfl rfl ?_
  refine ps_gfr 10 13 rfl rfl rfl (by first | exact hS0 _ _ | exact hS1 _ _ | exact hS2 _ _ | exact hS3 _ _ | exact hS4 _ _ | exact hS5 _ _ | exact hS6 _ _ | exact hS7 _ _ | exact hS8 _ _ | exact hS9 _ _ | exact hS10 _ _ | exact hS11 _ _ | exact hS12 _ _ | exact hS13 _ _ | exact hS14 _ _ | exact hS15 _ _ | exact hS16 _ _ | exact hS17 _ _ | exact hS18 _ _ | exact hS19 _ _ | exact hS20 _ _ | exact hS21 _ _ | exact hS22 _ _ | exact hS23 _ _ | assumption | rfl) rfl (by first | assumption | rfl) ?_
  refine ps_aload rfl rfl ?_
  refine ps_gfr 10 6 rfl rfl rfl (by first | exact hS0 _ _ | exact hS1 _ _ | exact hS2 _ _ | exact hS3 _ _ | exact hS4 _ _ | exact hS5 _ _ | exact hS6 _ _ | exact hS7 _ _ | exact hS8 _ _ | exact hS9 _ _ | exact hS10 _ _ | exact hS11 _ _ | exact hS12 _ _ | exact hS13 _ _ | exact hS14 _ _ | exact hS15 _ _ | exact hS16 _ _ | exact hS17 _ _ | exact hS18 _ _ | exact hS19 _ _ | exact hS20 _ _ | exact hS21 _ _ | exact hS22 _ _ | exact hS23 _ _ | assumption | rfl) rfl (by first | assumption | rfl) ?_
  refine ps_aload rfl rfl ?_
  refine ps_gfr 10 5 rfl rfl rfl (by first | exact hS0 _ _ | exact hS1 _ _ | exact hS2 _ _ | exact hS3 _ _ | exact hS4 _ _ | exact hS5 _ _ | exact hS6 _ _ | exact hS7 _ _ | exact hS8 _ _ | exact hS9 _ _ | exact hS10 _ _ | exact hS11 _ _ | exact hS12 _ _ | exact hS13 _ _ | exact hS14 _ _ | exact hS15 _ _ | exact hS16 _ _ | exact hS17 _ _ | exact hS18 _ _ | exact hS19 _ _ | exact hS20 _ _ | exact hS21 _ _ | exact hS22 _ _ | exact hS23 _ _ | assumption | rfl) rfl (by first | assumption | rfl) ?_
  refine pv_k rfl rfl rfl rfl rfl (hS10 _ _) rfl ⟨Nat.zero_le _, Nat.zero_le _⟩ ?_
  refine B_decodeAllX hp hP.1 hS6 hS7 (by omega) (by omega) (by omega) (fun I1 k1 k2 => ?_)
  have o1 : ∀ a j, ¬ a = cm + 6 → I1 a j = I a j := fun a j z => k1 a j (by omega)
  have V1 : cV cm ci p e s P S I1 := cV_o hV0 (fun a j z => o1 a j (by omega))
  have e1 : ∀ i, i < P.w * P.v → I1 (cm + 6) i = decF P g i := fun i hi => (k2 i hi).trans (dcF_c w0 v0 hg (fun i hi => (hP.2.2.2.2 i hi).2) i)
  have sv : suI (fun i => I1 (cm + 7) (0 + i)) (P.w * P.v) = suI g (P.w * P.v) := suI_congr (fun i hi => by
    rw [Nat.zero_add]
    exact (o1 _ _ (by omega)).trans (hg i hi))
  refine ps_aload rfl rfl ?_
  refine ps_aload rfl rfl ?_
  refine ps_gfr 10 5 rfl rfl rfl (by first | exact hS0 _ _ | exact hS1 _ _ | exact hS2 _ _ | exact hS3 _ _ | exact hS4 _ _ | exact hS5 _ _ | exact hS6 _ _ | exact hS7 _ _ | exact hS8 _ _ | exact hS9 _ _ | exact hS10 _ _ | exact hS11 _ _ | exact hS12 _ _ | exact hS13 _ _ | exact hS14 _ _ | exact hS15 _ _ | exact hS16 _ _ | exact hS17 _ _ | exact hS18 _ _ | exact hS19 _ _ | exact hS20 _ _ | exact hS21 _ _ | exact hS22 _ _ | exact hS23 _ _ | assumption | rfl) rfl (by first | assumption | rfl) ?_
  refine ps_aload rfl rfl ?_
  refine ps_gfr 10 6 rfl rfl rfl (by first | exact hS0 _ _ | exact hS1 _ _ | exact hS2 _ _ | exact hS3 _ _ | exact hS4 _ _ | exact hS5 _ _ | exact hS6 _ _ | exact hS7 _ _ | exact hS8 _ _ | exact hS9 _ _ | exact hS10 _ _ | exact hS11 _ _ | exact hS12 _ _ | exact hS13 _ _ | exact hS14 _ _ | exact hS15 _ _ | exact hS16 _ _ | exact hS17 _ _ | exact hS18 _ _ | exact hS19 _ _ | exact hS20 _ _ | exact hS21 _ _ | exact hS22 _ _ | exact hS23 _ _ | assumption | rfl) rfl (by first | assumption | rfl) ?_
  refine pw_c rfl ?_
  refine ps_aload rfl rfl ?_
  refine ps_gfr 10 13 rfl rfl rfl (by first | exact hS0 _ _ | exact hS1 _ _ | exact hS2 _ _ | exact hS3 _ _ | exact hS4 _ _ | exact hS5 _ _ | exact hS6 _ _ | exact hS7 _ _ | exact hS8 _ _ | exact hS9 _ _ | exact hS10 _ _ | exact hS11 _ _ | exact hS12 _ _ | exact hS13 _ _ | exact hS14 _ _ | exact hS15 _ _ | exact hS16 _ _ | exact hS17 _ _ | exact hS18 _ _ | exact hS19 _ _ | exact hS20 _ _ | exact hS21 _ _ | exact hS22 _ _ | exact hS23 _ _ | assumption | rfl) rfl (by first | assumption | rfl) ?_
  refine ps_gfi 9 6 rfl rfl rfl (by first | exact hS0 _ _ | exact hS1 _ _ | exact hS2 _ _ | exact hS3 _ _ | exact hS4 _ _ | exact hS5 _ _ | exact hS6 _ _ | exact hS7 _ _ | exact hS8 _ _ | exact hS9 _ _ | exact hS10 _ _ | exact hS11 _ _ | exact hS12 _ _ | exact hS13 _ _ | exact hS14 _ _ | exact hS15 _ _ | exact hS16 _ _ | exact hS17 _ _ | exact hS18 _ _ | exact hS19 _ _ | exact hS20 _ _ | exact hS21 _ _ | exact hS22 _ _ | exact hS23 _ _ | assumption | rfl) rfl ?_
  rw [show ((I1, L, g_R s, 306) : pm_H).1 p 6 = nI (P.w * P.v) from V1.2.2.2.2.2.1.1.2.2.1]
  refine pw_k rfl rfl rfl rfl ⟨Nat.zero_le _, Nat.zero_le _⟩ ?_
  refine B_sumX (f := 0) (n := P.w * P.v) (N := 289) hS7 (by omega) (by omega) ?_
  rw [sv]
  refine ps_aload rfl rfl ?_
  refine ps_gfr 10 14 rfl rfl rfl (by first | exact hS0 _ _ | exact hS1 _ _ | exact hS2 _ _ | exact hS3 _ _ | exact hS4 _ _ | exact hS5 _ _ | exact hS6 _ _ | exact hS7 _ _ | exact hS8 _ _ | exact hS9 _ _ | exact hS10 _ _ | exact hS11 _ _ | exact hS12 _ _ | exact hS13 _ _ | exact hS14 _ _ | exact hS15 _ _ | exact hS16 _ _ | exact hS17 _ _ | exact hS18 _ _ | exact hS19 _ _ | exact hS20 _ _ | exact hS21 _ _ | exact hS22 _ _ | exact hS23 _ _ | assumption | rfl) rfl (by first | assumption | rfl) ?_
  refine ps_gfi 5 3 rfl rfl rfl (by first | exact hS0 _ _ | exact hS1 _ _ | exact hS2 _ _ | exact hS3 _ _ | exact hS4 _ _ | exact hS5 _ _ | exact hS6 _ _ | exact hS7 _ _ | exact hS8 _ _ | exact hS9 _ _ | exact hS10 _ _ | exact hS11 _ _ | exact hS12 _ _ | exact hS13 _ _ | exact hS14 _ _ | exact hS15 _ _ | exact hS16 _ _ | exact hS17 _ _ | exact hS18 _ _ | exact hS19 _ _ | exact hS20 _ _ | exact hS21 _ _ | exact hS22 _ _ | exact hS23 _ _ | assumption | rfl) rfl ?_
  rw [show ((I1, L, g_R s, 306) : pm_H).1 e 3 = S.bk from V1.2.2.2.2.2.2.1.2.1]
  refine ps_aload rfl rfl ?_
  refine ps_gfr 10 13 rfl rfl rfl (by first | exact hS0 _ _ | exact hS1 _ _ | exact hS2 _ _ | exact hS3 _ _ | exact hS4 _ _ | exact hS5 _ _ | exact hS6 _ _ | exact hS7 _ _ | exact hS8 _ _ | exact hS9 _ _ | exact hS10 _ _ | exact hS11 _ _ | exact hS12 _ _ | exact hS13 _ _ | exact hS14 _ _ | exact hS15 _ _ | exact hS16 _ _ | exact hS17 _ _ | exact hS18 _ _ | exact hS19 _ _ | exact hS20 _ _ | exact hS21 _ _ | exact hS22 _ _ | exact hS23 _ _ | assumption | rfl) rfl (by first | assumption | rfl) ?_
  refine ps_gfi 9 6 rfl rfl rfl (by first | exact hS0 _ _ | exact hS1 _ _ | exact hS2 _ _ | exact hS3 _ _ | exact hS4 _ _ | exact hS5 _ _ | exact hS6 _ _ | exact hS7 _ _ | exact hS8 _ _ | exact hS9 _ _ | exact hS10 _ _ | exact hS11 _ _ | exact hS12 _ _ | exact hS13 _ _ | exact hS14 _ _ | exact hS15 _ _ | exact hS16 _ _ | exact hS17 _ _ | exact hS18 _ _ | exact hS19 _ _ | exact hS20 _ _ | exact hS21 _ _ | exact hS22 _ _ | exact hS23 _ _ | assumption | rfl) rfl ?_
  rw [show ((I1, L, g_R s, 306) : pm_H).1 p 6 = nI (P.w * P.v) from V1.2.2.2.2.2.1.1.2.2.1]
  refine ps_ar rfl rfl rfl rfl rfl ?_
  refine ps_ar rfl rfl rfl rfl rfl ?_
  refine pv_k rfl rfl rfl rfl rfl (hS0 _ _) rfl ⟨Nat.zero_le _, Nat.zero_le _⟩ ?_
  refine B_errorOfX (r := 5) V1 (cSk_o hk hp (fun a j z => o1 a j (by omega))) (fun i hi => (o1 _ _ (by omega)).trans (ha i hi)) (by omega) e1 _ ?_
  refine ps_iret rfl rfl ?_
  exact kk I1 o1
/-- the farthest of LOST ones -/
def ffF (P : sPl) (S : sS) (g : Nat → Int32) : Nat → Int32
  | 0 => 0
  | n + 1 => if lostF P S n = 1 then (if ffF P S g n < absI (g n - wholF P S 0 n) then absI (g n - wholF P S 0 n) else ffF P S g n) else ffF P S g n
theorem B_farthestFilledX (hV : cV cm ci p e s P S I) (ha : cAm cm P S I) (hg : ∀ i, i < P.w * P.v → I (cm + 7) i = g i) (kk : Q [.int (ffF P S g (P.w * P.v))] (I, L, g_R s, 306)) : pm_W (g_P ys) 163 0 [.ref cm, .retAddr 0, .retAddr 0] [] (I, L, g_R s, 306) (0, 0) Q := by
  have hV0 := hV
  obtain ⟨hc, hp, he, h1, h2, hP, hS, ok⟩ := hV
  have cg := isC_ge hc
  have el := isE_lt he
  have pl := isP_lt hp
  have w0 := hP.1.2.2.2.1
  have v0 := hP.1.2.2.2.2.1
  have n9 := hP.1.2.2.2.2.2
  have n0 : 0 < P.w * P.v := Nat.mul_pos w0 v0
  obtain ⟨hS0, hS1, hS2, hS3, hS4, hS5, hS6, hS7, hS8, hS9⟩ := cam_F (ys := ys) (s := s) hc
  obtain ⟨hR0, hR1, hR2, hR3, hR4, hR5, hR6, hR7, hR8, hR13, hR14⟩ := cam_R (s := s) hc
  rw [h1] at hR13
  rw [h2] at hR14
  obtain ⟨hS10, hS11, hS12, hS13, hR15, hR16, hR17⟩ := pl_F (ys := ys) (s := s) hp
  obtain ⟨hS14, hR18, hR19, hR20⟩ := en_F (ys := ys) (s := s) he
  have loop : ∀ d i, i + d = P.w * P.v → pm_W (g_P ys) 163 4 [.ref cm, .int (ffF P S g i), .int (nI i)] [] (I, L, g_R s, 306) (0, 0) Q := by
    intro d
    induction d with
    | zero =>
      intro i hi
      refine ps_iload rfl rfl ?_
      refine ps_aload rfl rfl ?_
      refine ps_gfr 10 13 rfl rfl rfl (by first | exact hS0 _ _ | exact hS1 _ _ | exact hS2 _ _ | exact hS3 _ _ | exact hS4 _ _ | exact hS5 _ _ | exact hS6 _ _ | exact hS7 _ _ | exact hS8 _ _ | exact hS9 _ _ | exact hS10 _ _ | exact hS11 _ _ | exact hS12 _ _ | exact hS13 _ _ | exact hS14 _ _ | exact hS15 _ _ | exact hS16 _ _ | exact hS17 _ _ | exact hS18 _ _ | exact hS19 _ _ | exact hS20 _ _ | exact hS21 _ _ | exact hS22 _ _ | exact hS23 _ _ | assumption | rfl) rfl (by first | assumption | rfl) ?_
      refine ps_gfi 9 6 rfl rfl rfl (by first | exact hS0 _ _ | exact hS1 _ _ | exact hS2 _ _ | exact hS3 _ _ | exact hS4 _ _ | exact hS5 _ _ | exact hS6 _ _ | exact hS7 _ _ | exact hS8 _ _ | exact hS9 _ _ | exact hS10 _ _ | exact hS11 _ _ | exact hS12 _ _ | exact hS13 _ _ | exact hS14 _ _ | exact hS15 _ _ | exact hS16 _ _ | exact hS17 _ _ | exact hS18 _ _ | exact hS19 _ _ | exact hS20 _ _ | exact hS21 _ _ | exact hS22 _ _ | exact hS23 _ _ | assumption | rfl) rfl ?_
      rw [show ((I, L, g_R s, 306) : pm_H).1 p 6 = nI (P.w * P.v) from hP.1.2.2.1]
      refine ps_icmpt rfl (decide_eq_true (nI_le (by omega) (by omega))) ?_
      refine ps_iload rfl rfl ?_
      refine ps_iret rfl rfl ?_
      rw [show i = P.w * P.v by omega]
      exact kk
    | succ d ih =>
      intro i hi
      have z := ih (i + 1) (by omega)
      rw [ffF] at z
      refine ps_iload rfl rfl ?_
      refine ps_aload rfl rfl ?_
      refine ps_gfr 10 13 rfl rfl rfl (by first | exact hS0 _ _ | exact hS1 _ _ | exact hS2 _ _ | exact hS3 _ _ | exact hS4 _ _ | exact hS5 _ _ | exact hS6 _ _ | exact hS7 _ _ | exact hS8 _ _ | exact hS9 _ _ | exact hS10 _ _ | exact hS11 _ _ | exact hS12 _ _ | exact hS13 _ _ | exact hS14 _ _ | exact hS15 _ _ | exact hS16 _ _ | exact hS17 _ _ | exact hS18 _ _ | exact hS19 _ _ | exact hS20 _ _ | exact hS21 _ _ | exact hS22 _ _ | exact hS23 _ _ | assumption | rfl) rfl (by first | assumption | rfl) ?_
      refine ps_gfi 9 6 rfl rfl rfl (by first | exact hS0 _ _ | exact hS1 _ _ | exact hS2 _ _ | exact hS3 _ _ | exact hS4 _ _ | exact hS5 _ _ | exact hS6 _ _ | exact hS7 _ _ | exact hS8 _ _ | exact hS9 _ _ | exact hS10 _ _ | exact hS11 _ _ | exact hS12 _ _ | exact hS13 _ _ | exact hS14 _ _ | exact hS15 _ _ | exact hS16 _ _ | exact hS17 _ _ | exact hS18 _ _ | exact hS19 _ _ | exact hS20 _ _ | exact hS21 _ _ | exact hS22 _ _ | exact hS23 _ _ | assumption | rfl) rfl ?_
      rw [show ((I, L, g_R s, 306) : pm_H).1 p 6 = nI (P.w * P.v) from hP.1.2.2.1]
      refine ps_icmpf rfl (decide_eq_false (nI_ge (by omega) (by omega))) ?_
      refine ps_aload rfl rfl ?_
      refine ps_gfr 10 0 rfl rfl rfl (by first | exact hS0 _ _ | exact hS1 _ _ | exact hS2 _ _ | exact hS3 _ _ | exact hS4 _ _ | exact hS5 _ _ | exact hS6 _ _ | exact hS7 _ _ | exact hS8 _ _ | exact hS9 _ _ | exact hS10 _ _ | exact hS11 _ _ | exact hS12 _ _ | exact hS13 _ _ | exact hS14 _ _ | exact hS15 _ _ | exact hS16 _ _ | exact hS17 _ _ | exact hS18 _ _ | exact hS19 _ _ | exact hS20 _ _ | exact hS21 _ _ | exact hS22 _ _ | exact hS23 _ _ | assumption | rfl) rfl (by first | assumption | rfl) ?_
      refine ps_iload rfl rfl ?_
      refine ps_iald (i) rfl (by first | exact hS0 _ _ | exact hS1 _ _ | exact hS2 _ _ | exact hS3 _ _ | exact hS4 _ _ | exact hS5 _ _ | exact hS6 _ _ | exact hS7 _ _ | exact hS8 _ _ | exact hS9 _ _ | exact hS10 _ _ | exact hS11 _ _ | exact hS12 _ _ | exact hS13 _ _ | exact hS14 _ _ | exact hS15 _ _ | exact hS16 _ _ | exact hS17 _ _ | exact hS18 _ _ | exact hS19 _ _ | exact hS20 _ _ | exact hS21 _ _ | exact hS22 _ _ | exact hS23 _ _ | assumption | rfl) rfl (rfl) (by omega) ?_
      rw [show ((I, L, g_R s, 306) : pm_H).1 (cm + 1) i = lostF P S i from (ha.1 i (by omega)).1]
      by_cases ek : lostF P S i = 1
      · rw [if_pos ek] at z
        refine pw_c rfl ?_
        refine ps_icmpf rfl (decide_eq_false (fun z => z ek)) ?_
        refine ps_iload rfl rfl ?_
        refine ps_aload rfl rfl ?_
        refine ps_gfr 10 6 rfl rfl rfl (by first | exact hS0 _ _ | exact hS1 _ _ | exact hS2 _ _ | exact hS3 _ _ | exact hS4 _ _ | exact hS5 _ _ | exact hS6 _ _ | exact hS7 _ _ | exact hS8 _ _ | exact hS9 _ _ | exact hS10 _ _ | exact hS11 _ _ | exact hS12 _ _ | exact hS13 _ _ | exact hS14 _ _ | exact hS15 _ _ | exact hS16 _ _ | exact hS17 _ _ | exact hS18 _ _ | exact hS19 _ _ | exact hS20 _ _ | exact hS21 _ _ | exact hS22 _ _ | exact hS23 _ _ | assumption | rfl) rfl (by first | assumption | rfl) ?_
        refine ps_iload rfl rfl ?_
        refine ps_iald (i) rfl (by first | exact hS0 _ _ | exact hS1 _ _ | exact hS2 _ _ | exact hS3 _ _ | exact hS4 _ _ | exact hS5 _ _ | exact hS6 _ _ | exact hS7 _ _ | exact hS8 _ _ | exact hS9 _ _ | exact hS10 _ _ | exact hS11 _ _ | exact hS12 _ _ | exact hS13 _ _ | exact hS14 _ _ | exact hS15 _ _ | exact hS16 _ _ | exact hS17 _ _ | exact hS18 _ _ | exact hS19 _ _ | exact hS20 _ _ | exact hS21 _ _ | exact hS22 _ _ | exact hS23 _ _ | assumption | rfl) rfl (rfl) (by omega) ?_
        rw [show ((I, L, g_R s, 306) : pm_H).1 (cm + 7) i = g i from hg i (by omega)]
        refine ps_aload rfl rfl ?_
        refine ps_gfr 10 1 rfl rfl rfl (by first | exact hS0 _ _ | exact hS1 _ _ | exact hS2 _ _ | exact hS3 _ _ | exact hS4 _ _ | exact hS5 _ _ | exact hS6 _ _ | exact hS7 _ _ | exact hS8 _ _ | exact hS9 _ _ | exact hS10 _ _ | exact hS11 _ _ | exact hS12 _ _ | exact hS13 _ _ | exact hS14 _ _ | exact hS15 _ _ | exact hS16 _ _ | exact hS17 _ _ | exact hS18 _ _ | exact hS19 _ _ | exact hS20 _ _ | exact hS21 _ _ | exact hS22 _ _ | exact hS23 _ _ | assumption | rfl) rfl (by first | assumption | rfl) ?_
        refine ps_iload rfl rfl ?_
        refine ps_iald (i) rfl (by first | exact hS0 _ _ | exact hS1 _ _ | exact hS2 _ _ | exact hS3 _ _ | exact hS4 _ _ | exact hS5 _ _ | exact hS6 _ _ | exact hS7 _ _ | exact hS8 _ _ | exact hS9 _ _ | exact hS10 _ _ | exact hS11 _ _ | exact hS12 _ _ | exact hS13 _ _ | exact hS14 _ _ | exact hS15 _ _ | exact hS16 _ _ | exact hS17 _ _ | exact hS18 _ _ | exact hS19 _ _ | exact hS20 _ _ | exact hS21 _ _ | exact hS22 _ _ | exact hS23 _ _ | assumption | rfl) rfl (rfl) (by omega) ?_
        rw [show ((I, L, g_R s, 306) : pm_H).1 (cm + 2) i = wholF P S 0 i from (ha.1 i (by omega)).2.1]
        refine ps_ar rfl rfl rfl rfl rfl ?_
        refine pw_k rfl rfl rfl rfl ⟨Nat.zero_le _, Nat.zero_le _⟩ ?_
        refine B_absX _ ?_
        refine pw_k rfl rfl rfl rfl ⟨Nat.zero_le _, Nat.zero_le _⟩ ?_
        refine B_maxI _ _ ?_
        refine ps_istore rfl rfl ?_
        refine ps_iinc rfl rfl ?_
        refine ps_goto rfl ?_
        rw [show nI i + Int32.ofInt 1 = nI (i + 1) from nI_1 i]
        exact z
      · rw [if_neg ek] at z
        refine pw_c rfl ?_
        refine ps_icmpt rfl (decide_eq_true ek) ?_
        refine ps_iinc rfl rfl ?_
        refine ps_goto rfl ?_
        rw [show nI i + Int32.ofInt 1 = nI (i + 1) from nI_1 i]
        exact z
  refine pw_c rfl ?_
  refine ps_istore rfl rfl ?_
  refine pw_c rfl ?_
  refine ps_istore rfl rfl ?_
  exact loop (P.w * P.v) 0 (by omega)
/-- a row decoded at one place -/
def wtF (P : sPl) (row : Nat → Int32) (x y : Nat) : Int32 := suI (fun c => row c * P.we (cxy P.w P.v (((c % P.w : Nat) : Int) - (x : Int)) (((c / P.w : Nat) : Int) - (y : Int)))) (P.w * P.v)
theorem wtF_e {f we : Nat → Int32} {x y : Nat} (w0 : 0 < P.w) (v0 : 0 < P.v) (h1 : ∀ i, i < P.w * P.v → f i = g i) (h2 : ∀ i, i < P.w * P.v → we i = P.we i) : suI (fun c => f c * we (cxy P.w P.v (((c % P.w : Nat) : Int) - (x : Int)) (((c / P.w : Nat) : Int) - (y : Int)))) (P.w * P.v) = wtF P g x y := by
  unfold wtF
  refine suI_congr (fun c hc => ?_)
  rw [h1 c hc, h2 _ (cxy_lt w0 v0 _ _)]
/-- one frame's row -/
def frR (P : sPl) (S : sS) (tn : Int32) (i : Nat) : Int32 := if lostF P S i = 1 then 0 else wholF P S tn i
theorem B_frameAtX {tn x y : Nat} (hV : cV cm ci p e s P S I) (hl : ∀ i, i < P.w * P.v → I (cm + 1) i = lostF P S i) (ht : tn < 10000) (hx : x < 10000) (hy : y < 10000) (kk : ∀ I', (∀ a j, ¬ a = cm + 6 → I' a j = I a j) → Q [.int (wtF P (frR P S (nI tn)) (x + tn) y)] (I', L, g_R s, 306)) : pm_W (g_P ys) 156 0 [.ref cm, .int (nI tn), .int (nI x), .int (nI y)] [] (I, L, g_R s, 306) (0, 0) Q := by
  have hV0 := hV
  obtain ⟨hc, hp, he, h1, h2, hP, hS, ok⟩ := hV
  have cg := isC_ge hc
  have el := isE_lt he
  have pl := isP_lt hp
  have w0 := hP.1.2.2.2.1
  have v0 := hP.1.2.2.2.2.1
  have n9 := hP.1.2.2.2.2.2
  have n0 : 0 < P.w * P.v := Nat.mul_pos w0 v0
  obtain ⟨hS0, hS1, hS2, hS3, hS4, hS5, hS6, hS7, hS8, hS9⟩ := cam_F (ys := ys) (s := s) hc
  obtain ⟨hR0, hR1, hR2, hR3, hR4, hR5, hR6, hR7, hR8, hR13, hR14⟩ := cam_R (s := s) hc
  rw [h1] at hR13
  rw [h2] at hR14
  obtain ⟨hS10, hS11, hS12, hS13, hR15, hR16, hR17⟩ := pl_F (ys := ys) (s := s) hp
  obtain ⟨hS14, hR18, hR19, hR20⟩ := en_F (ys := ys) (s := s) he
  refine ps_aload rfl rfl ?_
  refine ps_aload rfl rfl ?_
  refine ps_gfr 10 5 rfl rfl rfl (by first | exact hS0 _ _ | exact hS1 _ _ | exact hS2 _ _ | exact hS3 _ _ | exact hS4 _ _ | exact hS5 _ _ | exact hS6 _ _ | exact hS7 _ _ | exact hS8 _ _ | exact hS9 _ _ | exact hS10 _ _ | exact hS11 _ _ | exact hS12 _ _ | exact hS13 _ _ | exact hS14 _ _ | exact hS15 _ _ | exact hS16 _ _ | exact hS17 _ _ | exact hS18 _ _ | exact hS19 _ _ | exact hS20 _ _ | exact hS21 _ _ | exact hS22 _ _ | exact hS23 _ _ | assumption | rfl) rfl (by first | assumption | rfl) ?_
  refine ps_iload rfl rfl ?_
  refine pv_k rfl rfl rfl rfl rfl (hS0 _ _) rfl ⟨Nat.zero_le _, Nat.zero_le _⟩ ?_
  refine B_throwAllX (r := 5) (nI tn) hc hp he h1 h2 hP hS ok (by omega) (fun I1 k1 k2 => ?_)
  have k1 : ∀ a j, ¬ (a = cm + 6 ∧ j < P.w * P.v) → I1 a j = I a j := k1
  have k2 : ∀ i, i < P.w * P.v → I1 (cm + 6) i = wholF P S (nI tn) i := k2
  refine ps_aload rfl rfl ?_
  refine ps_aload rfl rfl ?_
  refine ps_gfr 10 5 rfl rfl rfl (by first | exact hS0 _ _ | exact hS1 _ _ | exact hS2 _ _ | exact hS3 _ _ | exact hS4 _ _ | exact hS5 _ _ | exact hS6 _ _ | exact hS7 _ _ | exact hS8 _ _ | exact hS9 _ _ | exact hS10 _ _ | exact hS11 _ _ | exact hS12 _ _ | exact hS13 _ _ | exact hS14 _ _ | exact hS15 _ _ | exact hS16 _ _ | exact hS17 _ _ | exact hS18 _ _ | exact hS19 _ _ | exact hS20 _ _ | exact hS21 _ _ | exact hS22 _ _ | exact hS23 _ _ | assumption | rfl) rfl (by first | assumption | rfl) ?_
  refine pv_k rfl rfl rfl rfl rfl (hS0 _ _) rfl ⟨Nat.zero_le _, Nat.zero_le _⟩ ?_
  refine B_clearLostX (r := 5) (g := lostF P S) hc hp h1 (cP_o hP.1 (fun j => k1 _ _ (by omega))) (by omega) (fun i hi => (k1 _ _ (by omega)).trans (hl i hi)) (fun I2 q1 q2 => ?_)
  have q1 : ∀ a j, ¬ (a = cm + 6 ∧ j < P.w * P.v) → I2 a j = I1 a j := q1
  have q2 : ∀ i, i < P.w * P.v → I2 (cm + 6) i = frR P S (nI tn) i := fun i hi => (q2 i hi).trans (by
    show (if lostF P S i = 1 then 0 else I1 (cm + 6) i) = _
    rw [k2 i hi]
    rfl)
  have o2 : ∀ a j, ¬ a = cm + 6 → I2 a j = I a j := fun a j z => (q1 a j (by omega)).trans (k1 a j (by omega))
  have V2 : cV cm ci p e s P S I2 := cV_o hV0 (fun a j z => o2 a j (by omega))
  refine ps_aload rfl rfl ?_
  refine ps_gfr 10 13 rfl rfl rfl (by first | exact hS0 _ _ | exact hS1 _ _ | exact hS2 _ _ | exact hS3 _ _ | exact hS4 _ _ | exact hS5 _ _ | exact hS6 _ _ | exact hS7 _ _ | exact hS8 _ _ | exact hS9 _ _ | exact hS10 _ _ | exact hS11 _ _ | exact hS12 _ _ | exact hS13 _ _ | exact hS14 _ _ | exact hS15 _ _ | exact hS16 _ _ | exact hS17 _ _ | exact hS18 _ _ | exact hS19 _ _ | exact hS20 _ _ | exact hS21 _ _ | exact hS22 _ _ | exact hS23 _ _ | assumption | rfl) rfl (by first | assumption | rfl) ?_
  refine ps_aload rfl rfl ?_
  refine ps_gfr 10 5 rfl rfl rfl (by first | exact hS0 _ _ | exact hS1 _ _ | exact hS2 _ _ | exact hS3 _ _ | exact hS4 _ _ | exact hS5 _ _ | exact hS6 _ _ | exact hS7 _ _ | exact hS8 _ _ | exact hS9 _ _ | exact hS10 _ _ | exact hS11 _ _ | exact hS12 _ _ | exact hS13 _ _ | exact hS14 _ _ | exact hS15 _ _ | exact hS16 _ _ | exact hS17 _ _ | exact hS18 _ _ | exact hS19 _ _ | exact hS20 _ _ | exact hS21 _ _ | exact hS22 _ _ | exact hS23 _ _ | assumption | rfl) rfl (by first | assumption | rfl) ?_
  refine ps_iload rfl rfl ?_
  refine ps_iload rfl rfl ?_
  refine ps_ar rfl rfl rfl rfl rfl ?_
  rw [nI_add]
  refine ps_iload rfl rfl ?_
  refine pv_k rfl rfl rfl rfl rfl (hS10 _ _) rfl ⟨Nat.zero_le _, Nat.zero_le _⟩ ?_
  refine B_weighedX hp V2.2.2.2.2.2.1.1 hS6 (by omega) (by omega) ?_
  rw [wtF_e (P := P) w0 v0 q2 (fun i hi => (V2.2.2.2.2.2.1.2.2.2.2 i hi).2)]
  refine ps_iret rfl rfl ?_
  exact kk I2 o2
/-- shadows less those by the negative -/
def anR (P : sPl) (S : sS) : Nat → Nat → Int32
  | 0, _ => 0
  | k + 1, i => anR P S k i - S.sc 0 k 2 + 2 * S.sc 0 k 2 * P.ho (shF P.w P.v (-(S.sc 0 k 0)).toInt (-(S.sc 0 k 1)).toInt i)
def anF (P : sPl) (S : sS) (i : Nat) : Int32 := if lostF P S i = 1 then 0 else anR P S (S.n 0) i
theorem B_antiAtX {x y : Nat} (hV : cV cm ci p e s P S I) (hl : ∀ i, i < P.w * P.v → I (cm + 1) i = lostF P S i) (hx : x < 10000) (hy : y < 10000) (kk : ∀ I', (∀ a j, ¬ a = cm + 6 → I' a j = I a j) → Q [.int (wtF P (anF P S) x y)] (I', L, g_R s, 306)) : pm_W (g_P ys) 166 0 [.ref cm, .int (nI x), .int (nI y), .retAddr 0, .retAddr 0, .retAddr 0] [] (I, L, g_R s, 306) (0, 0) Q := by
  have hV0 := hV
  obtain ⟨hc, hp, he, h1, h2, hP, hS, ok⟩ := hV
  have cg := isC_ge hc
  have el := isE_lt he
  have pl := isP_lt hp
  have w0 := hP.1.2.2.2.1
  have v0 := hP.1.2.2.2.2.1
  have n9 := hP.1.2.2.2.2.2
  have n0 : 0 < P.w * P.v := Nat.mul_pos w0 v0
  obtain ⟨hS0, hS1, hS2, hS3, hS4, hS5, hS6, hS7, hS8, hS9⟩ := cam_F (ys := ys) (s := s) hc
  obtain ⟨hR0, hR1, hR2, hR3, hR4, hR5, hR6, hR7, hR8, hR13, hR14⟩ := cam_R (s := s) hc
  rw [h1] at hR13
  rw [h2] at hR14
  obtain ⟨hS10, hS11, hS12, hS13, hR15, hR16, hR17⟩ := pl_F (ys := ys) (s := s) hp
  obtain ⟨hS14, hR18, hR19, hR20⟩ := en_F (ys := ys) (s := s) he
  obtain ⟨hS20, hS21, hS22, hS23, hR21, hR22, hR23, l12⟩ := mm_F (ys := ys) (s := s) (isM_of he (q := 0) (by omega))
  have n8 : S.n 0 ≤ 8 := ok 0 (by omega)
  have row : ∀ k, k < S.n 0 → ∀ j, j < 3 → I (e + 1 + 1 + j) k = S.sc 0 k j := fun k hk j hj => hS.2.2.2 0 (by omega) k hk j hj
  have cn : I (e + 1) 3 = nI (S.n 0) := hS.1 0 (by omega)
  have fin : ∀ I', (∀ a j, ¬ a = cm + 6 → I' a j = I a j) → (∀ i, i < P.w * P.v → I' (cm + 6) i = anR P S (S.n 0) i) → ∀ u4 u5 : Value, pm_W (g_P ys) 166 123 [.ref cm, .int (nI x), .int (nI y), .ref (e + 1), u4, u5] [] (I', L, g_R s, 306) (0, 0) Q := by
    intro I' k1 k2 u4 u5
    refine ps_aload rfl rfl ?_
    refine ps_aload rfl rfl ?_
    refine ps_gfr 10 5 rfl rfl rfl (by first | exact hS0 _ _ | exact hS1 _ _ | exact hS2 _ _ | exact hS3 _ _ | exact hS4 _ _ | exact hS5 _ _ | exact hS6 _ _ | exact hS7 _ _ | exact hS8 _ _ | exact hS9 _ _ | exact hS10 _ _ | exact hS11 _ _ | exact hS12 _ _ | exact hS13 _ _ | exact hS14 _ _ | exact hS15 _ _ | exact hS16 _ _ | exact hS17 _ _ | exact hS18 _ _ | exact hS19 _ _ | exact hS20 _ _ | exact hS21 _ _ | exact hS22 _ _ | exact hS23 _ _ | assumption | rfl) rfl (by first | assumption | rfl) ?_
    refine pv_k rfl rfl rfl rfl rfl (hS0 _ _) rfl ⟨Nat.zero_le _, Nat.zero_le _⟩ ?_
    refine B_clearLostX (r := 5) (g := lostF P S) hc hp h1 (cP_o hP.1 (fun j => k1 _ _ (by omega))) (by omega) (fun i hi => (k1 _ _ (by omega)).trans (hl i hi)) (fun I2 q1 q2 => ?_)
    have q1 : ∀ a j, ¬ (a = cm + 6 ∧ j < P.w * P.v) → I2 a j = I' a j := q1
    have q2 : ∀ i, i < P.w * P.v → I2 (cm + 6) i = anF P S i := fun i hi => (q2 i hi).trans (by
      show (if lostF P S i = 1 then 0 else I' (cm + 6) i) = _
      rw [k2 i hi]
      rfl)
    have o2 : ∀ a j, ¬ a = cm + 6 → I2 a j = I a j := fun a j z => (q1 a j (by omega)).trans (k1 a j (by omega))
    have V2 : cV cm ci p e s P S I2 := cV_o hV0 (fun a j z => o2 a j (by omega))
    refine ps_aload rfl rfl ?_
    refine ps_gfr 10 13 rfl rfl rfl (by first | exact hS0 _ _ | exact hS1 _ _ | exact hS2 _ _ | exact hS3 _ _ | exact hS4 _ _ | exact hS5 _ _ | exact hS6 _ _ | exact hS7 _ _ | exact hS8 _ _ | exact hS9 _ _ | exact hS10 _ _ | exact hS11 _ _ | exact hS12 _ _ | exact hS13 _ _ | exact hS14 _ _ | exact hS15 _ _ | exact hS16 _ _ | exact hS17 _ _ | exact hS18 _ _ | exact hS19 _ _ | exact hS20 _ _ | exact hS21 _ _ | exact hS22 _ _ | exact hS23 _ _ | assumption | rfl) rfl (by first | assumption | rfl) ?_
    refine ps_aload rfl rfl ?_
    refine ps_gfr 10 5 rfl rfl rfl (by first | exact hS0 _ _ | exact hS1 _ _ | exact hS2 _ _ | exact hS3 _ _ | exact hS4 _ _ | exact hS5 _ _ | exact hS6 _ _ | exact hS7 _ _ | exact hS8 _ _ | exact hS9 _ _ | exact hS10 _ _ | exact hS11 _ _ | exact hS12 _ _ | exact hS13 _ _ | exact hS14 _ _ | exact hS15 _ _ | exact hS16 _ _ | exact hS17 _ _ | exact hS18 _ _ | exact hS19 _ _ | exact hS20 _ _ | exact hS21 _ _ | exact hS22 _ _ | exact hS23 _ _ | assumption | rfl) rfl (by first | assumption | rfl) ?_
    refine ps_iload rfl rfl ?_
    refine ps_iload rfl rfl ?_
    refine pv_k rfl rfl rfl rfl rfl (hS10 _ _) rfl ⟨Nat.zero_le _, Nat.zero_le _⟩ ?_
    refine B_weighedX hp V2.2.2.2.2.2.1.1 hS6 (by omega) (by omega) ?_
    rw [wtF_e (P := P) w0 v0 q2 (fun i hi => (V2.2.2.2.2.2.1.2.2.2.2 i hi).2)]
    refine ps_iret rfl rfl ?_
    exact kk I2 o2
  have outer : ∀ d k, k + d = S.n 0 → ∀ I', (∀ a j, ¬ a = cm + 6 → I' a j = I a j) → (∀ i, i < P.w * P.v → I' (cm + 6) i = anR P S k i) → ∀ u5 : Value, pm_W (g_P ys) 166 27 [.ref cm, .int (nI x), .int (nI y), .ref (e + 1), .int (nI k), u5] [] (I', L, g_R s, 306) (0, 0) Q := by
    intro d
    induction d with
    | zero =>
      intro k hk I' k1 k2 u5
      have ek : k = S.n 0 := by omega
      subst ek
      refine ps_iload rfl rfl ?_
      refine ps_aload rfl rfl ?_
      refine ps_gfi 6 3 rfl rfl rfl (by first | exact hS0 _ _ | exact hS1 _ _ | exact hS2 _ _ | exact hS3 _ _ | exact hS4 _ _ | exact hS5 _ _ | exact hS6 _ _ | exact hS7 _ _ | exact hS8 _ _ | exact hS9 _ _ | exact hS10 _ _ | exact hS11 _ _ | exact hS12 _ _ | exact hS13 _ _ | exact hS14 _ _ | exact hS15 _ _ | exact hS16 _ _ | exact hS17 _ _ | exact hS18 _ _ | exact hS19 _ _ | exact hS20 _ _ | exact hS21 _ _ | exact hS22 _ _ | exact hS23 _ _ | assumption | rfl) rfl ?_
      rw [show ((I', L, g_R s, 306) : pm_H).1 (e + 1) 3 = nI (S.n 0) from (k1 _ _ (by omega)).trans cn]
      refine ps_icmpt rfl (decide_eq_true (nI_le (by omega) (by omega))) ?_
      exact fin I' k1 k2 _ _
    | succ d ih =>
      intro k hk I' k1 k2 u5
      have r0 : I (e + 1 + 1) k = S.sc 0 k 0 := row k (by omega) 0 (by omega)
      have r1 : I (e + 1 + 2) k = S.sc 0 k 1 := row k (by omega) 1 (by omega)
      have r2 : I (e + 1 + 3) k = S.sc 0 k 2 := row k (by omega) 2 (by omega)
      have inner : ∀ d i, i + d = P.w * P.v → ∀ I2, (∀ a j, ¬ a = cm + 6 → I2 a j = I a j) → (∀ j, j < P.w * P.v → I2 (cm + 6) j = if j < i then anR P S k j - S.sc 0 k 2 else anR P S k j) → pm_W (g_P ys) 166 39 [.ref cm, .int (nI x), .int (nI y), .ref (e + 1), .int (nI k), .int (nI i)] [] (I2, L, g_R s, 306) (0, 0) Q := by
        intro d2
        induction d2 with
        | zero =>
          intro i hi I2 q1 q2
          have P2 := cP_o hP.1 (fun j => q1 p j (by omega))
          refine ps_iload rfl rfl ?_
          refine ps_aload rfl rfl ?_
          refine ps_gfr 10 13 rfl rfl rfl (by first | exact hS0 _ _ | exact hS1 _ _ | exact hS2 _ _ | exact hS3 _ _ | exact hS4 _ _ | exact hS5 _ _ | exact hS6 _ _ | exact hS7 _ _ | exact hS8 _ _ | exact hS9 _ _ | exact hS10 _ _ | exact hS11 _ _ | exact hS12 _ _ | exact hS13 _ _ | exact hS14 _ _ | exact hS15 _ _ | exact hS16 _ _ | exact hS17 _ _ | exact hS18 _ _ | exact hS19 _ _ | exact hS20 _ _ | exact hS21 _ _ | exact hS22 _ _ | exact hS23 _ _ | assumption | rfl) rfl (by first | assumption | rfl) ?_
          refine ps_gfi 9 6 rfl rfl rfl (by first | exact hS0 _ _ | exact hS1 _ _ | exact hS2 _ _ | exact hS3 _ _ | exact hS4 _ _ | exact hS5 _ _ | exact hS6 _ _ | exact hS7 _ _ | exact hS8 _ _ | exact hS9 _ _ | exact hS10 _ _ | exact hS11 _ _ | exact hS12 _ _ | exact hS13 _ _ | exact hS14 _ _ | exact hS15 _ _ | exact hS16 _ _ | exact hS17 _ _ | exact hS18 _ _ | exact hS19 _ _ | exact hS20 _ _ | exact hS21 _ _ | exact hS22 _ _ | exact hS23 _ _ | assumption | rfl) rfl ?_
          rw [show ((I2, L, g_R s, 306) : pm_H).1 p 6 = nI (P.w * P.v) from P2.2.2.1]
          refine ps_icmpt rfl (decide_eq_true (nI_le (by omega) (by omega))) ?_
          refine ps_aload rfl rfl ?_
          refine ps_gfr 10 13 rfl rfl rfl (by first | exact hS0 _ _ | exact hS1 _ _ | exact hS2 _ _ | exact hS3 _ _ | exact hS4 _ _ | exact hS5 _ _ | exact hS6 _ _ | exact hS7 _ _ | exact hS8 _ _ | exact hS9 _ _ | exact hS10 _ _ | exact hS11 _ _ | exact hS12 _ _ | exact hS13 _ _ | exact hS14 _ _ | exact hS15 _ _ | exact hS16 _ _ | exact hS17 _ _ | exact hS18 _ _ | exact hS19 _ _ | exact hS20 _ _ | exact hS21 _ _ | exact hS22 _ _ | exact hS23 _ _ | assumption | rfl) rfl (by first | assumption | rfl) ?_
          refine ps_aload rfl rfl ?_
          refine ps_gfr 10 5 rfl rfl rfl (by first | exact hS0 _ _ | exact hS1 _ _ | exact hS2 _ _ | exact hS3 _ _ | exact hS4 _ _ | exact hS5 _ _ | exact hS6 _ _ | exact hS7 _ _ | exact hS8 _ _ | exact hS9 _ _ | exact hS10 _ _ | exact hS11 _ _ | exact hS12 _ _ | exact hS13 _ _ | exact hS14 _ _ | exact hS15 _ _ | exact hS16 _ _ | exact hS17 _ _ | exact hS18 _ _ | exact hS19 _ _ | exact hS20 _ _ | exact hS21 _ _ | exact hS22 _ _ | exact hS23 _ _ | assumption | rfl) rfl (by first | assumption | rfl) ?_
          refine ps_aload rfl rfl ?_
          refine ps_gfr 10 13 rfl rfl rfl (by first | exact hS0 _ _ | exact hS1 _ _ | exact hS2 _ _ | exact hS3 _ _ | exact hS4 _ _ | exact hS5 _ _ | exact hS6 _ _ | exact hS7 _ _ | exact hS8 _ _ | exact hS9 _ _ | exact hS10 _ _ | exact hS11 _ _ | exact hS12 _ _ | exact hS13 _ _ | exact hS14 _ _ | exact hS15 _ _ | exact hS16 _ _ | exact hS17 _ _ | exact hS18 _ _ | exact hS19 _ _ | exact hS20 _ _ | exact hS21 _ _ | exact hS22 _ _ | exact hS23 _ _ | assumption | rfl) rfl (by first | assumption | rfl) ?_
          refine ps_gfr 9 0 rfl rfl rfl (by first | exact hS0 _ _ | exact hS1 _ _ | exact hS2 _ _ | exact hS3 _ _ | exact hS4 _ _ | exact hS5 _ _ | exact hS6 _ _ | exact hS7 _ _ | exact hS8 _ _ | exact hS9 _ _ | exact hS10 _ _ | exact hS11 _ _ | exact hS12 _ _ | exact hS13 _ _ | exact hS14 _ _ | exact hS15 _ _ | exact hS16 _ _ | exact hS17 _ _ | exact hS18 _ _ | exact hS19 _ _ | exact hS20 _ _ | exact hS21 _ _ | exact hS22 _ _ | exact hS23 _ _ | assumption | rfl) rfl (by first | assumption | rfl) ?_
          refine ps_aload rfl rfl ?_
          refine ps_gfr 6 0 rfl rfl rfl (by first | exact hS0 _ _ | exact hS1 _ _ | exact hS2 _ _ | exact hS3 _ _ | exact hS4 _ _ | exact hS5 _ _ | exact hS6 _ _ | exact hS7 _ _ | exact hS8 _ _ | exact hS9 _ _ | exact hS10 _ _ | exact hS11 _ _ | exact hS12 _ _ | exact hS13 _ _ | exact hS14 _ _ | exact hS15 _ _ | exact hS16 _ _ | exact hS17 _ _ | exact hS18 _ _ | exact hS19 _ _ | exact hS20 _ _ | exact hS21 _ _ | exact hS22 _ _ | exact hS23 _ _ | assumption | rfl) rfl (by first | assumption | rfl) ?_
          refine ps_iload rfl rfl ?_
          refine ps_iald (k) rfl (by first | exact hS0 _ _ | exact hS1 _ _ | exact hS2 _ _ | exact hS3 _ _ | exact hS4 _ _ | exact hS5 _ _ | exact hS6 _ _ | exact hS7 _ _ | exact hS8 _ _ | exact hS9 _ _ | exact hS10 _ _ | exact hS11 _ _ | exact hS12 _ _ | exact hS13 _ _ | exact hS14 _ _ | exact hS15 _ _ | exact hS16 _ _ | exact hS17 _ _ | exact hS18 _ _ | exact hS19 _ _ | exact hS20 _ _ | exact hS21 _ _ | exact hS22 _ _ | exact hS23 _ _ | assumption | rfl) rfl (rfl) (by show k < 8; omega) ?_
          rw [show ((I2, L, g_R s, 306) : pm_H).1 (e + 1 + 1) k = S.sc 0 k 0 from (q1 _ _ (by omega)).trans r0]
          refine ps_ar rfl rfl rfl rfl rfl ?_
          refine ps_aload rfl rfl ?_
          refine ps_gfr 6 1 rfl rfl rfl (by first | exact hS0 _ _ | exact hS1 _ _ | exact hS2 _ _ | exact hS3 _ _ | exact hS4 _ _ | exact hS5 _ _ | exact hS6 _ _ | exact hS7 _ _ | exact hS8 _ _ | exact hS9 _ _ | exact hS10 _ _ | exact hS11 _ _ | exact hS12 _ _ | exact hS13 _ _ | exact hS14 _ _ | exact hS15 _ _ | exact hS16 _ _ | exact hS17 _ _ | exact hS18 _ _ | exact hS19 _ _ | exact hS20 _ _ | exact hS21 _ _ | exact hS22 _ _ | exact hS23 _ _ | assumption | rfl) rfl (by first | assumption | rfl) ?_
          refine ps_iload rfl rfl ?_
          refine ps_iald (k) rfl (by first | exact hS0 _ _ | exact hS1 _ _ | exact hS2 _ _ | exact hS3 _ _ | exact hS4 _ _ | exact hS5 _ _ | exact hS6 _ _ | exact hS7 _ _ | exact hS8 _ _ | exact hS9 _ _ | exact hS10 _ _ | exact hS11 _ _ | exact hS12 _ _ | exact hS13 _ _ | exact hS14 _ _ | exact hS15 _ _ | exact hS16 _ _ | exact hS17 _ _ | exact hS18 _ _ | exact hS19 _ _ | exact hS20 _ _ | exact hS21 _ _ | exact hS22 _ _ | exact hS23 _ _ | assumption | rfl) rfl (rfl) (by show k < 8; omega) ?_
          rw [show ((I2, L, g_R s, 306) : pm_H).1 (e + 1 + 2) k = S.sc 0 k 1 from (q1 _ _ (by omega)).trans r1]
          refine ps_ar rfl rfl rfl rfl rfl ?_
          refine pw_c rfl ?_
          refine ps_aload rfl rfl ?_
          refine ps_gfr 6 2 rfl rfl rfl (by first | exact hS0 _ _ | exact hS1 _ _ | exact hS2 _ _ | exact hS3 _ _ | exact hS4 _ _ | exact hS5 _ _ | exact hS6 _ _ | exact hS7 _ _ | exact hS8 _ _ | exact hS9 _ _ | exact hS10 _ _ | exact hS11 _ _ | exact hS12 _ _ | exact hS13 _ _ | exact hS14 _ _ | exact hS15 _ _ | exact hS16 _ _ | exact hS17 _ _ | exact hS18 _ _ | exact hS19 _ _ | exact hS20 _ _ | exact hS21 _ _ | exact hS22 _ _ | exact hS23 _ _ | assumption | rfl) rfl (by first | assumption | rfl) ?_
          refine ps_iload rfl rfl ?_
          refine ps_iald (k) rfl (by first | exact hS0 _ _ | exact hS1 _ _ | exact hS2 _ _ | exact hS3 _ _ | exact hS4 _ _ | exact hS5 _ _ | exact hS6 _ _ | exact hS7 _ _ | exact hS8 _ _ | exact hS9 _ _ | exact hS10 _ _ | exact hS11 _ _ | exact hS12 _ _ | exact hS13 _ _ | exact hS14 _ _ | exact hS15 _ _ | exact hS16 _ _ | exact hS17 _ _ | exact hS18 _ _ | exact hS19 _ _ | exact hS20 _ _ | exact hS21 _ _ | exact hS22 _ _ | exact hS23 _ _ | assumption | rfl) rfl (rfl) (by show k < 8; omega) ?_
          rw [show ((I2, L, g_R s, 306) : pm_H).1 (e + 1 + 3) k = S.sc 0 k 2 from (q1 _ _ (by omega)).trans r2]
          refine ps_ar rfl rfl rfl rfl rfl ?_
          refine pv_k rfl rfl rfl rfl rfl (hS10 _ _) rfl ⟨Nat.zero_le _, Nat.zero_le _⟩ ?_
          refine B_addShiftedX hp P2 hS6 hS11 (by omega) (by omega) _ _ _ (fun I3 f1 f2 => ?_)
          refine ps_iinc rfl rfl ?_
          refine ps_goto rfl ?_
          rw [show nI k + Int32.ofInt 1 = nI (k + 1) from nI_1 k]
          refine ih (k + 1) (by omega) I3 (fun a j z => (f1 a j (by omega)).trans (q1 a j z)) (fun i' hi' => ?_) _
          have sl : shF P.w P.v (-(S.sc 0 k 0)).toInt (-(S.sc 0 k 1)).toInt i' < P.w * P.v := cxy_lt w0 v0 _ _
          rw [f2 i' hi', q2 i' hi', if_pos (by omega), q1 _ _ (by omega), (hP.2.2.2.2 _ sl).1]
          rfl
        | succ d2 ihd =>
          intro i hi I2 q1 q2
          have P2 := cP_o hP.1 (fun j => q1 p j (by omega))
          refine ps_iload rfl rfl ?_
          refine ps_aload rfl rfl ?_
          refine ps_gfr 10 13 rfl rfl rfl (by first | exact hS0 _ _ | exact hS1 _ _ | exact hS2 _ _ | exact hS3 _ _ | exact hS4 _ _ | exact hS5 _ _ | exact hS6 _ _ | exact hS7 _ _ | exact hS8 _ _ | exact hS9 _ _ | exact hS10 _ _ | exact hS11 _ _ | exact hS12 _ _ | exact hS13 _ _ | exact hS14 _ _ | exact hS15 _ _ | exact hS16 _ _ | exact hS17 _ _ | exact hS18 _ _ | exact hS19 _ _ | exact hS20 _ _ | exact hS21 _ _ | exact hS22 _ _ | exact hS23 _ _ | assumption | rfl) rfl (by first | assumption | rfl) ?_
          refine ps_gfi 9 6 rfl rfl rfl (by first | exact hS0 _ _ | exact hS1 _ _ | exact hS2 _ _ | exact hS3 _ _ | exact hS4 _ _ | exact hS5 _ _ | exact hS6 _ _ | exact hS7 _ _ | exact hS8 _ _ | exact hS9 _ _ | exact hS10 _ _ | exact hS11 _ _ | exact hS12 _ _ | exact hS13 _ _ | exact hS14 _ _ | exact hS15 _ _ | exact hS16 _ _ | exact hS17 _ _ | exact hS18 _ _ | exact hS19 _ _ | exact hS20 _ _ | exact hS21 _ _ | exact hS22 _ _ | exact hS23 _ _ | assumption | rfl) rfl ?_
          rw [show ((I2, L, g_R s, 306) : pm_H).1 p 6 = nI (P.w * P.v) from P2.2.2.1]
          refine ps_icmpf rfl (decide_eq_false (nI_ge (by omega) (by omega))) ?_
          refine ps_aload rfl rfl ?_
          refine ps_gfr 10 5 rfl rfl rfl (by first | exact hS0 _ _ | exact hS1 _ _ | exact hS2 _ _ | exact hS3 _ _ | exact hS4 _ _ | exact hS5 _ _ | exact hS6 _ _ | exact hS7 _ _ | exact hS8 _ _ | exact hS9 _ _ | exact hS10 _ _ | exact hS11 _ _ | exact hS12 _ _ | exact hS13 _ _ | exact hS14 _ _ | exact hS15 _ _ | exact hS16 _ _ | exact hS17 _ _ | exact hS18 _ _ | exact hS19 _ _ | exact hS20 _ _ | exact hS21 _ _ | exact hS22 _ _ | exact hS23 _ _ | assumption | rfl) rfl (by first | assumption | rfl) ?_
          refine ps_iload rfl rfl ?_
          refine ps_ar rfl rfl rfl rfl rfl ?_
          refine ps_iald (i) rfl (by first | exact hS0 _ _ | exact hS1 _ _ | exact hS2 _ _ | exact hS3 _ _ | exact hS4 _ _ | exact hS5 _ _ | exact hS6 _ _ | exact hS7 _ _ | exact hS8 _ _ | exact hS9 _ _ | exact hS10 _ _ | exact hS11 _ _ | exact hS12 _ _ | exact hS13 _ _ | exact hS14 _ _ | exact hS15 _ _ | exact hS16 _ _ | exact hS17 _ _ | exact hS18 _ _ | exact hS19 _ _ | exact hS20 _ _ | exact hS21 _ _ | exact hS22 _ _ | exact hS23 _ _ | assumption | rfl) rfl (rfl) (by omega) ?_
          rw [show ((I2, L, g_R s, 306) : pm_H).1 (cm + 6) i = anR P S k i from (by have z := q2 i (by omega); rw [if_neg (by omega)] at z; exact z)]
          refine ps_aload rfl rfl ?_
          refine ps_gfr 6 2 rfl rfl rfl (by first | exact hS0 _ _ | exact hS1 _ _ | exact hS2 _ _ | exact hS3 _ _ | exact hS4 _ _ | exact hS5 _ _ | exact hS6 _ _ | exact hS7 _ _ | exact hS8 _ _ | exact hS9 _ _ | exact hS10 _ _ | exact hS11 _ _ | exact hS12 _ _ | exact hS13 _ _ | exact hS14 _ _ | exact hS15 _ _ | exact hS16 _ _ | exact hS17 _ _ | exact hS18 _ _ | exact hS19 _ _ | exact hS20 _ _ | exact hS21 _ _ | exact hS22 _ _ | exact hS23 _ _ | assumption | rfl) rfl (by first | assumption | rfl) ?_
          refine ps_iload rfl rfl ?_
          refine ps_iald (k) rfl (by first | exact hS0 _ _ | exact hS1 _ _ | exact hS2 _ _ | exact hS3 _ _ | exact hS4 _ _ | exact hS5 _ _ | exact hS6 _ _ | exact hS7 _ _ | exact hS8 _ _ | exact hS9 _ _ | exact hS10 _ _ | exact hS11 _ _ | exact hS12 _ _ | exact hS13 _ _ | exact hS14 _ _ | exact hS15 _ _ | exact hS16 _ _ | exact hS17 _ _ | exact hS18 _ _ | exact hS19 _ _ | exact hS20 _ _ | exact hS21 _ _ | exact hS22 _ _ | exact hS23 _ _ | assumption | rfl) rfl (rfl) (by show k < 8; omega) ?_
          rw [show ((I2, L, g_R s, 306) : pm_H).1 (e + 1 + 3) k = S.sc 0 k 2 from (q1 _ _ (by omega)).trans r2]
          refine ps_ar rfl rfl rfl rfl rfl ?_
          refine ps_iast (i) rfl (by first | exact hS0 _ _ | exact hS1 _ _ | exact hS2 _ _ | exact hS3 _ _ | exact hS4 _ _ | exact hS5 _ _ | exact hS6 _ _ | exact hS7 _ _ | exact hS8 _ _ | exact hS9 _ _ | exact hS10 _ _ | exact hS11 _ _ | exact hS12 _ _ | exact hS13 _ _ | exact hS14 _ _ | exact hS15 _ _ | exact hS16 _ _ | exact hS17 _ _ | exact hS18 _ _ | exact hS19 _ _ | exact hS20 _ _ | exact hS21 _ _ | exact hS22 _ _ | exact hS23 _ _ | assumption | rfl) rfl (rfl) (by omega) ?_
          refine ps_iinc rfl rfl ?_
          refine ps_goto rfl ?_
          rw [show nI i + Int32.ofInt 1 = nI (i + 1) from nI_1 i]
          refine ihd (i + 1) (by omega) _ (fun a j z => (pu_o z).trans (q1 a j z)) (fun j hj => ?_)
          show pm_u I2 (cm + 6) i (anR P S k i - S.sc 0 k 2) (cm + 6) j = _
          by_cases ej : j = i
          · rw [ej, pu_s, if_pos (by omega)]
          · rw [pu_n ej, q2 j hj]
            by_cases e2 : j < i
            · rw [if_pos e2, if_pos (by omega)]
            · rw [if_neg e2, if_neg (by omega)]
      refine ps_iload rfl rfl ?_
      refine ps_aload rfl rfl ?_
      refine ps_gfi 6 3 rfl rfl rfl (by first | exact hS0 _ _ | exact hS1 _ _ | exact hS2 _ _ | exact hS3 _ _ | exact hS4 _ _ | exact hS5 _ _ | exact hS6 _ _ | exact hS7 _ _ | exact hS8 _ _ | exact hS9 _ _ | exact hS10 _ _ | exact hS11 _ _ | exact hS12 _ _ | exact hS13 _ _ | exact hS14 _ _ | exact hS15 _ _ | exact hS16 _ _ | exact hS17 _ _ | exact hS18 _ _ | exact hS19 _ _ | exact hS20 _ _ | exact hS21 _ _ | exact hS22 _ _ | exact hS23 _ _ | assumption | rfl) rfl ?_
      rw [show ((I', L, g_R s, 306) : pm_H).1 (e + 1) 3 = nI (S.n 0) from (k1 _ _ (by omega)).trans cn]
      refine ps_icmpf rfl (decide_eq_false (nI_ge (by omega) (by omega))) ?_
      refine pw_c rfl ?_
      refine ps_istore rfl rfl ?_
      refine inner (P.w * P.v) 0 (by omega) I' k1 (fun j hj => ?_)
      rw [if_neg (by omega)]
      exact k2 j hj
  refine ps_aload rfl rfl ?_
  refine ps_gfr 10 5 rfl rfl rfl (by first | exact hS0 _ _ | exact hS1 _ _ | exact hS2 _ _ | exact hS3 _ _ | exact hS4 _ _ | exact hS5 _ _ | exact hS6 _ _ | exact hS7 _ _ | exact hS8 _ _ | exact hS9 _ _ | exact hS10 _ _ | exact hS11 _ _ | exact hS12 _ _ | exact hS13 _ _ | exact hS14 _ _ | exact hS15 _ _ | exact hS16 _ _ | exact hS17 _ _ | exact hS18 _ _ | exact hS19 _ _ | exact hS20 _ _ | exact hS21 _ _ | exact hS22 _ _ | exact hS23 _ _ | assumption | rfl) rfl (by first | assumption | rfl) ?_
  refine pw_c rfl ?_
  refine ps_aload rfl rfl ?_
  refine ps_gfr 10 13 rfl rfl rfl (by first | exact hS0 _ _ | exact hS1 _ _ | exact hS2 _ _ | exact hS3 _ _ | exact hS4 _ _ | exact hS5 _ _ | exact hS6 _ _ | exact hS7 _ _ | exact hS8 _ _ | exact hS9 _ _ | exact hS10 _ _ | exact hS11 _ _ | exact hS12 _ _ | exact hS13 _ _ | exact hS14 _ _ | exact hS15 _ _ | exact hS16 _ _ | exact hS17 _ _ | exact hS18 _ _ | exact hS19 _ _ | exact hS20 _ _ | exact hS21 _ _ | exact hS22 _ _ | exact hS23 _ _ | assumption | rfl) rfl (by first | assumption | rfl) ?_
  refine ps_gfi 9 6 rfl rfl rfl (by first | exact hS0 _ _ | exact hS1 _ _ | exact hS2 _ _ | exact hS3 _ _ | exact hS4 _ _ | exact hS5 _ _ | exact hS6 _ _ | exact hS7 _ _ | exact hS8 _ _ | exact hS9 _ _ | exact hS10 _ _ | exact hS11 _ _ | exact hS12 _ _ | exact hS13 _ _ | exact hS14 _ _ | exact hS15 _ _ | exact hS16 _ _ | exact hS17 _ _ | exact hS18 _ _ | exact hS19 _ _ | exact hS20 _ _ | exact hS21 _ _ | exact hS22 _ _ | exact hS23 _ _ | assumption | rfl) rfl ?_
  rw [show ((I, L, g_R s, 306) : pm_H).1 p 6 = nI (P.w * P.v) from hP.1.2.2.1]
  refine pw_c rfl ?_
  refine pw_k rfl rfl rfl rfl ⟨Nat.zero_le _, Nat.zero_le _⟩ ?_
  refine B_fillX (N := 289) hS6 (by omega) n9 0 (fun I1 f1 f2 => ?_)
  refine ps_aload rfl rfl ?_
  refine ps_gfr 10 14 rfl rfl rfl (by first | exact hS0 _ _ | exact hS1 _ _ | exact hS2 _ _ | exact hS3 _ _ | exact hS4 _ _ | exact hS5 _ _ | exact hS6 _ _ | exact hS7 _ _ | exact hS8 _ _ | exact hS9 _ _ | exact hS10 _ _ | exact hS11 _ _ | exact hS12 _ _ | exact hS13 _ _ | exact hS14 _ _ | exact hS15 _ _ | exact hS16 _ _ | exact hS17 _ _ | exact hS18 _ _ | exact hS19 _ _ | exact hS20 _ _ | exact hS21 _ _ | exact hS22 _ _ | exact hS23 _ _ | assumption | rfl) rfl (by first | assumption | rfl) ?_
  refine ps_gfr 5 0 rfl rfl rfl (by first | exact hS0 _ _ | exact hS1 _ _ | exact hS2 _ _ | exact hS3 _ _ | exact hS4 _ _ | exact hS5 _ _ | exact hS6 _ _ | exact hS7 _ _ | exact hS8 _ _ | exact hS9 _ _ | exact hS10 _ _ | exact hS11 _ _ | exact hS12 _ _ | exact hS13 _ _ | exact hS14 _ _ | exact hS15 _ _ | exact hS16 _ _ | exact hS17 _ _ | exact hS18 _ _ | exact hS19 _ _ | exact hS20 _ _ | exact hS21 _ _ | exact hS22 _ _ | exact hS23 _ _ | assumption | rfl) rfl (by first | assumption | rfl) ?_
  refine ps_astore rfl rfl ?_
  refine pw_c rfl ?_
  refine ps_istore rfl rfl ?_
  exact outer (S.n 0) 0 (by omega) I1 (fun a j z => f1 a j (by omega)) f2 _
end TO
