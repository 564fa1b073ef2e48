/-! BY HAND: the class's SIDES; its camera: lost CELLS, counts, shadows -/
section TJ
variable {I I' J : Nat → Nat → Int32} {L : Nat → Nat → Int64} {s : Nat → Option Nat} {Q : List Value → pm_H → Prop} {ys : List Int32} {p e m t cm ci : Nat} {P : sPl} {S : sS}
def sdF (P : sPl) : Nat → Int32 := ovF P.w P.v P.ho P.we
def lsS (P : sPl) : Int32 := mnF (sdF P) (P.w * P.v)
def gsS (P : sPl) : Int32 := mxF (sdF P) (P.w * P.v)
/-- SIDES are known; or not yet -/
def cSk (I : Nat → Nat → Int32) (p : Nat) (P : sPl) : Prop := I p 9 = 1 ∧ (∀ i, i < P.w * P.v → I (p + 3) i = sdF P i) ∧ I p 10 = lsS P ∧ I p 11 = gsS P
def cSd (I : Nat → Nat → Int32) (p : Nat) (P : sPl) : Prop := I p 9 = 0 ∨ cSk I p P
def skA (p : Nat) (I I' : Nat → Nat → Int32) : Prop := ∀ a j : Nat, ¬ (a = p ∧ 9 ≤ j ∧ j ≤ 11) → ¬ (a = p + 3) → I' a j = I a j
theorem cPq_s (h : cPq I p P) (k : skA p I I') : cPq I' p P := by
  obtain ⟨⟨g1, g2, g3, g4⟩, g5, g6, g7, g8⟩ := h
  exact ⟨⟨(k _ _ (by omega) (by omega)).trans g1, (k _ _ (by omega) (by omega)).trans g2, (k _ _ (by omega) (by omega)).trans g3, g4⟩, (k _ _ (by omega) (by omega)).trans g5, (k _ _ (by omega) (by omega)).trans g6, (k _ _ (by omega) (by omega)).trans g7, fun i hi => ⟨(k _ _ (by omega) (by omega)).trans (g8 i hi).1, (k _ _ (by omega) (by omega)).trans (g8 i hi).2⟩⟩
theorem B_knowSidesX (hp : isP p) (hP : cPq I p P) (hs : cSd I p P) (kk : ∀ I', skA p I I' → cSk I' p P → Q [] (I', L, g_R s, 306)) : pm_W (g_P ys) 85 0 [.ref p] [] (I, L, g_R s, 306) (0, 0) Q := by
  obtain ⟨hS0, hS1, hS2, hS3, hR0, hR1, hR2⟩ := pl_F (ys := ys) (s := s) hp
  rcases hs with hs | hs
  · have w0 := hP.1.2.2.2.1
    have v0 := hP.1.2.2.2.2.1
    refine ps_aload rfl rfl ?_
    refine ps_gfi 9 9 rfl rfl rfl (by first | exact hS0 _ _ | exact hS1 _ _ | exact hS2 _ _ | exact hS3 _ _ | exact hS4 _ _ | exact hS5 _ _ | exact hS6 _ _ | exact hS7 _ _ | exact hS8 _ _ | exact hS9 _ _ | exact hS10 _ _ | exact hS11 _ _ | exact hS12 _ _ | exact hS13 _ _ | exact hS14 _ _ | exact hS15 _ _ | exact hS16 _ _ | exact hS17 _ _ | exact hS18 _ _ | exact hS19 _ _ | exact hS20 _ _ | exact hS21 _ _ | exact hS22 _ _ | exact hS23 _ _ | assumption | rfl) rfl ?_
    rw [show ((I, L, g_R s, 306) : pm_H).1 p 9 = 0 from hs]
    refine ps_ift rfl (rfl) ?_
    refine ps_aload rfl rfl ?_
    refine ps_aload rfl rfl ?_
    refine ps_gfr 9 2 rfl rfl rfl (by first | exact hS0 _ _ | exact hS1 _ _ | exact hS2 _ _ | exact hS3 _ _ | exact hS4 _ _ | exact hS5 _ _ | exact hS6 _ _ | exact hS7 _ _ | exact hS8 _ _ | exact hS9 _ _ | exact hS10 _ _ | exact hS11 _ _ | exact hS12 _ _ | exact hS13 _ _ | exact hS14 _ _ | exact hS15 _ _ | exact hS16 _ _ | exact hS17 _ _ | exact hS18 _ _ | exact hS19 _ _ | exact hS20 _ _ | exact hS21 _ _ | exact hS22 _ _ | exact hS23 _ _ | assumption | rfl) rfl (by first | assumption | rfl) ?_
    refine ps_aload rfl rfl ?_
    refine ps_gfr 9 1 rfl rfl rfl (by first | exact hS0 _ _ | exact hS1 _ _ | exact hS2 _ _ | exact hS3 _ _ | exact hS4 _ _ | exact hS5 _ _ | exact hS6 _ _ | exact hS7 _ _ | exact hS8 _ _ | exact hS9 _ _ | exact hS10 _ _ | exact hS11 _ _ | exact hS12 _ _ | exact hS13 _ _ | exact hS14 _ _ | exact hS15 _ _ | exact hS16 _ _ | exact hS17 _ _ | exact hS18 _ _ | exact hS19 _ _ | exact hS20 _ _ | exact hS21 _ _ | exact hS22 _ _ | exact hS23 _ _ | assumption | rfl) rfl (by first | assumption | rfl) ?_
    refine pv_k rfl rfl rfl rfl rfl (hS0 _ _) rfl ⟨Nat.zero_le _, Nat.zero_le _⟩ ?_
    refine B_overX (b := p + 3) (c := p + 2) hp hP.1 hS3 hS2 (by omega) (by omega) (by omega) (fun I1 g1 g2 => ?_)
    have c1 : cP I1 p P.w P.v := cP_o hP.1 (fun j => g1 p j (by omega))
    have ev : ∀ j, j < P.w * P.v → I1 (p + 3) j = sdF P j := fun j hj => (g2 j hj).trans (ovF_c w0 v0 (fun i hi => (hP.2.2.2.2 i hi).1) (fun i hi => (hP.2.2.2.2 i hi).2) j)
    refine ps_aload rfl rfl ?_
    refine ps_aload rfl rfl ?_
    refine ps_aload rfl rfl ?_
    refine ps_gfr 9 2 rfl rfl rfl (by first | exact hS0 _ _ | exact hS1 _ _ | exact hS2 _ _ | exact hS3 _ _ | exact hS4 _ _ | exact hS5 _ _ | exact hS6 _ _ | exact hS7 _ _ | exact hS8 _ _ | exact hS9 _ _ | exact hS10 _ _ | exact hS11 _ _ | exact hS12 _ _ | exact hS13 _ _ | exact hS14 _ _ | exact hS15 _ _ | exact hS16 _ _ | exact hS17 _ _ | exact hS18 _ _ | exact hS19 _ _ | exact hS20 _ _ | exact hS21 _ _ | exact hS22 _ _ | exact hS23 _ _ | assumption | rfl) rfl (by first | assumption | rfl) ?_
    refine pv_k rfl rfl rfl rfl rfl (hS0 _ _) rfl ⟨Nat.zero_le _, Nat.zero_le _⟩ ?_
    refine B_leastX (b := p + 3) hp c1 hS3 ?_
    rw [mnF_c ev, show mnF (sdF P) (P.w * P.v) = lsS P from rfl]
    refine ps_pfi 9 10 rfl rfl rfl (by first | exact hS0 _ _ | exact hS1 _ _ | exact hS2 _ _ | exact hS3 _ _ | exact hS4 _ _ | exact hS5 _ _ | exact hS6 _ _ | exact hS7 _ _ | exact hS8 _ _ | exact hS9 _ _ | exact hS10 _ _ | exact hS11 _ _ | exact hS12 _ _ | exact hS13 _ _ | exact hS14 _ _ | exact hS15 _ _ | exact hS16 _ _ | exact hS17 _ _ | exact hS18 _ _ | exact hS19 _ _ | exact hS20 _ _ | exact hS21 _ _ | exact hS22 _ _ | exact hS23 _ _ | assumption | rfl) rfl ?_
    refine ps_aload rfl rfl ?_
    refine ps_aload rfl rfl ?_
    refine ps_aload rfl rfl ?_
    refine ps_gfr 9 2 rfl rfl rfl (by first | exact hS0 _ _ | exact hS1 _ _ | exact hS2 _ _ | exact hS3 _ _ | exact hS4 _ _ | exact hS5 _ _ | exact hS6 _ _ | exact hS7 _ _ | exact hS8 _ _ | exact hS9 _ _ | exact hS10 _ _ | exact hS11 _ _ | exact hS12 _ _ | exact hS13 _ _ | exact hS14 _ _ | exact hS15 _ _ | exact hS16 _ _ | exact hS17 _ _ | exact hS18 _ _ | exact hS19 _ _ | exact hS20 _ _ | exact hS21 _ _ | exact hS22 _ _ | exact hS23 _ _ | assumption | rfl) rfl (by first | assumption | rfl) ?_
    have c2 : cP (pm_u I1 p 10 (lsS P)) p P.w P.v := ⟨(pu_n (by decide)).trans c1.1, (pu_n (by decide)).trans c1.2.1, (pu_n (by decide)).trans c1.2.2.1, c1.2.2.2⟩
    have ev2 : ∀ j, j < P.w * P.v → pm_u I1 p 10 (lsS P) (p + 3) j = sdF P j := fun j hj => (pu_o (by omega)).trans (ev j hj)
    refine pv_k rfl rfl rfl rfl rfl (hS0 _ _) rfl ⟨Nat.zero_le _, Nat.zero_le _⟩ ?_
    refine B_greatX (b := p + 3) hp c2 hS3 ?_
    rw [mxF_c ev2]
    refine ps_pfi 9 11 rfl rfl rfl (by first | exact hS0 _ _ | exact hS1 _ _ | exact hS2 _ _ | exact hS3 _ _ | exact hS4 _ _ | exact hS5 _ _ | exact hS6 _ _ | exact hS7 _ _ | exact hS8 _ _ | exact hS9 _ _ | exact hS10 _ _ | exact hS11 _ _ | exact hS12 _ _ | exact hS13 _ _ | exact hS14 _ _ | exact hS15 _ _ | exact hS16 _ _ | exact hS17 _ _ | exact hS18 _ _ | exact hS19 _ _ | exact hS20 _ _ | exact hS21 _ _ | exact hS22 _ _ | exact hS23 _ _ | assumption | rfl) rfl ?_
    refine ps_aload rfl rfl ?_
    refine pw_c rfl ?_
    refine ps_pfz 9 9 rfl rfl rfl (by first | exact hS0 _ _ | exact hS1 _ _ | exact hS2 _ _ | exact hS3 _ _ | exact hS4 _ _ | exact hS5 _ _ | exact hS6 _ _ | exact hS7 _ _ | exact hS8 _ _ | exact hS9 _ _ | exact hS10 _ _ | exact hS11 _ _ | exact hS12 _ _ | exact hS13 _ _ | exact hS14 _ _ | exact hS15 _ _ | exact hS16 _ _ | exact hS17 _ _ | exact hS18 _ _ | exact hS19 _ _ | exact hS20 _ _ | exact hS21 _ _ | exact hS22 _ _ | exact hS23 _ _ | assumption | rfl) rfl (Or.inr rfl) ?_
    refine ps_vret rfl rfl ?_
    have o : ∀ a j, ¬ (a = p ∧ 9 ≤ j ∧ j ≤ 11) → pm_u (pm_u (pm_u I1 p 10 (lsS P)) p 11 (gsS P)) p 9 1 a j = I1 a j := fun a j h => (pu_x (by omega)).trans ((pu_x (by omega)).trans (pu_x (by omega)))
    refine kk _ (fun a j h1 h2 => (o a j h1).trans (g1 a j (by omega))) ⟨pu_s, fun i hi => (o _ _ (by omega)).trans (ev i hi), ?_, ?_⟩
    · show pm_u (pm_u (pm_u I1 p 10 (lsS P)) p 11 (gsS P)) p 9 1 p 10 = _
      rw [pu_n (by decide), pu_n (by decide), pu_s]
    · show pm_u (pm_u (pm_u I1 p 10 (lsS P)) p 11 (gsS P)) p 9 1 p 11 = _
      rw [pu_n (by decide), pu_s]
  · refine ps_aload rfl rfl ?_
    refine ps_gfi 9 9 rfl rfl rfl (by first | exact hS0 _ _ | exact hS1 _ _ | exact hS2 _ _ | exact hS3 _ _ | exact hS4 _ _ | exact hS5 _ _ | exact hS6 _ _ | exact hS7 _ _ | exact hS8 _ _ | exact hS9 _ _ | exact hS10 _ _ | exact hS11 _ _ | exact hS12 _ _ | exact hS13 _ _ | exact hS14 _ _ | exact hS15 _ _ | exact hS16 _ _ | exact hS17 _ _ | exact hS18 _ _ | exact hS19 _ _ | exact hS20 _ _ | exact hS21 _ _ | exact hS22 _ _ | exact hS23 _ _ | assumption | rfl) rfl ?_
    rw [show ((I, L, g_R s, 306) : pm_H).1 p 9 = 1 from hs.1]
    refine ps_iff rfl (rfl) ?_
    refine ps_vret rfl rfl ?_
    exact kk I (fun _ _ _ _ => rfl) hs
/-- it can restore -/
abbrev crP (P : sPl) : Prop := 2 ≤ P.w * P.v ∧ 0 < (suI P.ho (P.w * P.v)).toInt ∧ lsS P = gsS P ∧ ¬ sdF P 0 = lsS P
theorem B_canRestoreX (hp : isP p) (hP : cPq I p P) (hs : cSd I p P) (kY : crP P → ∀ I', skA p I I' → cSk I' p P → Q [.int 1] (I', L, g_R s, 306)) (kN : ¬ crP P → ∀ I', skA p I I' → cSk I' p P → Q [.int 0] (I', L, g_R s, 306)) : pm_W (g_P ys) 129 0 [.ref p] [] (I, L, g_R s, 306) (0, 0) Q := by
  obtain ⟨hS0, hS1, hS2, hS3, hR0, hR1, hR2⟩ := pl_F (ys := ys) (s := s) hp
  have n9 := hP.1.2.2.2.2.2
  have e0 : (0 : Int32).toInt = 0 := rfl
  refine ps_aload rfl rfl ?_
  refine pv_k rfl rfl rfl rfl rfl (hS0 _ _) rfl ⟨Nat.zero_le _, Nat.zero_le _⟩ ?_
  refine B_knowSidesX hp hP hs (fun I1 k1 s1 => ?_)
  have P1 := cPq_s hP k1
  have no : ¬ crP P → pm_W (g_P ys) 129 47 [.ref p] [] (I1, L, g_R s, 306) (0, 0) Q := by
    intro z
    refine pw_c rfl ?_
    refine ps_zret rfl rfl (Or.inl rfl) ?_
    exact kN z I1 k1 s1
  refine ps_aload rfl rfl ?_
  refine ps_gfi 9 6 rfl rfl rfl (by first | exact hS0 _ _ | exact hS1 _ _ | exact hS2 _ _ | exact hS3 _ _ | exact hS4 _ _ | exact hS5 _ _ | exact hS6 _ _ | exact hS7 _ _ | exact hS8 _ _ | exact hS9 _ _ | exact hS10 _ _ | exact hS11 _ _ | exact hS12 _ _ | exact hS13 _ _ | exact hS14 _ _ | exact hS15 _ _ | exact hS16 _ _ | exact hS17 _ _ | exact hS18 _ _ | exact hS19 _ _ | exact hS20 _ _ | exact hS21 _ _ | exact hS22 _ _ | exact hS23 _ _ | assumption | rfl) rfl ?_
  rw [show ((I1, L, g_R s, 306) : pm_H).1 p 6 = nI (P.w * P.v) from P1.1.2.2.1]
  by_cases h1 : 2 ≤ P.w * P.v
  · refine pw_c rfl ?_
    refine ps_icmpf rfl (decide_eq_false (fun z => by have z := (nI_ltI (b := 2) (by omega) (by omega)).mp z; omega)) ?_
    refine ps_aload rfl rfl ?_
    refine ps_gfi 9 7 rfl rfl rfl (by first | exact hS0 _ _ | exact hS1 _ _ | exact hS2 _ _ | exact hS3 _ _ | exact hS4 _ _ | exact hS5 _ _ | exact hS6 _ _ | exact hS7 _ _ | exact hS8 _ _ | exact hS9 _ _ | exact hS10 _ _ | exact hS11 _ _ | exact hS12 _ _ | exact hS13 _ _ | exact hS14 _ _ | exact hS15 _ _ | exact hS16 _ _ | exact hS17 _ _ | exact hS18 _ _ | exact hS19 _ _ | exact hS20 _ _ | exact hS21 _ _ | exact hS22 _ _ | exact hS23 _ _ | assumption | rfl) rfl ?_
    rw [show ((I1, L, g_R s, 306) : pm_H).1 p 7 = suI P.ho (P.w * P.v) from P1.2.2.1]
    by_cases h2 : 0 < (suI P.ho (P.w * P.v)).toInt
    · refine ps_iff rfl (decide_eq_false (fun z => by have z := (i_le _ _).mp z; omega)) ?_
      refine ps_aload rfl rfl ?_
      refine ps_gfi 9 10 rfl rfl rfl (by first | exact hS0 _ _ | exact hS1 _ _ | exact hS2 _ _ | exact hS3 _ _ | exact hS4 _ _ | exact hS5 _ _ | exact hS6 _ _ | exact hS7 _ _ | exact hS8 _ _ | exact hS9 _ _ | exact hS10 _ _ | exact hS11 _ _ | exact hS12 _ _ | exact hS13 _ _ | exact hS14 _ _ | exact hS15 _ _ | exact hS16 _ _ | exact hS17 _ _ | exact hS18 _ _ | exact hS19 _ _ | exact hS20 _ _ | exact hS21 _ _ | exact hS22 _ _ | exact hS23 _ _ | assumption | rfl) rfl ?_
      rw [show ((I1, L, g_R s, 306) : pm_H).1 p 10 = lsS P from s1.2.2.1]
      refine ps_aload rfl rfl ?_
      refine ps_gfi 9 11 rfl rfl rfl (by first | exact hS0 _ _ | exact hS1 _ _ | exact hS2 _ _ | exact hS3 _ _ | exact hS4 _ _ | exact hS5 _ _ | exact hS6 _ _ | exact hS7 _ _ | exact hS8 _ _ | exact hS9 _ _ | exact hS10 _ _ | exact hS11 _ _ | exact hS12 _ _ | exact hS13 _ _ | exact hS14 _ _ | exact hS15 _ _ | exact hS16 _ _ | exact hS17 _ _ | exact hS18 _ _ | exact hS19 _ _ | exact hS20 _ _ | exact hS21 _ _ | exact hS22 _ _ | exact hS23 _ _ | assumption | rfl) rfl ?_
      rw [show ((I1, L, g_R s, 306) : pm_H).1 p 11 = gsS P from s1.2.2.2]
      by_cases h3 : lsS P = gsS P
      · refine ps_icmpf rfl (decide_eq_false (fun z => z h3)) ?_
        refine ps_aload rfl rfl ?_
        refine ps_gfr 9 2 rfl rfl rfl (by first | exact hS0 _ _ | exact hS1 _ _ | exact hS2 _ _ | exact hS3 _ _ | exact hS4 _ _ | exact hS5 _ _ | exact hS6 _ _ | exact hS7 _ _ | exact hS8 _ _ | exact hS9 _ _ | exact hS10 _ _ | exact hS11 _ _ | exact hS12 _ _ | exact hS13 _ _ | exact hS14 _ _ | exact hS15 _ _ | exact hS16 _ _ | exact hS17 _ _ | exact hS18 _ _ | exact hS19 _ _ | exact hS20 _ _ | exact hS21 _ _ | exact hS22 _ _ | exact hS23 _ _ | assumption | rfl) rfl (by first | assumption | rfl) ?_
        refine pw_c rfl ?_
        refine ps_iald (0) rfl (by first | exact hS0 _ _ | exact hS1 _ _ | exact hS2 _ _ | exact hS3 _ _ | exact hS4 _ _ | exact hS5 _ _ | exact hS6 _ _ | exact hS7 _ _ | exact hS8 _ _ | exact hS9 _ _ | exact hS10 _ _ | exact hS11 _ _ | exact hS12 _ _ | exact hS13 _ _ | exact hS14 _ _ | exact hS15 _ _ | exact hS16 _ _ | exact hS17 _ _ | exact hS18 _ _ | exact hS19 _ _ | exact hS20 _ _ | exact hS21 _ _ | exact hS22 _ _ | exact hS23 _ _ | assumption | rfl) rfl (rfl) (by omega) ?_
        rw [show ((I1, L, g_R s, 306) : pm_H).1 (p + 3) 0 = sdF P 0 from s1.2.1 0 (by omega)]
        refine ps_aload rfl rfl ?_
        refine ps_gfi 9 10 rfl rfl rfl (by first | exact hS0 _ _ | exact hS1 _ _ | exact hS2 _ _ | exact hS3 _ _ | exact hS4 _ _ | exact hS5 _ _ | exact hS6 _ _ | exact hS7 _ _ | exact hS8 _ _ | exact hS9 _ _ | exact hS10 _ _ | exact hS11 _ _ | exact hS12 _ _ | exact hS13 _ _ | exact hS14 _ _ | exact hS15 _ _ | exact hS16 _ _ | exact hS17 _ _ | exact hS18 _ _ | exact hS19 _ _ | exact hS20 _ _ | exact hS21 _ _ | exact hS22 _ _ | exact hS23 _ _ | assumption | rfl) rfl ?_
        rw [show ((I1, L, g_R s, 306) : pm_H).1 p 10 = lsS P from s1.2.2.1]
        by_cases h4 : sdF P 0 = lsS P
        · refine ps_icmpt rfl (decide_eq_true h4) ?_
          exact no (fun z => z.2.2.2 h4)
        · refine ps_icmpf rfl (decide_eq_false h4) ?_
          refine pw_c rfl ?_
          refine ps_goto rfl ?_
          refine ps_zret rfl rfl (Or.inr rfl) ?_
          exact kY ⟨h1, h2, h3, h4⟩ I1 k1 s1
      · refine ps_icmpt rfl (decide_eq_true h3) ?_
        exact no (fun z => h3 z.2.2.1)
    · refine ps_ift rfl (decide_eq_true ((i_le _ _).mpr (by omega))) ?_
      exact no (fun z => h2 z.2.1)
  · refine pw_c rfl ?_
    refine ps_icmpt rfl (decide_eq_true ((nI_ltI (b := 2) (by omega) (by omega)).mpr (by omega))) ?_
    exact no (fun z => h1 z.1)
/-- the class's cameras -/
def isC (cm ci : Nat) : Prop := (cm = 255 ∧ ci = 2) ∨ (cm = 265 ∧ ci = 4)
theorem cam_F (hc : isC cm ci) : (∀ I L, pm_sh (g_P ys) (I, L, g_R s, 306) cm = some (.inl 10)) ∧ (∀ I L, pm_sh (g_P ys) (I, L, g_R s, 306) (cm + 1) = some (.inr (0, 289))) ∧ (∀ I L, pm_sh (g_P ys) (I, L, g_R s, 306) (cm + 2) = some (.inr (0, 289))) ∧ (∀ I L, pm_sh (g_P ys) (I, L, g_R s, 306) (cm + 3) = some (.inr (0, 289))) ∧ (∀ I L, pm_sh (g_P ys) (I, L, g_R s, 306) (cm + 4) = some (.inr (0, 289))) ∧ (∀ I L, pm_sh (g_P ys) (I, L, g_R s, 306) (cm + 5) = some (.inr (0, 289))) ∧ (∀ I L, pm_sh (g_P ys) (I, L, g_R s, 306) (cm + 6) = some (.inr (0, 289))) ∧ (∀ I L, pm_sh (g_P ys) (I, L, g_R s, 306) (cm + 7) = some (.inr (0, 289))) ∧ (∀ I L, pm_sh (g_P ys) (I, L, g_R s, 306) (cm + 8) = some (.inr (0, 8))) ∧ (∀ I L, pm_sh (g_P ys) (I, L, g_R s, 306) (cm + 9) = some (.inr (0, 8))) := by
  rcases hc with ⟨rfl, rfl⟩ | ⟨rfl, rfl⟩ <;> exact ⟨fun _ _ => rfl, fun _ _ => rfl, fun _ _ => rfl, fun _ _ => rfl, fun _ _ => rfl, fun _ _ => rfl, fun _ _ => rfl, fun _ _ => rfl, fun _ _ => rfl, fun _ _ => rfl⟩
theorem cam_R (hc : isC cm ci) : g_R s cm 0 = some (cm + 1) ∧ g_R s cm 1 = some (cm + 2) ∧ g_R s cm 2 = some (cm + 3) ∧ g_R s cm 3 = some (cm + 4) ∧ g_R s cm 4 = some (cm + 5) ∧ g_R s cm 5 = some (cm + 6) ∧ g_R s cm 6 = some (cm + 7) ∧ g_R s cm 7 = some (cm + 8) ∧ g_R s cm 8 = some (cm + 9) ∧ g_R s cm 13 = s ci ∧ g_R s cm 14 = s (ci + 1) := by
  rcases hc with ⟨rfl, rfl⟩ | ⟨rfl, rfl⟩ <;> exact ⟨rfl, rfl, rfl, rfl, rfl, rfl, rfl, rfl, rfl, rfl, rfl⟩
theorem isP_lt (hp : isP p) : 190 ≤ p ∧ p + 3 ≤ 254 := by
  obtain ⟨b, k, hb, hk, rfl⟩ := hp
  rcases hb with rfl | rfl <;> omega
theorem isE_lt (he : isE e) : 14 ≤ e ∧ e + 12 ≤ 228 := by
  rcases he with (rfl | rfl) | ⟨i, hi, rfl⟩ <;> omega
theorem isC_ge (hc : isC cm ci) : 255 ≤ cm := by
  rcases hc with ⟨rfl, rfl⟩ | ⟨rfl, rfl⟩ <;> omega
/-- the CELL of a thing -/
def cellF (P : sPl) (x y : Int32) : Nat := cxy P.w P.v x.toInt y.toInt
end TJ
