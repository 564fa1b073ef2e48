/-! BY HAND: the class's camera, exactly, third: lights, errors, the greatest (printed by wip/src/gen97zzk.py) -/
section TM
variable {I I' J : Nat → Nat → Int32} {L : Nat → Nat → Int64} {s s' : Nat → Option Nat} {Q : List Value → pm_H → Prop} {ys : List Int32} {p e m t cm ci r : Nat} {P : sPl} {S : sS} {g : Nat → Int32} {h : pm_H}
/-- a camera that is aimed at the PLATE P and the scene S -/
def cV (cm ci p e : Nat) (s : Nat → Option Nat) (P : sPl) (S : sS) (I : Nat → Nat → Int32) : Prop := isC cm ci ∧ isP p ∧ isE e ∧ s ci = some p ∧ s (ci + 1) = some e ∧ cPq I p P ∧ cSc e S I ∧ S.ok
theorem pe_ne (hp : isP p) (he : isE e) : e + 12 < p ∨ p + 3 < e := by
  obtain ⟨b, k, hb, hk, rfl⟩ := hp
  rcases hb with rfl | rfl <;> rcases he with (rfl | rfl) | ⟨i, hi, rfl⟩ <;> omega
theorem cV_s (h : cV cm ci p e s P S I) (k : skA p I I') : cV cm ci p e s P S I' := by
  obtain ⟨hc, hp, he, h1, h2, hP, hS, ok⟩ := h
  have ne := pe_ne hp he
  exact ⟨hc, hp, he, h1, h2, cPq_s hP k, cSc_t hS (fun a j z1 z2 => k a j (by omega) (by omega)), ok⟩
theorem cV_o (h : cV cm ci p e s P S I) (k : ∀ a j, a < 255 → I' a j = I a j) : cV cm ci p e s P S I' := by
  obtain ⟨hc, hp, he, h1, h2, hP, hS, ok⟩ := h
  have el := isE_lt he
  have pl := isP_lt hp
  obtain ⟨⟨q1, q2, q3, q4⟩, q5, q6, q7, q8⟩ := hP
  have kp : ∀ a j, a ≤ p + 2 → I' a j = I a j := fun a j hj => k a j (by omega)
  exact ⟨hc, hp, he, h1, h2, ⟨⟨(kp _ _ (by omega)).trans q1, (kp _ _ (by omega)).trans q2, (kp _ _ (by omega)).trans q3, q4⟩, (kp _ _ (by omega)).trans q5, (kp _ _ (by omega)).trans q6, (kp _ _ (by omega)).trans q7, fun i hi => ⟨(kp _ _ (by omega)).trans (q8 i hi).1, (kp _ _ (by omega)).trans (q8 i hi).2⟩⟩, cSc_t hS (fun a j z1 z2 => k a j (by omega)), ok⟩
/-- rounded down -/
theorem i_sb0 (a b : Int32) : a - b = 0 ↔ a = b := by rw [Int32.sub_eq_iff_eq_add, Int32.zero_add]
def fdI (a b : Int32) : Int32 := if ¬ a - a / b * b = 0 ∧ ¬ (decide (a < 0) = decide (b < 0)) then a / b - 1 else a / b
theorem xor_ngb (a b : Int32) : decide ((a ^^^ b) < 0) = (decide (a < 0) != decide (b < 0)) := by
  have m : ∀ x : Int32, decide (x < 0) = x.toBitVec.msb := fun x => by
    rw [BitVec.msb_eq_toInt, Bool.eq_iff_iff, decide_eq_true_iff, decide_eq_true_iff, i_lt]
    exact Iff.rfl
  rw [m, m, m, Int32.toBitVec_xor, BitVec.msb_xor]
theorem B_floorDivX (a b : Int32) (hb : ¬ b = 0) (kk : Q [.int (fdI a b)] h) : pm_W (g_P ys) 138 0 [.int a, .int b, .retAddr 0] [] h (0, 0) Q := by
  unfold fdI at kk
  have x := xor_ngb a b
  have eq : a / b * b = a ↔ a - a / b * b = 0 := by
    constructor
    · intro z
      rw [z]
      exact Int32.sub_self _
    · intro z
      exact ((i_sb0 _ _).mp z).symm
  refine ps_iload rfl rfl ?_
  refine ps_iload rfl rfl ?_
  refine ps_div rfl (hb) ?_
  refine ps_istore rfl rfl ?_
  refine ps_iload rfl rfl ?_
  refine ps_iload rfl rfl ?_
  refine ps_ar rfl rfl rfl rfl rfl ?_
  by_cases h1 : (a ^^^ b) < 0
  · rw [decide_eq_true h1] at x
    have h2 : ¬ (decide (a < 0) = decide (b < 0)) := by
      intro z
      rw [z] at x
      cases hz : decide (b < 0) <;> rw [hz] at x <;> cases x
    refine ps_iff rfl (decide_eq_false (fun z => by have z := (i_le _ _).mp z; have y := (i_lt _ _).mp h1; omega)) ?_
    refine ps_iload rfl rfl ?_
    refine ps_iload rfl rfl ?_
    refine ps_ar rfl rfl rfl rfl rfl ?_
    refine ps_iload rfl rfl ?_
    by_cases h3 : a / b * b = a
    · rw [if_neg (fun z => z.1 (eq.mp h3))] at kk
      refine ps_icmpt rfl (decide_eq_true h3) ?_
      refine ps_iload rfl rfl ?_
      refine ps_iret rfl rfl ?_
      exact kk
    · rw [if_pos ⟨fun z => h3 (eq.mpr z), h2⟩] at kk
      refine ps_icmpf rfl (decide_eq_false h3) ?_
      refine ps_iload rfl rfl ?_
      refine pw_c rfl ?_
      refine ps_ar rfl rfl rfl rfl rfl ?_
      refine ps_iret rfl rfl ?_
      exact kk
  · rw [decide_eq_false h1] at x
    have h2 : decide (a < 0) = decide (b < 0) := by
      cases hz : decide (a < 0) <;> cases hy : decide (b < 0) <;> rw [hz, hy] at x <;> first | rfl | cases x
    rw [if_neg (fun z => z.2 h2)] at kk
    refine ps_ift rfl (decide_eq_true ((i_le _ _).mpr (by have : ¬ (a ^^^ b).toInt < (0 : Int32).toInt := fun z => h1 ((i_lt _ _).mpr z); omega))) ?_
    refine ps_iload rfl rfl ?_
    refine ps_iret rfl rfl ?_
    exact kk
def absI (x : Int32) : Int32 := if x < 0 then -x else x
theorem B_absX (a : Int32) (kk : Q [.int (absI a)] h) : pm_W (g_P ys) 143 0 [.int a] [] h (0, 0) Q := by
  unfold absI at kk
  by_cases h1 : a < 0
  · rw [if_pos h1] at kk
    refine ps_iload rfl rfl ?_
    refine ps_iff rfl (decide_eq_false (fun z => by have z := (i_le _ _).mp z; have y := (i_lt _ _).mp h1; omega)) ?_
    refine ps_iload rfl rfl ?_
    refine ps_ar rfl rfl rfl rfl rfl ?_
    refine ps_goto rfl ?_
    refine ps_iret rfl rfl ?_
    exact kk
  · rw [if_neg h1] at kk
    refine ps_iload rfl rfl ?_
    refine ps_ift rfl (decide_eq_true ((i_le _ _).mpr (by have : ¬ a.toInt < (0 : Int32).toInt := fun z => h1 ((i_lt _ _).mpr z); omega))) ?_
    refine ps_iload rfl rfl ?_
    refine ps_iret rfl rfl ?_
    exact kk
def hoP (P : sPl) : Int32 := suI P.ho (P.w * P.v)
def weP (P : sPl) : Int32 := suI P.we (P.w * P.v)
/-- LIGHT of a row of shadows, so many CELLS lost -/
def liF (P : sPl) (S : sS) (row : Nat → Int32) (lc : Int32) : Int32 := suI row (P.w * P.v) - S.bk * (nI (P.w * P.v) - lc)
def liS (P : sPl) (S : sS) : Int32 := liF P S (shadF P S) (suI (lostF P S) (P.w * P.v))
def lbF (P : sPl) (l : Int32) : Int32 := if 0 < (hoP P).toInt then fdI l (hoP P) else 0
def flF (P : sPl) (S : sS) (l : Int32) : Int32 := lsS P * lbF P l + S.bk * weP P
def rsF (P : sPl) (v fl : Int32) : Int32 := if sdF P 0 - lsS P = 0 then 0 else fdI (v - fl) (sdF P 0 - lsS P)
def erF (P : sPl) (S : sS) (row : Nat → Int32) (l : Int32) : Int32 := suI (fun i => absI (rsF P (row i) (flF P S l) - truF P S i)) (P.w * P.v)
theorem B_lightSeenX (hV : cV cm ci p e s P S I) (ha : cAm cm P S I) (kk : Q [.int (liS P S)] (I, L, g_R s, 306)) : pm_W (g_P ys) 135 0 [.ref cm] [] (I, L, g_R s, 306) (0, 0) Q := by
  obtain ⟨hc, hp, he, h1, h2, hP, hS, ok⟩ := hV
  have cg := isC_ge hc
  have el := isE_lt he
  have pl := isP_lt hp
  have w0 := hP.1.2.2.2.1
  have v0 := hP.1.2.2.2.2.1
  have n9 := hP.1.2.2.2.2.2
  have n0 : 0 < P.w * P.v := Nat.mul_pos w0 v0
  obtain ⟨hS0, hS1, hS2, hS3, hS4, hS5, hS6, hS7, hS8, hS9⟩ := cam_F (ys := ys) (s := s) hc
  obtain ⟨hR0, hR1, hR2, hR3, hR4, hR5, hR6, hR7, hR8, hR13, hR14⟩ := cam_R (s := s) hc
  rw [h1] at hR13
  rw [h2] at hR14
  obtain ⟨hS10, hS11, hS12, hS13, hR15, hR16, hR17⟩ := pl_F (ys := ys) (s := s) hp
  obtain ⟨hS14, hR18, hR19, hR20⟩ := en_F (ys := ys) (s := s) he
  have sv : suI (fun i => I (cm + 3) (0 + i)) (P.w * P.v) = suI (shadF P S) (P.w * P.v) := suI_congr (fun i hi => by
    rw [Nat.zero_add]
    exact (ha.1 i hi).2.2.1)
  refine ps_aload rfl rfl ?_
  refine ps_gfr 10 2 rfl rfl rfl (by first | exact hS0 _ _ | exact hS1 _ _ | exact hS2 _ _ | exact hS3 _ _ | exact hS4 _ _ | exact hS5 _ _ | exact hS6 _ _ | exact hS7 _ _ | exact hS8 _ _ | exact hS9 _ _ | exact hS10 _ _ | exact hS11 _ _ | exact hS12 _ _ | exact hS13 _ _ | exact hS14 _ _ | exact hS15 _ _ | exact hS16 _ _ | exact hS17 _ _ | exact hS18 _ _ | exact hS19 _ _ | exact hS20 _ _ | exact hS21 _ _ | exact hS22 _ _ | exact hS23 _ _ | assumption | rfl) rfl (by first | assumption | rfl) ?_
  refine pw_c rfl ?_
  refine ps_aload rfl rfl ?_
  refine ps_gfr 10 13 rfl rfl rfl (by first | exact hS0 _ _ | exact hS1 _ _ | exact hS2 _ _ | exact hS3 _ _ | exact hS4 _ _ | exact hS5 _ _ | exact hS6 _ _ | exact hS7 _ _ | exact hS8 _ _ | exact hS9 _ _ | exact hS10 _ _ | exact hS11 _ _ | exact hS12 _ _ | exact hS13 _ _ | exact hS14 _ _ | exact hS15 _ _ | exact hS16 _ _ | exact hS17 _ _ | exact hS18 _ _ | exact hS19 _ _ | exact hS20 _ _ | exact hS21 _ _ | exact hS22 _ _ | exact hS23 _ _ | assumption | rfl) rfl (by first | assumption | rfl) ?_
  refine ps_gfi 9 6 rfl rfl rfl (by first | exact hS0 _ _ | exact hS1 _ _ | exact hS2 _ _ | exact hS3 _ _ | exact hS4 _ _ | exact hS5 _ _ | exact hS6 _ _ | exact hS7 _ _ | exact hS8 _ _ | exact hS9 _ _ | exact hS10 _ _ | exact hS11 _ _ | exact hS12 _ _ | exact hS13 _ _ | exact hS14 _ _ | exact hS15 _ _ | exact hS16 _ _ | exact hS17 _ _ | exact hS18 _ _ | exact hS19 _ _ | exact hS20 _ _ | exact hS21 _ _ | exact hS22 _ _ | exact hS23 _ _ | assumption | rfl) rfl ?_
  rw [show ((I, L, g_R s, 306) : pm_H).1 p 6 = nI (P.w * P.v) from hP.1.2.2.1]
  refine pw_k rfl rfl rfl rfl ⟨Nat.zero_le _, Nat.zero_le _⟩ ?_
  refine B_sumX (f := 0) (n := P.w * P.v) (N := 289) hS3 (by omega) (by omega) ?_
  rw [sv]
  refine ps_aload rfl rfl ?_
  refine ps_gfr 10 14 rfl rfl rfl (by first | exact hS0 _ _ | exact hS1 _ _ | exact hS2 _ _ | exact hS3 _ _ | exact hS4 _ _ | exact hS5 _ _ | exact hS6 _ _ | exact hS7 _ _ | exact hS8 _ _ | exact hS9 _ _ | exact hS10 _ _ | exact hS11 _ _ | exact hS12 _ _ | exact hS13 _ _ | exact hS14 _ _ | exact hS15 _ _ | exact hS16 _ _ | exact hS17 _ _ | exact hS18 _ _ | exact hS19 _ _ | exact hS20 _ _ | exact hS21 _ _ | exact hS22 _ _ | exact hS23 _ _ | assumption | rfl) rfl (by first | assumption | rfl) ?_
  refine ps_gfi 5 3 rfl rfl rfl (by first | exact hS0 _ _ | exact hS1 _ _ | exact hS2 _ _ | exact hS3 _ _ | exact hS4 _ _ | exact hS5 _ _ | exact hS6 _ _ | exact hS7 _ _ | exact hS8 _ _ | exact hS9 _ _ | exact hS10 _ _ | exact hS11 _ _ | exact hS12 _ _ | exact hS13 _ _ | exact hS14 _ _ | exact hS15 _ _ | exact hS16 _ _ | exact hS17 _ _ | exact hS18 _ _ | exact hS19 _ _ | exact hS20 _ _ | exact hS21 _ _ | exact hS22 _ _ | exact hS23 _ _ | assumption | rfl) rfl ?_
  rw [show ((I, L, g_R s, 306) : pm_H).1 e 3 = S.bk from hS.2.1]
  refine ps_aload rfl rfl ?_
  refine ps_gfr 10 13 rfl rfl rfl (by first | exact hS0 _ _ | exact hS1 _ _ | exact hS2 _ _ | exact hS3 _ _ | exact hS4 _ _ | exact hS5 _ _ | exact hS6 _ _ | exact hS7 _ _ | exact hS8 _ _ | exact hS9 _ _ | exact hS10 _ _ | exact hS11 _ _ | exact hS12 _ _ | exact hS13 _ _ | exact hS14 _ _ | exact hS15 _ _ | exact hS16 _ _ | exact hS17 _ _ | exact hS18 _ _ | exact hS19 _ _ | exact hS20 _ _ | exact hS21 _ _ | exact hS22 _ _ | exact hS23 _ _ | assumption | rfl) rfl (by first | assumption | rfl) ?_
  refine ps_gfi 9 6 rfl rfl rfl (by first | exact hS0 _ _ | exact hS1 _ _ | exact hS2 _ _ | exact hS3 _ _ | exact hS4 _ _ | exact hS5 _ _ | exact hS6 _ _ | exact hS7 _ _ | exact hS8 _ _ | exact hS9 _ _ | exact hS10 _ _ | exact hS11 _ _ | exact hS12 _ _ | exact hS13 _ _ | exact hS14 _ _ | exact hS15 _ _ | exact hS16 _ _ | exact hS17 _ _ | exact hS18 _ _ | exact hS19 _ _ | exact hS20 _ _ | exact hS21 _ _ | exact hS22 _ _ | exact hS23 _ _ | assumption | rfl) rfl ?_
  rw [show ((I, L, g_R s, 306) : pm_H).1 p 6 = nI (P.w * P.v) from hP.1.2.2.1]
  refine ps_aload rfl rfl ?_
  refine ps_gfi 10 12 rfl rfl rfl (by first | exact hS0 _ _ | exact hS1 _ _ | exact hS2 _ _ | exact hS3 _ _ | exact hS4 _ _ | exact hS5 _ _ | exact hS6 _ _ | exact hS7 _ _ | exact hS8 _ _ | exact hS9 _ _ | exact hS10 _ _ | exact hS11 _ _ | exact hS12 _ _ | exact hS13 _ _ | exact hS14 _ _ | exact hS15 _ _ | exact hS16 _ _ | exact hS17 _ _ | exact hS18 _ _ | exact hS19 _ _ | exact hS20 _ _ | exact hS21 _ _ | exact hS22 _ _ | exact hS23 _ _ | assumption | rfl) rfl ?_
  rw [show ((I, L, g_R s, 306) : pm_H).1 cm 12 = suI (lostF P S) (P.w * P.v) from ha.2]
  refine ps_ar rfl rfl rfl rfl rfl ?_
  refine ps_ar rfl rfl rfl rfl rfl ?_
  refine ps_ar rfl rfl rfl rfl rfl ?_
  refine ps_iret rfl rfl ?_
  exact kk
theorem B_lightByHolesX (hV : cV cm ci p e s P S I) (l : Int32) (kk : Q [.int (lbF P l)] (I, L, g_R s, 306)) : pm_W (g_P ys) 137 0 [.ref cm, .int l] [] (I, L, g_R s, 306) (0, 0) Q := by
  obtain ⟨hc, hp, he, h1, h2, hP, hS, ok⟩ := hV
  have cg := isC_ge hc
  have el := isE_lt he
  have pl := isP_lt hp
  have w0 := hP.1.2.2.2.1
  have v0 := hP.1.2.2.2.2.1
  have n9 := hP.1.2.2.2.2.2
  have n0 : 0 < P.w * P.v := Nat.mul_pos w0 v0
  obtain ⟨hS0, hS1, hS2, hS3, hS4, hS5, hS6, hS7, hS8, hS9⟩ := cam_F (ys := ys) (s := s) hc
  obtain ⟨hR0, hR1, hR2, hR3, hR4, hR5, hR6, hR7, hR8, hR13, hR14⟩ := cam_R (s := s) hc
  rw [h1] at hR13
  rw [h2] at hR14
  obtain ⟨hS10, hS11, hS12, hS13, hR15, hR16, hR17⟩ := pl_F (ys := ys) (s := s) hp
  obtain ⟨hS14, hR18, hR19, hR20⟩ := en_F (ys := ys) (s := s) he
  unfold lbF at kk
  have e0 : (0 : Int32).toInt = 0 := rfl
  have hh : I p 7 = hoP P := hP.2.2.1
  refine ps_aload rfl rfl ?_
  refine ps_gfr 10 13 rfl rfl rfl (by first | exact hS0 _ _ | exact hS1 _ _ | exact hS2 _ _ | exact hS3 _ _ | exact hS4 _ _ | exact hS5 _ _ | exact hS6 _ _ | exact hS7 _ _ | exact hS8 _ _ | exact hS9 _ _ | exact hS10 _ _ | exact hS11 _ _ | exact hS12 _ _ | exact hS13 _ _ | exact hS14 _ _ | exact hS15 _ _ | exact hS16 _ _ | exact hS17 _ _ | exact hS18 _ _ | exact hS19 _ _ | exact hS20 _ _ | exact hS21 _ _ | exact hS22 _ _ | exact hS23 _ _ | assumption | rfl) rfl (by first | assumption | rfl) ?_
  refine ps_gfi 9 7 rfl rfl rfl (by first | exact hS0 _ _ | exact hS1 _ _ | exact hS2 _ _ | exact hS3 _ _ | exact hS4 _ _ | exact hS5 _ _ | exact hS6 _ _ | exact hS7 _ _ | exact hS8 _ _ | exact hS9 _ _ | exact hS10 _ _ | exact hS11 _ _ | exact hS12 _ _ | exact hS13 _ _ | exact hS14 _ _ | exact hS15 _ _ | exact hS16 _ _ | exact hS17 _ _ | exact hS18 _ _ | exact hS19 _ _ | exact hS20 _ _ | exact hS21 _ _ | exact hS22 _ _ | exact hS23 _ _ | assumption | rfl) rfl ?_
  rw [show ((I, L, g_R s, 306) : pm_H).1 p 7 = hoP P from hh]
  by_cases h1 : 0 < (hoP P).toInt
  · rw [if_pos h1] at kk
    refine ps_iff rfl (decide_eq_false (fun z => by have z := (i_le _ _).mp z; omega)) ?_
    refine ps_iload rfl rfl ?_
    refine ps_aload rfl rfl ?_
    refine ps_gfr 10 13 rfl rfl rfl (by first | exact hS0 _ _ | exact hS1 _ _ | exact hS2 _ _ | exact hS3 _ _ | exact hS4 _ _ | exact hS5 _ _ | exact hS6 _ _ | exact hS7 _ _ | exact hS8 _ _ | exact hS9 _ _ | exact hS10 _ _ | exact hS11 _ _ | exact hS12 _ _ | exact hS13 _ _ | exact hS14 _ _ | exact hS15 _ _ | exact hS16 _ _ | exact hS17 _ _ | exact hS18 _ _ | exact hS19 _ _ | exact hS20 _ _ | exact hS21 _ _ | exact hS22 _ _ | exact hS23 _ _ | assumption | rfl) rfl (by first | assumption | rfl) ?_
    refine ps_gfi 9 7 rfl rfl rfl (by first | exact hS0 _ _ | exact hS1 _ _ | exact hS2 _ _ | exact hS3 _ _ | exact hS4 _ _ | exact hS5 _ _ | exact hS6 _ _ | exact hS7 _ _ | exact hS8 _ _ | exact hS9 _ _ | exact hS10 _ _ | exact hS11 _ _ | exact hS12 _ _ | exact hS13 _ _ | exact hS14 _ _ | exact hS15 _ _ | exact hS16 _ _ | exact hS17 _ _ | exact hS18 _ _ | exact hS19 _ _ | exact hS20 _ _ | exact hS21 _ _ | exact hS22 _ _ | exact hS23 _ _ | assumption | rfl) rfl ?_
    rw [show ((I, L, g_R s, 306) : pm_H).1 p 7 = hoP P from hh]
    refine pw_k rfl rfl rfl rfl ⟨Nat.zero_le _, Nat.zero_le _⟩ ?_
    refine B_floorDivX _ _ (fun z => by rw [z] at h1; omega) ?_
    refine ps_goto rfl ?_
    refine ps_iret rfl rfl ?_
    exact kk
  · rw [if_neg h1] at kk
    refine ps_ift rfl (decide_eq_true ((i_le _ _).mpr (by omega))) ?_
    refine pw_c rfl ?_
    refine ps_iret rfl rfl ?_
    exact kk
theorem B_floorByX (hV : cV cm ci p e s P S I) (hk : cSk I p P) (l : Int32) (kk : Q [.int (flF P S l)] (I, L, g_R s, 306)) : pm_W (g_P ys) 136 0 [.ref cm, .int l] [] (I, L, g_R s, 306) (0, 0) Q := by
  have hV0 := hV
  obtain ⟨hc, hp, he, h1, h2, hP, hS, ok⟩ := hV
  have cg := isC_ge hc
  have el := isE_lt he
  have pl := isP_lt hp
  have w0 := hP.1.2.2.2.1
  have v0 := hP.1.2.2.2.2.1
  have n9 := hP.1.2.2.2.2.2
  have n0 : 0 < P.w * P.v := Nat.mul_pos w0 v0
  obtain ⟨hS0, hS1, hS2, hS3, hS4, hS5, hS6, hS7, hS8, hS9⟩ := cam_F (ys := ys) (s := s) hc
  obtain ⟨hR0, hR1, hR2, hR3, hR4, hR5, hR6, hR7, hR8, hR13, hR14⟩ := cam_R (s := s) hc
  rw [h1] at hR13
  rw [h2] at hR14
  obtain ⟨hS10, hS11, hS12, hS13, hR15, hR16, hR17⟩ := pl_F (ys := ys) (s := s) hp
  obtain ⟨hS14, hR18, hR19, hR20⟩ := en_F (ys := ys) (s := s) he
  refine ps_aload rfl rfl ?_
  refine ps_gfr 10 13 rfl rfl rfl (by first | exact hS0 _ _ | exact hS1 _ _ | exact hS2 _ _ | exact hS3 _ _ | exact hS4 _ _ | exact hS5 _ _ | exact hS6 _ _ | exact hS7 _ _ | exact hS8 _ _ | exact hS9 _ _ | exact hS10 _ _ | exact hS11 _ _ | exact hS12 _ _ | exact hS13 _ _ | exact hS14 _ _ | exact hS15 _ _ | exact hS16 _ _ | exact hS17 _ _ | exact hS18 _ _ | exact hS19 _ _ | exact hS20 _ _ | exact hS21 _ _ | exact hS22 _ _ | exact hS23 _ _ | assumption | rfl) rfl (by first | assumption | rfl) ?_
  refine ps_gfi 9 10 rfl rfl rfl (by first | exact hS0 _ _ | exact hS1 _ _ | exact hS2 _ _ | exact hS3 _ _ | exact hS4 _ _ | exact hS5 _ _ | exact hS6 _ _ | exact hS7 _ _ | exact hS8 _ _ | exact hS9 _ _ | exact hS10 _ _ | exact hS11 _ _ | exact hS12 _ _ | exact hS13 _ _ | exact hS14 _ _ | exact hS15 _ _ | exact hS16 _ _ | exact hS17 _ _ | exact hS18 _ _ | exact hS19 _ _ | exact hS20 _ _ | exact hS21 _ _ | exact hS22 _ _ | exact hS23 _ _ | assumption | rfl) rfl ?_
  rw [show ((I, L, g_R s, 306) : pm_H).1 p 10 = lsS P from hk.2.2.1]
  refine ps_aload rfl rfl ?_
  refine ps_iload rfl rfl ?_
  refine pv_k rfl rfl rfl rfl rfl (hS0 _ _) rfl ⟨Nat.zero_le _, Nat.zero_le _⟩ ?_
  refine B_lightByHolesX hV0 l ?_
  refine ps_ar rfl rfl rfl rfl rfl ?_
  refine ps_aload rfl rfl ?_
  refine ps_gfr 10 14 rfl rfl rfl (by first | exact hS0 _ _ | exact hS1 _ _ | exact hS2 _ _ | exact hS3 _ _ | exact hS4 _ _ | exact hS5 _ _ | exact hS6 _ _ | exact hS7 _ _ | exact hS8 _ _ | exact hS9 _ _ | exact hS10 _ _ | exact hS11 _ _ | exact hS12 _ _ | exact hS13 _ _ | exact hS14 _ _ | exact hS15 _ _ | exact hS16 _ _ | exact hS17 _ _ | exact hS18 _ _ | exact hS19 _ _ | exact hS20 _ _ | exact hS21 _ _ | exact hS22 _ _ | exact hS23 _ _ | assumption | rfl) rfl (by first | assumption | rfl) ?_
  refine ps_gfi 5 3 rfl rfl rfl (by first | exact hS0 _ _ | exact hS1 _ _ | exact hS2 _ _ | exact hS3 _ _ | exact hS4 _ _ | exact hS5 _ _ | exact hS6 _ _ | exact hS7 _ _ | exact hS8 _ _ | exact hS9 _ _ | exact hS10 _ _ | exact hS11 _ _ | exact hS12 _ _ | exact hS13 _ _ | exact hS14 _ _ | exact hS15 _ _ | exact hS16 _ _ | exact hS17 _ _ | exact hS18 _ _ | exact hS19 _ _ | exact hS20 _ _ | exact hS21 _ _ | exact hS22 _ _ | exact hS23 _ _ | assumption | rfl) rfl ?_
  rw [show ((I, L, g_R s, 306) : pm_H).1 e 3 = S.bk from hS.2.1]
  refine ps_aload rfl rfl ?_
  refine ps_gfr 10 13 rfl rfl rfl (by first | exact hS0 _ _ | exact hS1 _ _ | exact hS2 _ _ | exact hS3 _ _ | exact hS4 _ _ | exact hS5 _ _ | exact hS6 _ _ | exact hS7 _ _ | exact hS8 _ _ | exact hS9 _ _ | exact hS10 _ _ | exact hS11 _ _ | exact hS12 _ _ | exact hS13 _ _ | exact hS14 _ _ | exact hS15 _ _ | exact hS16 _ _ | exact hS17 _ _ | exact hS18 _ _ | exact hS19 _ _ | exact hS20 _ _ | exact hS21 _ _ | exact hS22 _ _ | exact hS23 _ _ | assumption | rfl) rfl (by first | assumption | rfl) ?_
  refine ps_gfi 9 8 rfl rfl rfl (by first | exact hS0 _ _ | exact hS1 _ _ | exact hS2 _ _ | exact hS3 _ _ | exact hS4 _ _ | exact hS5 _ _ | exact hS6 _ _ | exact hS7 _ _ | exact hS8 _ _ | exact hS9 _ _ | exact hS10 _ _ | exact hS11 _ _ | exact hS12 _ _ | exact hS13 _ _ | exact hS14 _ _ | exact hS15 _ _ | exact hS16 _ _ | exact hS17 _ _ | exact hS18 _ _ | exact hS19 _ _ | exact hS20 _ _ | exact hS21 _ _ | exact hS22 _ _ | exact hS23 _ _ | assumption | rfl) rfl ?_
  rw [show ((I, L, g_R s, 306) : pm_H).1 p 8 = weP P from hP.2.2.2.1]
  refine ps_ar rfl rfl rfl rfl rfl ?_
  refine ps_ar rfl rfl rfl rfl rfl ?_
  refine ps_iret rfl rfl ?_
  exact kk
theorem B_restoredByX (hV : cV cm ci p e s P S I) (hk : cSk I p P) (v fl : Int32) (kk : Q [.int (rsF P v fl)] (I, L, g_R s, 306)) : pm_W (g_P ys) 139 0 [.ref cm, .int v, .int fl, .retAddr 0] [] (I, L, g_R s, 306) (0, 0) Q := by
  obtain ⟨hc, hp, he, h1, h2, hP, hS, ok⟩ := hV
  have cg := isC_ge hc
  have el := isE_lt he
  have pl := isP_lt hp
  have w0 := hP.1.2.2.2.1
  have v0 := hP.1.2.2.2.2.1
  have n9 := hP.1.2.2.2.2.2
  have n0 : 0 < P.w * P.v := Nat.mul_pos w0 v0
  obtain ⟨hS0, hS1, hS2, hS3, hS4, hS5, hS6, hS7, hS8, hS9⟩ := cam_F (ys := ys) (s := s) hc
  obtain ⟨hR0, hR1, hR2, hR3, hR4, hR5, hR6, hR7, hR8, hR13, hR14⟩ := cam_R (s := s) hc
  rw [h1] at hR13
  rw [h2] at hR14
  obtain ⟨hS10, hS11, hS12, hS13, hR15, hR16, hR17⟩ := pl_F (ys := ys) (s := s) hp
  obtain ⟨hS14, hR18, hR19, hR20⟩ := en_F (ys := ys) (s := s) he
  unfold rsF at kk
  refine ps_aload rfl rfl ?_
  refine ps_gfr 10 13 rfl rfl rfl (by first | exact hS0 _ _ | exact hS1 _ _ | exact hS2 _ _ | exact hS3 _ _ | exact hS4 _ _ | exact hS5 _ _ | exact hS6 _ _ | exact hS7 _ _ | exact hS8 _ _ | exact hS9 _ _ | exact hS10 _ _ | exact hS11 _ _ | exact hS12 _ _ | exact hS13 _ _ | exact hS14 _ _ | exact hS15 _ _ | exact hS16 _ _ | exact hS17 _ _ | exact hS18 _ _ | exact hS19 _ _ | exact hS20 _ _ | exact hS21 _ _ | exact hS22 _ _ | exact hS23 _ _ | assumption | rfl) rfl (by first | assumption | rfl) ?_
  refine ps_gfr 9 2 rfl rfl rfl (by first | exact hS0 _ _ | exact hS1 _ _ | exact hS2 _ _ | exact hS3 _ _ | exact hS4 _ _ | exact hS5 _ _ | exact hS6 _ _ | exact hS7 _ _ | exact hS8 _ _ | exact hS9 _ _ | exact hS10 _ _ | exact hS11 _ _ | exact hS12 _ _ | exact hS13 _ _ | exact hS14 _ _ | exact hS15 _ _ | exact hS16 _ _ | exact hS17 _ _ | exact hS18 _ _ | exact hS19 _ _ | exact hS20 _ _ | exact hS21 _ _ | exact hS22 _ _ | exact hS23 _ _ | assumption | rfl) rfl (by first | assumption | rfl) ?_
  refine pw_c rfl ?_
  refine ps_iald (0) rfl (by first | exact hS0 _ _ | exact hS1 _ _ | exact hS2 _ _ | exact hS3 _ _ | exact hS4 _ _ | exact hS5 _ _ | exact hS6 _ _ | exact hS7 _ _ | exact hS8 _ _ | exact hS9 _ _ | exact hS10 _ _ | exact hS11 _ _ | exact hS12 _ _ | exact hS13 _ _ | exact hS14 _ _ | exact hS15 _ _ | exact hS16 _ _ | exact hS17 _ _ | exact hS18 _ _ | exact hS19 _ _ | exact hS20 _ _ | exact hS21 _ _ | exact hS22 _ _ | exact hS23 _ _ | assumption | rfl) rfl (rfl) (by omega) ?_
  rw [show ((I, L, g_R s, 306) : pm_H).1 (p + 3) 0 = sdF P 0 from hk.2.1 0 n0]
  refine ps_aload rfl rfl ?_
  refine ps_gfr 10 13 rfl rfl rfl (by first | exact hS0 _ _ | exact hS1 _ _ | exact hS2 _ _ | exact hS3 _ _ | exact hS4 _ _ | exact hS5 _ _ | exact hS6 _ _ | exact hS7 _ _ | exact hS8 _ _ | exact hS9 _ _ | exact hS10 _ _ | exact hS11 _ _ | exact hS12 _ _ | exact hS13 _ _ | exact hS14 _ _ | exact hS15 _ _ | exact hS16 _ _ | exact hS17 _ _ | exact hS18 _ _ | exact hS19 _ _ | exact hS20 _ _ | exact hS21 _ _ | exact hS22 _ _ | exact hS23 _ _ | assumption | rfl) rfl (by first | assumption | rfl) ?_
  refine ps_gfi 9 10 rfl rfl rfl (by first | exact hS0 _ _ | exact hS1 _ _ | exact hS2 _ _ | exact hS3 _ _ | exact hS4 _ _ | exact hS5 _ _ | exact hS6 _ _ | exact hS7 _ _ | exact hS8 _ _ | exact hS9 _ _ | exact hS10 _ _ | exact hS11 _ _ | exact hS12 _ _ | exact hS13 _ _ | exact hS14 _ _ | exact hS15 _ _ | exact hS16 _ _ | exact hS17 _ _ | exact hS18 _ _ | exact hS19 _ _ | exact hS20 _ _ | exact hS21 _ _ | exact hS22 _ _ | exact hS23 _ _ | assumption | rfl) rfl ?_
  rw [show ((I, L, g_R s, 306) : pm_H).1 p 10 = lsS P from hk.2.2.1]
  refine ps_ar rfl rfl rfl rfl rfl ?_
  refine ps_istore rfl rfl ?_
  refine ps_iload rfl rfl ?_
  by_cases h0 : sdF P 0 - lsS P = 0
  · rw [if_pos h0] at kk
    refine ps_iff rfl (decide_eq_false (fun z => z h0)) ?_
    refine pw_c rfl ?_
    refine ps_goto rfl ?_
    refine ps_iret rfl rfl ?_
    exact kk
  · rw [if_neg h0] at kk
    refine ps_ift rfl (decide_eq_true h0) ?_
    refine ps_iload rfl rfl ?_
    refine ps_iload rfl rfl ?_
    refine ps_ar rfl rfl rfl rfl rfl ?_
    refine ps_iload rfl rfl ?_
    refine pw_k rfl rfl rfl rfl ⟨Nat.zero_le _, Nat.zero_le _⟩ ?_
    refine B_floorDivX _ _ h0 ?_
    refine ps_iret rfl rfl ?_
    exact kk
theorem B_errorOfX (hV : cV cm ci p e s P S I) (hk : cSk I p P) (ha : ∀ i, i < P.w * P.v → I (cm + 4) i = truF P S i) (hr : 4 ≤ r ∧ r < 7) (hg : ∀ i, i < P.w * P.v → I (cm + 1 + r) i = g i) (l : Int32) (kk : Q [.int (erF P S g l)] (I, L, g_R s, 306)) : pm_W (g_P ys) 142 0 [.ref cm, .ref (cm + 1 + r), .int l, .retAddr 0, .retAddr 0, .retAddr 0] [] (I, L, g_R s, 306) (0, 0) Q := by
  have hV0 := hV
  obtain ⟨hc, hp, he, h1, h2, hP, hS, ok⟩ := hV
  have cg := isC_ge hc
  have el := isE_lt he
  have pl := isP_lt hp
  have w0 := hP.1.2.2.2.1
  have v0 := hP.1.2.2.2.2.1
  have n9 := hP.1.2.2.2.2.2
  have n0 : 0 < P.w * P.v := Nat.mul_pos w0 v0
  obtain ⟨hS0, hS1, hS2, hS3, hS4, hS5, hS6, hS7, hS8, hS9⟩ := cam_F (ys := ys) (s := s) hc
  obtain ⟨hR0, hR1, hR2, hR3, hR4, hR5, hR6, hR7, hR8, hR13, hR14⟩ := cam_R (s := s) hc
  rw [h1] at hR13
  rw [h2] at hR14
  obtain ⟨hS10, hS11, hS12, hS13, hR15, hR16, hR17⟩ := pl_F (ys := ys) (s := s) hp
  obtain ⟨hS14, hR18, hR19, hR20⟩ := en_F (ys := ys) (s := s) he
  have hSt : ∀ I L, pm_sh (g_P ys) (I, L, g_R s, 306) (cm + 1 + r) = some (.inr (0, 289)) := by
    rcases (show r = 4 ∨ r = 5 ∨ r = 6 by omega) with rfl | rfl | rfl <;> assumption
  obtain ⟨t, ht⟩ : ∃ t, t = cm + 1 + r := ⟨_, rfl⟩
  rw [← ht] at hSt hg ⊢
  have loop : ∀ d i, i + d = P.w * P.v → pm_W (g_P ys) 142 12 [.ref cm, .ref t, .int l, .int (flF P S l), .int (suI (fun i => absI (rsF P (g i) (flF P S l) - truF P S i)) i), .int (nI i)] [] (I, L, g_R s, 306) (0, 0) Q := by
    intro d
    induction d with
    | zero =>
      intro i hi
      refine ps_iload rfl rfl ?_
      refine ps_aload rfl rfl ?_
      refine ps_gfr 10 13 rfl rfl rfl (by first | exact hS0 _ _ | exact hS1 _ _ | exact hS2 _ _ | exact hS3 _ _ | exact hS4 _ _ | exact hS5 _ _ | exact hS6 _ _ | exact hS7 _ _ | exact hS8 _ _ | exact hS9 _ _ | exact hS10 _ _ | exact hS11 _ _ | exact hS12 _ _ | exact hS13 _ _ | exact hS14 _ _ | exact hS15 _ _ | exact hS16 _ _ | exact hS17 _ _ | exact hS18 _ _ | exact hS19 _ _ | exact hS20 _ _ | exact hS21 _ _ | exact hS22 _ _ | exact hS23 _ _ | assumption | rfl) rfl (by first | assumption | rfl) ?_
      refine ps_gfi 9 6 rfl rfl rfl (by first | exact hS0 _ _ | exact hS1 _ _ | exact hS2 _ _ | exact hS3 _ _ | exact hS4 _ _ | exact hS5 _ _ | exact hS6 _ _ | exact hS7 _ _ | exact hS8 _ _ | exact hS9 _ _ | exact hS10 _ _ | exact hS11 _ _ | exact hS12 _ _ | exact hS13 _ _ | exact hS14 _ _ | exact hS15 _ _ | exact hS16 _ _ | exact hS17 _ _ | exact hS18 _ _ | exact hS19 _ _ | exact hS20 _ _ | exact hS21 _ _ | exact hS22 _ _ | exact hS23 _ _ | assumption | rfl) rfl ?_
      rw [show ((I, L, g_R s, 306) : pm_H).1 p 6 = nI (P.w * P.v) from hP.1.2.2.1]
      refine ps_icmpt rfl (decide_eq_true (nI_le (by omega) (by omega))) ?_
      refine ps_iload rfl rfl ?_
      refine ps_iret rfl rfl ?_
      rw [show i = P.w * P.v by omega]
      exact kk
    | succ d ih =>
      intro i hi
      have z := ih (i + 1) (by omega)
      rw [suI_s] at z
      refine ps_iload rfl rfl ?_
      refine ps_aload rfl rfl ?_
      refine ps_gfr 10 13 rfl rfl rfl (by first | exact hS0 _ _ | exact hS1 _ _ | exact hS2 _ _ | exact hS3 _ _ | exact hS4 _ _ | exact hS5 _ _ | exact hS6 _ _ | exact hS7 _ _ | exact hS8 _ _ | exact hS9 _ _ | exact hS10 _ _ | exact hS11 _ _ | exact hS12 _ _ | exact hS13 _ _ | exact hS14 _ _ | exact hS15 _ _ | exact hS16 _ _ | exact hS17 _ _ | exact hS18 _ _ | exact hS19 _ _ | exact hS20 _ _ | exact hS21 _ _ | exact hS22 _ _ | exact hS23 _ _ | assumption | rfl) rfl (by first | assumption | rfl) ?_
      refine ps_gfi 9 6 rfl rfl rfl (by first | exact hS0 _ _ | exact hS1 _ _ | exact hS2 _ _ | exact hS3 _ _ | exact hS4 _ _ | exact hS5 _ _ | exact hS6 _ _ | exact hS7 _ _ | exact hS8 _ _ | exact hS9 _ _ | exact hS10 _ _ | exact hS11 _ _ | exact hS12 _ _ | exact hS13 _ _ | exact hS14 _ _ | exact hS15 _ _ | exact hS16 _ _ | exact hS17 _ _ | exact hS18 _ _ | exact hS19 _ _ | exact hS20 _ _ | exact hS21 _ _ | exact hS22 _ _ | exact hS23 _ _ | assumption | rfl) rfl ?_
      rw [show ((I, L, g_R s, 306) : pm_H).1 p 6 = nI (P.w * P.v) from hP.1.2.2.1]
      refine ps_icmpf rfl (decide_eq_false (nI_ge (by omega) (by omega))) ?_
      refine ps_iload rfl rfl ?_
      refine ps_aload rfl rfl ?_
      refine ps_aload rfl rfl ?_
      refine ps_iload rfl rfl ?_
      refine ps_iald i rfl (hSt _ _) rfl rfl (by omega) ?_
      rw [show ((I, L, g_R s, 306) : pm_H).1 t i = g i from hg i (by omega)]
      refine ps_iload rfl rfl ?_
      refine pv_k rfl rfl rfl rfl rfl (hS0 _ _) rfl ⟨Nat.zero_le _, Nat.zero_le _⟩ ?_
      refine B_restoredByX hV0 hk _ _ ?_
      refine ps_aload rfl rfl ?_
      refine ps_gfr 10 3 rfl rfl rfl (by first | exact hS0 _ _ | exact hS1 _ _ | exact hS2 _ _ | exact hS3 _ _ | exact hS4 _ _ | exact hS5 _ _ | exact hS6 _ _ | exact hS7 _ _ | exact hS8 _ _ | exact hS9 _ _ | exact hS10 _ _ | exact hS11 _ _ | exact hS12 _ _ | exact hS13 _ _ | exact hS14 _ _ | exact hS15 _ _ | exact hS16 _ _ | exact hS17 _ _ | exact hS18 _ _ | exact hS19 _ _ | exact hS20 _ _ | exact hS21 _ _ | exact hS22 _ _ | exact hS23 _ _ | assumption | rfl) rfl (by first | assumption | rfl) ?_
      refine ps_iload rfl rfl ?_
      refine ps_iald (i) rfl (by first | exact hS0 _ _ | exact hS1 _ _ | exact hS2 _ _ | exact hS3 _ _ | exact hS4 _ _ | exact hS5 _ _ | exact hS6 _ _ | exact hS7 _ _ | exact hS8 _ _ | exact hS9 _ _ | exact hS10 _ _ | exact hS11 _ _ | exact hS12 _ _ | exact hS13 _ _ | exact hS14 _ _ | exact hS15 _ _ | exact hS16 _ _ | exact hS17 _ _ | exact hS18 _ _ | exact hS19 _ _ | exact hS20 _ _ | exact hS21 _ _ | exact hS22 _ _ | exact hS23 _ _ | assumption | rfl) rfl (rfl) (by omega) ?_
      rw [show ((I, L, g_R s, 306) : pm_H).1 (cm + 4) i = truF P S i from ha i (by omega)]
      refine ps_ar rfl rfl rfl rfl rfl ?_
      refine pw_k rfl rfl rfl rfl ⟨Nat.zero_le _, Nat.zero_le _⟩ ?_
      refine B_absX _ ?_
      refine ps_ar rfl rfl rfl rfl rfl ?_
      refine ps_istore rfl rfl ?_
      refine ps_iinc rfl rfl ?_
      refine ps_goto rfl ?_
      rw [show nI i + Int32.ofInt 1 = nI (i + 1) from nI_1 i]
      exact z
  refine ps_aload rfl rfl ?_
  refine ps_iload rfl rfl ?_
  refine pv_k rfl rfl rfl rfl rfl (hS0 _ _) rfl ⟨Nat.zero_le _, Nat.zero_le _⟩ ?_
  refine B_floorByX hV0 hk l ?_
  refine ps_istore rfl rfl ?_
  refine pw_c rfl ?_
  refine ps_istore rfl rfl ?_
  refine pw_c rfl ?_
  refine ps_istore rfl rfl ?_
  exact loop (P.w * P.v) 0 (by omega)
/-- what MOVED -/
def movF (P : sPl) (S : sS) : Nat → Int32 := decF P (fun i => wholF P S 0 i - shadF P S i)
theorem B_findMovedX (hV : cV cm ci p e s P S I) (ha : cAm cm P S I) (kk : ∀ I', (∀ a j, ¬ a = cm + 6 → ¬ a = cm + 7 → I' a j = I a j) → (∀ i, i < P.w * P.v → I' (cm + 6) i = movF P S i) → Q [] (I', L, g_R s, 306)) : pm_W (g_P ys) 134 0 [.ref cm, .retAddr 0] [] (I, L, g_R s, 306) (0, 0) Q := by
  obtain ⟨hc, hp, he, h1, h2, hP, hS, ok⟩ := hV
  have cg := isC_ge hc
  have el := isE_lt he
  have pl := isP_lt hp
  have w0 := hP.1.2.2.2.1
  have v0 := hP.1.2.2.2.2.1
  have n9 := hP.1.2.2.2.2.2
  have n0 : 0 < P.w * P.v := Nat.mul_pos w0 v0
  obtain ⟨hS0, hS1, hS2, hS3, hS4, hS5, hS6, hS7, hS8, hS9⟩ := cam_F (ys := ys) (s := s) hc
  obtain ⟨hR0, hR1, hR2, hR3, hR4, hR5, hR6, hR7, hR8, hR13, hR14⟩ := cam_R (s := s) hc
  rw [h1] at hR13
  rw [h2] at hR14
  obtain ⟨hS10, hS11, hS12, hS13, hR15, hR16, hR17⟩ := pl_F (ys := ys) (s := s) hp
  obtain ⟨hS14, hR18, hR19, hR20⟩ := en_F (ys := ys) (s := s) he
  have loop : ∀ d i, i + d = P.w * P.v → ∀ I', (∀ a j, ¬ a = cm + 7 → I' a j = I a j) → (∀ j, j < i → I' (cm + 7) j = wholF P S 0 j - shadF P S j) → pm_W (g_P ys) 134 2 [.ref cm, .int (nI i)] [] (I', L, g_R s, 306) (0, 0) Q := by
    intro d
    induction d with
    | zero =>
      intro i hi I' g1 g2
      have P' := cP_o hP.1 (fun j => g1 p j (by omega))
      refine ps_iload rfl rfl ?_
      refine ps_aload rfl rfl ?_
      refine ps_gfr 10 13 rfl rfl rfl (by first | exact hS0 _ _ | exact hS1 _ _ | exact hS2 _ _ | exact hS3 _ _ | exact hS4 _ _ | exact hS5 _ _ | exact hS6 _ _ | exact hS7 _ _ | exact hS8 _ _ | exact hS9 _ _ | exact hS10 _ _ | exact hS11 _ _ | exact hS12 _ _ | exact hS13 _ _ | exact hS14 _ _ | exact hS15 _ _ | exact hS16 _ _ | exact hS17 _ _ | exact hS18 _ _ | exact hS19 _ _ | exact hS20 _ _ | exact hS21 _ _ | exact hS22 _ _ | exact hS23 _ _ | assumption | rfl) rfl (by first | assumption | rfl) ?_
      refine ps_gfi 9 6 rfl rfl rfl (by first | exact hS0 _ _ | exact hS1 _ _ | exact hS2 _ _ | exact hS3 _ _ | exact hS4 _ _ | exact hS5 _ _ | exact hS6 _ _ | exact hS7 _ _ | exact hS8 _ _ | exact hS9 _ _ | exact hS10 _ _ | exact hS11 _ _ | exact hS12 _ _ | exact hS13 _ _ | exact hS14 _ _ | exact hS15 _ _ | exact hS16 _ _ | exact hS17 _ _ | exact hS18 _ _ | exact hS19 _ _ | exact hS20 _ _ | exact hS21 _ _ | exact hS22 _ _ | exact hS23 _ _ | assumption | rfl) rfl ?_
      rw [show ((I', L, g_R s, 306) : pm_H).1 p 6 = nI (P.w * P.v) from P'.2.2.1]
      refine ps_icmpt rfl (decide_eq_true (nI_le (by omega) (by omega))) ?_
      refine ps_aload rfl rfl ?_
      refine ps_gfr 10 13 rfl rfl rfl (by first | exact hS0 _ _ | exact hS1 _ _ | exact hS2 _ _ | exact hS3 _ _ | exact hS4 _ _ | exact hS5 _ _ | exact hS6 _ _ | exact hS7 _ _ | exact hS8 _ _ | exact hS9 _ _ | exact hS10 _ _ | exact hS11 _ _ | exact hS12 _ _ | exact hS13 _ _ | exact hS14 _ _ | exact hS15 _ _ | exact hS16 _ _ | exact hS17 _ _ | exact hS18 _ _ | exact hS19 _ _ | exact hS20 _ _ | exact hS21 _ _ | exact hS22 _ _ | exact hS23 _ _ | assumption | rfl) rfl (by first | assumption | rfl) ?_
      refine ps_aload rfl rfl ?_
      refine ps_gfr 10 6 rfl rfl rfl (by first | exact hS0 _ _ | exact hS1 _ _ | exact hS2 _ _ | exact hS3 _ _ | exact hS4 _ _ | exact hS5 _ _ | exact hS6 _ _ | exact hS7 _ _ | exact hS8 _ _ | exact hS9 _ _ | exact hS10 _ _ | exact hS11 _ _ | exact hS12 _ _ | exact hS13 _ _ | exact hS14 _ _ | exact hS15 _ _ | exact hS16 _ _ | exact hS17 _ _ | exact hS18 _ _ | exact hS19 _ _ | exact hS20 _ _ | exact hS21 _ _ | exact hS22 _ _ | exact hS23 _ _ | assumption | rfl) rfl (by first | assumption | rfl) ?_
      refine ps_aload rfl rfl ?_
      refine ps_gfr 10 5 rfl rfl rfl (by first | exact hS0 _ _ | exact hS1 _ _ | exact hS2 _ _ | exact hS3 _ _ | exact hS4 _ _ | exact hS5 _ _ | exact hS6 _ _ | exact hS7 _ _ | exact hS8 _ _ | exact hS9 _ _ | exact hS10 _ _ | exact hS11 _ _ | exact hS12 _ _ | exact hS13 _ _ | exact hS14 _ _ | exact hS15 _ _ | exact hS16 _ _ | exact hS17 _ _ | exact hS18 _ _ | exact hS19 _ _ | exact hS20 _ _ | exact hS21 _ _ | exact hS22 _ _ | exact hS23 _ _ | assumption | rfl) rfl (by first | assumption | rfl) ?_
      refine pv_k rfl rfl rfl rfl rfl (hS10 _ _) rfl ⟨Nat.zero_le _, Nat.zero_le _⟩ ?_
      refine B_decodeAllX hp P' hS6 hS7 (by omega) (by omega) (by omega) (fun I1 k1 k2 => ?_)
      refine ps_vret rfl rfl ?_
      refine kk _ (fun a j z1 z2 => (k1 a j (by omega)).trans (g1 a j z2)) (fun j hj => (k2 j hj).trans ?_)
      exact dcF_c w0 v0 (fun i hi => g2 i (by omega)) (fun i hi => (g1 _ _ (by omega)).trans (hP.2.2.2.2 i hi).2) j
    | succ d ih =>
      intro i hi I' g1 g2
      refine ps_iload rfl rfl ?_
      refine ps_aload rfl rfl ?_
      refine ps_gfr 10 13 rfl rfl rfl (by first | exact hS0 _ _ | exact hS1 _ _ | exact hS2 _ _ | exact hS3 _ _ | exact hS4 _ _ | exact hS5 _ _ | exact hS6 _ _ | exact hS7 _ _ | exact hS8 _ _ | exact hS9 _ _ | exact hS10 _ _ | exact hS11 _ _ | exact hS12 _ _ | exact hS13 _ _ | exact hS14 _ _ | exact hS15 _ _ | exact hS16 _ _ | exact hS17 _ _ | exact hS18 _ _ | exact hS19 _ _ | exact hS20 _ _ | exact hS21 _ _ | exact hS22 _ _ | exact hS23 _ _ | assumption | rfl) rfl (by first | assumption | rfl) ?_
      refine ps_gfi 9 6 rfl rfl rfl (by first | exact hS0 _ _ | exact hS1 _ _ | exact hS2 _ _ | exact hS3 _ _ | exact hS4 _ _ | exact hS5 _ _ | exact hS6 _ _ | exact hS7 _ _ | exact hS8 _ _ | exact hS9 _ _ | exact hS10 _ _ | exact hS11 _ _ | exact hS12 _ _ | exact hS13 _ _ | exact hS14 _ _ | exact hS15 _ _ | exact hS16 _ _ | exact hS17 _ _ | exact hS18 _ _ | exact hS19 _ _ | exact hS20 _ _ | exact hS21 _ _ | exact hS22 _ _ | exact hS23 _ _ | assumption | rfl) rfl ?_
      rw [show ((I', L, g_R s, 306) : pm_H).1 p 6 = nI (P.w * P.v) from (g1 _ _ (by omega)).trans hP.1.2.2.1]
      refine ps_icmpf rfl (decide_eq_false (nI_ge (by omega) (by omega))) ?_
      refine ps_aload rfl rfl ?_
      refine ps_gfr 10 6 rfl rfl rfl (by first | exact hS0 _ _ | exact hS1 _ _ | exact hS2 _ _ | exact hS3 _ _ | exact hS4 _ _ | exact hS5 _ _ | exact hS6 _ _ | exact hS7 _ _ | exact hS8 _ _ | exact hS9 _ _ | exact hS10 _ _ | exact hS11 _ _ | exact hS12 _ _ | exact hS13 _ _ | exact hS14 _ _ | exact hS15 _ _ | exact hS16 _ _ | exact hS17 _ _ | exact hS18 _ _ | exact hS19 _ _ | exact hS20 _ _ | exact hS21 _ _ | exact hS22 _ _ | exact hS23 _ _ | assumption | rfl) rfl (by first | assumption | rfl) ?_
      refine ps_iload rfl rfl ?_
      refine ps_aload rfl rfl ?_
      refine ps_gfr 10 1 rfl rfl rfl (by first | exact hS0 _ _ | exact hS1 _ _ | exact hS2 _ _ | exact hS3 _ _ | exact hS4 _ _ | exact hS5 _ _ | exact hS6 _ _ | exact hS7 _ _ | exact hS8 _ _ | exact hS9 _ _ | exact hS10 _ _ | exact hS11 _ _ | exact hS12 _ _ | exact hS13 _ _ | exact hS14 _ _ | exact hS15 _ _ | exact hS16 _ _ | exact hS17 _ _ | exact hS18 _ _ | exact hS19 _ _ | exact hS20 _ _ | exact hS21 _ _ | exact hS22 _ _ | exact hS23 _ _ | assumption | rfl) rfl (by first | assumption | rfl) ?_
      refine ps_iload rfl rfl ?_
      refine ps_iald (i) rfl (by first | exact hS0 _ _ | exact hS1 _ _ | exact hS2 _ _ | exact hS3 _ _ | exact hS4 _ _ | exact hS5 _ _ | exact hS6 _ _ | exact hS7 _ _ | exact hS8 _ _ | exact hS9 _ _ | exact hS10 _ _ | exact hS11 _ _ | exact hS12 _ _ | exact hS13 _ _ | exact hS14 _ _ | exact hS15 _ _ | exact hS16 _ _ | exact hS17 _ _ | exact hS18 _ _ | exact hS19 _ _ | exact hS20 _ _ | exact hS21 _ _ | exact hS22 _ _ | exact hS23 _ _ | assumption | rfl) rfl (rfl) (by omega) ?_
      rw [show ((I', L, g_R s, 306) : pm_H).1 (cm + 2) i = wholF P S 0 i from (g1 _ _ (by omega)).trans (ha.1 i (by omega)).2.1]
      refine ps_aload rfl rfl ?_
      refine ps_gfr 10 2 rfl rfl rfl (by first | exact hS0 _ _ | exact hS1 _ _ | exact hS2 _ _ | exact hS3 _ _ | exact hS4 _ _ | exact hS5 _ _ | exact hS6 _ _ | exact hS7 _ _ | exact hS8 _ _ | exact hS9 _ _ | exact hS10 _ _ | exact hS11 _ _ | exact hS12 _ _ | exact hS13 _ _ | exact hS14 _ _ | exact hS15 _ _ | exact hS16 _ _ | exact hS17 _ _ | exact hS18 _ _ | exact hS19 _ _ | exact hS20 _ _ | exact hS21 _ _ | exact hS22 _ _ | exact hS23 _ _ | assumption | rfl) rfl (by first | assumption | rfl) ?_
      refine ps_iload rfl rfl ?_
      refine ps_iald (i) rfl (by first | exact hS0 _ _ | exact hS1 _ _ | exact hS2 _ _ | exact hS3 _ _ | exact hS4 _ _ | exact hS5 _ _ | exact hS6 _ _ | exact hS7 _ _ | exact hS8 _ _ | exact hS9 _ _ | exact hS10 _ _ | exact hS11 _ _ | exact hS12 _ _ | exact hS13 _ _ | exact hS14 _ _ | exact hS15 _ _ | exact hS16 _ _ | exact hS17 _ _ | exact hS18 _ _ | exact hS19 _ _ | exact hS20 _ _ | exact hS21 _ _ | exact hS22 _ _ | exact hS23 _ _ | assumption | rfl) rfl (rfl) (by omega) ?_
      rw [show ((I', L, g_R s, 306) : pm_H).1 (cm + 3) i = shadF P S i from (g1 _ _ (by omega)).trans (ha.1 i (by omega)).2.2.1]
      refine ps_ar rfl rfl rfl rfl rfl ?_
      refine ps_iast (i) rfl (by first | exact hS0 _ _ | exact hS1 _ _ | exact hS2 _ _ | exact hS3 _ _ | exact hS4 _ _ | exact hS5 _ _ | exact hS6 _ _ | exact hS7 _ _ | exact hS8 _ _ | exact hS9 _ _ | exact hS10 _ _ | exact hS11 _ _ | exact hS12 _ _ | exact hS13 _ _ | exact hS14 _ _ | exact hS15 _ _ | exact hS16 _ _ | exact hS17 _ _ | exact hS18 _ _ | exact hS19 _ _ | exact hS20 _ _ | exact hS21 _ _ | exact hS22 _ _ | exact hS23 _ _ | assumption | rfl) rfl (rfl) (by omega) ?_
      refine ps_iinc rfl rfl ?_
      refine ps_goto rfl ?_
      rw [show nI i + Int32.ofInt 1 = nI (i + 1) from nI_1 i]
      refine ih (i + 1) (by omega) _ (fun a j z => (pu_o z).trans (g1 a j z)) (fun j hj => ?_)
      show pm_u I' (cm + 7) i (wholF P S 0 i - shadF P S i) (cm + 7) j = _
      by_cases ej : j = i
      · rw [ej, pu_s]
      · rw [pu_n ej]
        exact g2 j (by omega)
  refine pw_c rfl ?_
  refine ps_istore rfl rfl ?_
  exact loop (P.w * P.v) 0 (by omega) I (fun _ _ _ => rfl) (fun j hj => absurd hj (by omega))
def nzF (f : Nat → Int32) : Nat → Int32 := suI (fun i => if f i = 0 then 0 else 1)
def fxF (f : Nat → Int32) : Nat → Int32
  | 0 => 0
  | n + 1 => if fxF f n < absI (f n) then absI (f n) else fxF f n
theorem fxF_c {f g : Nat → Int32} : ∀ {n : Nat}, (∀ i, i < n → f i = g i) → fxF f n = fxF g n
  | 0, _ => rfl
  | n + 1, h => by
    rw [fxF, fxF, fxF_c (fun i hi => h i (by omega)), h n (by omega)]
theorem B_movedPlacesX (hV : cV cm ci p e s P S I) (ha : cAm cm P S I) (kk : ∀ I', (∀ a j, ¬ a = cm + 6 → ¬ a = cm + 7 → I' a j = I a j) → Q [.int (nzF (movF P S) (P.w * P.v))] (I', L, g_R s, 306)) : pm_W (g_P ys) 144 0 [.ref cm, .retAddr 0, .retAddr 0] [] (I, L, g_R s, 306) (0, 0) Q := by
  have hV0 := hV
  obtain ⟨hc, hp, he, h1, h2, hP, hS, ok⟩ := hV
  have cg := isC_ge hc
  have el := isE_lt he
  have pl := isP_lt hp
  have w0 := hP.1.2.2.2.1
  have v0 := hP.1.2.2.2.2.1
  have n9 := hP.1.2.2.2.2.2
  have n0 : 0 < P.w * P.v := Nat.mul_pos w0 v0
  obtain ⟨hS0, hS1, hS2, hS3, hS4, hS5, hS6, hS7, hS8, hS9⟩ := cam_F (ys := ys) (s := s) hc
  obtain ⟨hR0, hR1, hR2, hR3, hR4, hR5, hR6, hR7, hR8, hR13, hR14⟩ := cam_R (s := s) hc
  rw [h1] at hR13
  rw [h2] at hR14
  obtain ⟨hS10, hS11, hS12, hS13, hR15, hR16, hR17⟩ := pl_F (ys := ys) (s := s) hp
  obtain ⟨hS14, hR18, hR19, hR20⟩ := en_F (ys := ys) (s := s) he
  refine ps_aload rfl rfl ?_
  refine pv_k rfl rfl rfl rfl rfl (hS0 _ _) rfl ⟨Nat.zero_le _, Nat.zero_le _⟩ ?_
  refine B_findMovedX hV0 ha (fun I1 f1 f2 => ?_)
  have loop : ∀ d i, i + d = P.w * P.v → pm_W (g_P ys) 144 8 [.ref cm, .int (nzF (movF P S) i), .int (nI i)] [] (I1, L, g_R s, 306) (0, 0) Q := by
    intro d
    induction d with
    | zero =>
      intro i hi
      refine ps_iload rfl rfl ?_
      refine ps_aload rfl rfl ?_
      refine ps_gfr 10 13 rfl rfl rfl (by first | exact hS0 _ _ | exact hS1 _ _ | exact hS2 _ _ | exact hS3 _ _ | exact hS4 _ _ | exact hS5 _ _ | exact hS6 _ _ | exact hS7 _ _ | exact hS8 _ _ | exact hS9 _ _ | exact hS10 _ _ | exact hS11 _ _ | exact hS12 _ _ | exact hS13 _ _ | exact hS14 _ _ | exact hS15 _ _ | exact hS16 _ _ | exact hS17 _ _ | exact hS18 _ _ | exact hS19 _ _ | exact hS20 _ _ | exact hS21 _ _ | exact hS22 _ _ | exact hS23 _ _ | assumption | rfl) rfl (by first | assumption | rfl) ?_
      refine ps_gfi 9 6 rfl rfl rfl (by first | exact hS0 _ _ | exact hS1 _ _ | exact hS2 _ _ | exact hS3 _ _ | exact hS4 _ _ | exact hS5 _ _ | exact hS6 _ _ | exact hS7 _ _ | exact hS8 _ _ | exact hS9 _ _ | exact hS10 _ _ | exact hS11 _ _ | exact hS12 _ _ | exact hS13 _ _ | exact hS14 _ _ | exact hS15 _ _ | exact hS16 _ _ | exact hS17 _ _ | exact hS18 _ _ | exact hS19 _ _ | exact hS20 _ _ | exact hS21 _ _ | exact hS22 _ _ | exact hS23 _ _ | assumption | rfl) rfl ?_
      rw [show ((I1, L, g_R s, 306) : pm_H).1 p 6 = nI (P.w * P.v) from (f1 _ _ (by omega) (by omega)).trans hP.1.2.2.1]
      refine ps_icmpt rfl (decide_eq_true (nI_le (by omega) (by omega))) ?_
      refine ps_iload rfl rfl ?_
      refine ps_iret rfl rfl ?_
      rw [show i = P.w * P.v by omega]
      exact kk I1 f1
    | succ d ih =>
      intro i hi
      have z : pm_W (g_P ys) 144 8 [.ref cm, .int (nzF (movF P S) i + (if movF P S i = 0 then 0 else 1)), .int (nI (i + 1))] [] (I1, L, g_R s, 306) (0, 0) Q := ih (i + 1) (by omega)
      refine ps_iload rfl rfl ?_
      refine ps_aload rfl rfl ?_
      refine ps_gfr 10 13 rfl rfl rfl (by first | exact hS0 _ _ | exact hS1 _ _ | exact hS2 _ _ | exact hS3 _ _ | exact hS4 _ _ | exact hS5 _ _ | exact hS6 _ _ | exact hS7 _ _ | exact hS8 _ _ | exact hS9 _ _ | exact hS10 _ _ | exact hS11 _ _ | exact hS12 _ _ | exact hS13 _ _ | exact hS14 _ _ | exact hS15 _ _ | exact hS16 _ _ | exact hS17 _ _ | exact hS18 _ _ | exact hS19 _ _ | exact hS20 _ _ | exact hS21 _ _ | exact hS22 _ _ | exact hS23 _ _ | assumption | rfl) rfl (by first | assumption | rfl) ?_
      refine ps_gfi 9 6 rfl rfl rfl (by first | exact hS0 _ _ | exact hS1 _ _ | exact hS2 _ _ | exact hS3 _ _ | exact hS4 _ _ | exact hS5 _ _ | exact hS6 _ _ | exact hS7 _ _ | exact hS8 _ _ | exact hS9 _ _ | exact hS10 _ _ | exact hS11 _ _ | exact hS12 _ _ | exact hS13 _ _ | exact hS14 _ _ | exact hS15 _ _ | exact hS16 _ _ | exact hS17 _ _ | exact hS18 _ _ | exact hS19 _ _ | exact hS20 _ _ | exact hS21 _ _ | exact hS22 _ _ | exact hS23 _ _ | assumption | rfl) rfl ?_
      rw [show ((I1, L, g_R s, 306) : pm_H).1 p 6 = nI (P.w * P.v) from (f1 _ _ (by omega) (by omega)).trans hP.1.2.2.1]
      refine ps_icmpf rfl (decide_eq_false (nI_ge (by omega) (by omega))) ?_
      refine ps_iload rfl rfl ?_
      refine ps_aload rfl rfl ?_
      refine ps_gfr 10 5 rfl rfl rfl (by first | exact hS0 _ _ | exact hS1 _ _ | exact hS2 _ _ | exact hS3 _ _ | exact hS4 _ _ | exact hS5 _ _ | exact hS6 _ _ | exact hS7 _ _ | exact hS8 _ _ | exact hS9 _ _ | exact hS10 _ _ | exact hS11 _ _ | exact hS12 _ _ | exact hS13 _ _ | exact hS14 _ _ | exact hS15 _ _ | exact hS16 _ _ | exact hS17 _ _ | exact hS18 _ _ | exact hS19 _ _ | exact hS20 _ _ | exact hS21 _ _ | exact hS22 _ _ | exact hS23 _ _ | assumption | rfl) rfl (by first | assumption | rfl) ?_
      refine ps_iload rfl rfl ?_
      refine ps_iald (i) rfl (by first | exact hS0 _ _ | exact hS1 _ _ | exact hS2 _ _ | exact hS3 _ _ | exact hS4 _ _ | exact hS5 _ _ | exact hS6 _ _ | exact hS7 _ _ | exact hS8 _ _ | exact hS9 _ _ | exact hS10 _ _ | exact hS11 _ _ | exact hS12 _ _ | exact hS13 _ _ | exact hS14 _ _ | exact hS15 _ _ | exact hS16 _ _ | exact hS17 _ _ | exact hS18 _ _ | exact hS19 _ _ | exact hS20 _ _ | exact hS21 _ _ | exact hS22 _ _ | exact hS23 _ _ | assumption | rfl) rfl (rfl) (by omega) ?_
      rw [show ((I1, L, g_R s, 306) : pm_H).1 (cm + 6) i = movF P S i from f2 i (by omega)]
      by_cases e0 : movF P S i = 0
      · rw [if_pos e0] at z
        refine ps_ift rfl (decide_eq_true e0) ?_
        refine pw_c rfl ?_
        refine ps_ar rfl rfl rfl rfl rfl ?_
        refine ps_istore rfl rfl ?_
        refine ps_iinc rfl rfl ?_
        refine ps_goto rfl ?_
        rw [show nI i + Int32.ofInt 1 = nI (i + 1) from nI_1 i]
        exact z
      · rw [if_neg e0] at z
        refine ps_iff rfl (decide_eq_false e0) ?_
        refine pw_c rfl ?_
        refine ps_goto rfl ?_
        refine ps_ar rfl rfl rfl rfl rfl ?_
        refine ps_istore rfl rfl ?_
        refine ps_iinc rfl rfl ?_
        refine ps_goto rfl ?_
        rw [show nI i + Int32.ofInt 1 = nI (i + 1) from nI_1 i]
        exact z
  refine pw_c rfl ?_
  refine ps_istore rfl rfl ?_
  refine pw_c rfl ?_
  refine ps_istore rfl rfl ?_
  exact loop (P.w * P.v) 0 (by omega)
theorem B_farthestMovedX (hV : cV cm ci p e s P S I) (ha : cAm cm P S I) (kk : ∀ I', (∀ a j, ¬ a = cm + 6 → ¬ a = cm + 7 → I' a j = I a j) → Q [.int (fxF (movF P S) (P.w * P.v))] (I', L, g_R s, 306)) : pm_W (g_P ys) 145 0 [.ref cm, .retAddr 0, .retAddr 0] [] (I, L, g_R s, 306) (0, 0) Q := by
  have hV0 := hV
  obtain ⟨hc, hp, he, h1, h2, hP, hS, ok⟩ := hV
  have cg := isC_ge hc
  have el := isE_lt he
  have pl := isP_lt hp
  have w0 := hP.1.2.2.2.1
  have v0 := hP.1.2.2.2.2.1
  have n9 := hP.1.2.2.2.2.2
  have n0 : 0 < P.w * P.v := Nat.mul_pos w0 v0
  obtain ⟨hS0, hS1, hS2, hS3, hS4, hS5, hS6, hS7, hS8, hS9⟩ := cam_F (ys := ys) (s := s) hc
  obtain ⟨hR0, hR1, hR2, hR3, hR4, hR5, hR6, hR7, hR8, hR13, hR14⟩ := cam_R (s := s) hc
  rw [h1] at hR13
  rw [h2] at hR14
  obtain ⟨hS10, hS11, hS12, hS13, hR15, hR16, hR17⟩ := pl_F (ys := ys) (s := s) hp
  obtain ⟨hS14, hR18, hR19, hR20⟩ := en_F (ys := ys) (s := s) he
  refine ps_aload rfl rfl ?_
  refine pv_k rfl rfl rfl rfl rfl (hS0 _ _) rfl ⟨Nat.zero_le _, Nat.zero_le _⟩ ?_
  refine B_findMovedX hV0 ha (fun I1 f1 f2 => ?_)
  have loop : ∀ d i, i + d = P.w * P.v → pm_W (g_P ys) 145 8 [.ref cm, .int (fxF (movF P S) i), .int (nI i)] [] (I1, L, g_R s, 306) (0, 0) Q := by
    intro d
    induction d with
    | zero =>
      intro i hi
      refine ps_iload rfl rfl ?_
      refine ps_aload rfl rfl ?_
      refine ps_gfr 10 13 rfl rfl rfl (by first | exact hS0 _ _ | exact hS1 _ _ | exact hS2 _ _ | exact hS3 _ _ | exact hS4 _ _ | exact hS5 _ _ | exact hS6 _ _ | exact hS7 _ _ | exact hS8 _ _ | exact hS9 _ _ | exact hS10 _ _ | exact hS11 _ _ | exact hS12 _ _ | exact hS13 _ _ | exact hS14 _ _ | exact hS15 _ _ | exact hS16 _ _ | exact hS17 _ _ | exact hS18 _ _ | exact hS19 _ _ | exact hS20 _ _ | exact hS21 _ _ | exact hS22 _ _ | exact hS23 _ _ | assumption | rfl) rfl (by first | assumption | rfl) ?_
      refine ps_gfi 9 6 rfl rfl rfl (by first | exact hS0 _ _ | exact hS1 _ _ | exact hS2 _ _ | exact hS3 _ _ | exact hS4 _ _ | exact hS5 _ _ | exact hS6 _ _ | exact hS7 _ _ | exact hS8 _ _ | exact hS9 _ _ | exact hS10 _ _ | exact hS11 _ _ | exact hS12 _ _ | exact hS13 _ _ | exact hS14 _ _ | exact hS15 _ _ | exact hS16 _ _ | exact hS17 _ _ | exact hS18 _ _ | exact hS19 _ _ | exact hS20 _ _ | exact hS21 _ _ | exact hS22 _ _ | exact hS23 _ _ | assumption | rfl) rfl ?_
      rw [show ((I1, L, g_R s, 306) : pm_H).1 p 6 = nI (P.w * P.v) from (f1 _ _ (by omega) (by omega)).trans hP.1.2.2.1]
      refine ps_icmpt rfl (decide_eq_true (nI_le (by omega) (by omega))) ?_
      refine ps_iload rfl rfl ?_
      refine ps_iret rfl rfl ?_
      rw [show i = P.w * P.v by omega]
      exact kk I1 f1
    | succ d ih =>
      intro i hi
      refine ps_iload rfl rfl ?_
      refine ps_aload rfl rfl ?_
      refine ps_gfr 10 13 rfl rfl rfl (by first | exact hS0 _ _ | exact hS1 _ _ | exact hS2 _ _ | exact hS3 _ _ | exact hS4 _ _ | exact hS5 _ _ | exact hS6 _ _ | exact hS7 _ _ | exact hS8 _ _ | exact hS9 _ _ | exact hS10 _ _ | exact hS11 _ _ | exact hS12 _ _ | exact hS13 _ _ | exact hS14 _ _ | exact hS15 _ _ | exact hS16 _ _ | exact hS17 _ _ | exact hS18 _ _ | exact hS19 _ _ | exact hS20 _ _ | exact hS21 _ _ | exact hS22 _ _ | exact hS23 _ _ | assumption | rfl) rfl (by first | assumption | rfl) ?_
      refine ps_gfi 9 6 rfl rfl rfl (by first | exact hS0 _ _ | exact hS1 _ _ | exact hS2 _ _ | exact hS3 _ _ | exact hS4 _ _ | exact hS5 _ _ | exact hS6 _ _ | exact hS7 _ _ | exact hS8 _ _ | exact hS9 _ _ | exact hS10 _ _ | exact hS11 _ _ | exact hS12 _ _ | exact hS13 _ _ | exact hS14 _ _ | exact hS15 _ _ | exact hS16 _ _ | exact hS17 _ _ | exact hS18 _ _ | exact hS19 _ _ | exact hS20 _ _ | exact hS21 _ _ | exact hS22 _ _ | exact hS23 _ _ | assumption | rfl) rfl ?_
      rw [show ((I1, L, g_R s, 306) : pm_H).1 p 6 = nI (P.w * P.v) from (f1 _ _ (by omega) (by omega)).trans hP.1.2.2.1]
      refine ps_icmpf rfl (decide_eq_false (nI_ge (by omega) (by omega))) ?_
      refine ps_iload rfl rfl ?_
      refine ps_aload rfl rfl ?_
      refine ps_gfr 10 5 rfl rfl rfl (by first | exact hS0 _ _ | exact hS1 _ _ | exact hS2 _ _ | exact hS3 _ _ | exact hS4 _ _ | exact hS5 _ _ | exact hS6 _ _ | exact hS7 _ _ | exact hS8 _ _ | exact hS9 _ _ | exact hS10 _ _ | exact hS11 _ _ | exact hS12 _ _ | exact hS13 _ _ | exact hS14 _ _ | exact hS15 _ _ | exact hS16 _ _ | exact hS17 _ _ | exact hS18 _ _ | exact hS19 _ _ | exact hS20 _ _ | exact hS21 _ _ | exact hS22 _ _ | exact hS23 _ _ | assumption | rfl) rfl (by first | assumption | rfl) ?_
      refine ps_iload rfl rfl ?_
      refine ps_iald (i) rfl (by first | exact hS0 _ _ | exact hS1 _ _ | exact hS2 _ _ | exact hS3 _ _ | exact hS4 _ _ | exact hS5 _ _ | exact hS6 _ _ | exact hS7 _ _ | exact hS8 _ _ | exact hS9 _ _ | exact hS10 _ _ | exact hS11 _ _ | exact hS12 _ _ | exact hS13 _ _ | exact hS14 _ _ | exact hS15 _ _ | exact hS16 _ _ | exact hS17 _ _ | exact hS18 _ _ | exact hS19 _ _ | exact hS20 _ _ | exact hS21 _ _ | exact hS22 _ _ | exact hS23 _ _ | assumption | rfl) rfl (rfl) (by omega) ?_
      rw [show ((I1, L, g_R s, 306) : pm_H).1 (cm + 6) i = movF P S i from f2 i (by omega)]
      refine pw_k rfl rfl rfl rfl ⟨Nat.zero_le _, Nat.zero_le _⟩ ?_
      refine B_absX _ ?_
      refine pw_k rfl rfl rfl rfl ⟨Nat.zero_le _, Nat.zero_le _⟩ ?_
      refine B_maxI _ _ ?_
      refine ps_istore rfl rfl ?_
      refine ps_iinc rfl rfl ?_
      refine ps_goto rfl ?_
      rw [show nI i + Int32.ofInt 1 = nI (i + 1) from nI_1 i]
      exact ih (i + 1) (by omega)
  refine pw_c rfl ?_
  refine ps_istore rfl rfl ?_
  refine pw_c rfl ?_
  refine ps_istore rfl rfl ?_
  exact loop (P.w * P.v) 0 (by omega)
/-- the first of the greatest -/
def pgF (f : Nat → Int32) : Nat → Nat
  | 0 => 0
  | 1 => 0
  | n + 2 => if f (pgF f (n + 1)) < f (n + 1) then n + 1 else pgF f (n + 1)
theorem pgF_lt {f : Nat → Int32} : ∀ {n : Nat}, 0 < n → pgF f n < n
  | 0, h => absurd h (by omega)
  | 1, _ => by
    rw [pgF]
    omega
  | n + 2, _ => by
    rw [pgF]
    have := pgF_lt (f := f) (n := n + 1) (by omega)
    split <;> omega
theorem pgF_s {f : Nat → Int32} {n : Nat} (h : 1 ≤ n) : pgF f (n + 1) = if f (pgF f n) < f n then n else pgF f n := by
  obtain ⟨k, rfl⟩ := Nat.exists_eq_add_of_le h
  rw [show 1 + k + 1 = k + 2 by omega, show 1 + k = k + 1 by omega, pgF]
theorem pgF_c {f g : Nat → Int32} : ∀ {n : Nat}, (∀ i, i < n → f i = g i) → pgF f n = pgF g n
  | 0, _ => rfl
  | 1, _ => rfl
  | n + 2, h => by
    have l := pgF_lt (f := g) (n := n + 1) (by omega)
    rw [pgF, pgF, pgF_c (n := n + 1) (fun i hi => h i (by omega)), h (n + 1) (by omega), h _ (by omega)]
theorem B_placeOfGreatestX (hV : cV cm ci p e s P S I) (hr : 4 ≤ r ∧ r < 7) (hg : ∀ i, i < P.w * P.v → I (cm + 1 + r) i = g i) (kk : Q [.int (nI (pgF g (P.w * P.v)))] (I, L, g_R s, 306)) : pm_W (g_P ys) 148 0 [.ref cm, .ref (cm + 1 + r), .retAddr 0, .retAddr 0] [] (I, L, g_R s, 306) (0, 0) Q := by
  obtain ⟨hc, hp, he, h1, h2, hP, hS, ok⟩ := hV
  have cg := isC_ge hc
  have el := isE_lt he
  have pl := isP_lt hp
  have w0 := hP.1.2.2.2.1
  have v0 := hP.1.2.2.2.2.1
  have n9 := hP.1.2.2.2.2.2
  have n0 : 0 < P.w * P.v := Nat.mul_pos w0 v0
  obtain ⟨hS0, hS1, hS2, hS3, hS4, hS5, hS6, hS7, hS8, hS9⟩ := cam_F (ys := ys) (s := s) hc
  obtain ⟨hR0, hR1, hR2, hR3, hR4, hR5, hR6, hR7, hR8, hR13, hR14⟩ := cam_R (s := s) hc
  rw [h1] at hR13
  rw [h2] at hR14
  obtain ⟨hS10, hS11, hS12, hS13, hR15, hR16, hR17⟩ := pl_F (ys := ys) (s := s) hp
  obtain ⟨hS14, hR18, hR19, hR20⟩ := en_F (ys := ys) (s := s) he
  have hSt : ∀ I L, pm_sh (g_P ys) (I, L, g_R s, 306) (cm + 1 + r) = some (.inr (0, 289)) := by
    rcases (show r = 4 ∨ r = 5 ∨ r = 6 by omega) with rfl | rfl | rfl <;> assumption
  obtain ⟨t, ht⟩ : ∃ t, t = cm + 1 + r := ⟨_, rfl⟩
  rw [← ht] at hSt hg ⊢
  have loop : ∀ d i, i + d = P.w * P.v → 1 ≤ i → pm_W (g_P ys) 148 4 [.ref cm, .ref t, .int (nI (pgF g i)), .int (nI i)] [] (I, L, g_R s, 306) (0, 0) Q := by
    intro d
    induction d with
    | zero =>
      intro i hi h1
      refine ps_iload rfl rfl ?_
      refine ps_aload rfl rfl ?_
      refine ps_gfr 10 13 rfl rfl rfl (by first | exact hS0 _ _ | exact hS1 _ _ | exact hS2 _ _ | exact hS3 _ _ | exact hS4 _ _ | exact hS5 _ _ | exact hS6 _ _ | exact hS7 _ _ | exact hS8 _ _ | exact hS9 _ _ | exact hS10 _ _ | exact hS11 _ _ | exact hS12 _ _ | exact hS13 _ _ | exact hS14 _ _ | exact hS15 _ _ | exact hS16 _ _ | exact hS17 _ _ | exact hS18 _ _ | exact hS19 _ _ | exact hS20 _ _ | exact hS21 _ _ | exact hS22 _ _ | exact hS23 _ _ | assumption | rfl) rfl (by first | assumption | rfl) ?_
      refine ps_gfi 9 6 rfl rfl rfl (by first | exact hS0 _ _ | exact hS1 _ _ | exact hS2 _ _ | exact hS3 _ _ | exact hS4 _ _ | exact hS5 _ _ | exact hS6 _ _ | exact hS7 _ _ | exact hS8 _ _ | exact hS9 _ _ | exact hS10 _ _ | exact hS11 _ _ | exact hS12 _ _ | exact hS13 _ _ | exact hS14 _ _ | exact hS15 _ _ | exact hS16 _ _ | exact hS17 _ _ | exact hS18 _ _ | exact hS19 _ _ | exact hS20 _ _ | exact hS21 _ _ | exact hS22 _ _ | exact hS23 _ _ | assumption | rfl) rfl ?_
      rw [show ((I, L, g_R s, 306) : pm_H).1 p 6 = nI (P.w * P.v) from hP.1.2.2.1]
      refine ps_icmpt rfl (decide_eq_true (nI_le (by omega) (by omega))) ?_
      refine ps_iload rfl rfl ?_
      refine ps_iret rfl rfl ?_
      rw [show i = P.w * P.v by omega]
      exact kk
    | succ d ih =>
      intro i hi h1
      have z := ih (i + 1) (by omega) (by omega)
      rw [pgF_s h1] at z
      have l := pgF_lt (f := g) (n := i) (by omega)
      refine ps_iload rfl rfl ?_
      refine ps_aload rfl rfl ?_
      refine ps_gfr 10 13 rfl rfl rfl (by first | exact hS0 _ _ | exact hS1 _ _ | exact hS2 _ _ | exact hS3 _ _ | exact hS4 _ _ | exact hS5 _ _ | exact hS6 _ _ | exact hS7 _ _ | exact hS8 _ _ | exact hS9 _ _ | exact hS10 _ _ | exact hS11 _ _ | exact hS12 _ _ | exact hS13 _ _ | exact hS14 _ _ | exact hS15 _ _ | exact hS16 _ _ | exact hS17 _ _ | exact hS18 _ _ | exact hS19 _ _ | exact hS20 _ _ | exact hS21 _ _ | exact hS22 _ _ | exact hS23 _ _ | assumption | rfl) rfl (by first | assumption | rfl) ?_
      refine ps_gfi 9 6 rfl rfl rfl (by first | exact hS0 _ _ | exact hS1 _ _ | exact hS2 _ _ | exact hS3 _ _ | exact hS4 _ _ | exact hS5 _ _ | exact hS6 _ _ | exact hS7 _ _ | exact hS8 _ _ | exact hS9 _ _ | exact hS10 _ _ | exact hS11 _ _ | exact hS12 _ _ | exact hS13 _ _ | exact hS14 _ _ | exact hS15 _ _ | exact hS16 _ _ | exact hS17 _ _ | exact hS18 _ _ | exact hS19 _ _ | exact hS20 _ _ | exact hS21 _ _ | exact hS22 _ _ | exact hS23 _ _ | assumption | rfl) rfl ?_
      rw [show ((I, L, g_R s, 306) : pm_H).1 p 6 = nI (P.w * P.v) from hP.1.2.2.1]
      refine ps_icmpf rfl (decide_eq_false (nI_ge (by omega) (by omega))) ?_
      refine ps_aload rfl rfl ?_
      refine ps_iload rfl rfl ?_
      refine ps_iald i rfl (hSt _ _) rfl rfl (by omega) ?_
      rw [show ((I, L, g_R s, 306) : pm_H).1 t i = g i from hg i (by omega)]
      refine ps_aload rfl rfl ?_
      refine ps_iload rfl rfl ?_
      refine ps_iald (pgF g i) rfl (hSt _ _) rfl rfl (by omega) ?_
      rw [show ((I, L, g_R s, 306) : pm_H).1 t (pgF g i) = g (pgF g i) from hg _ (by omega)]
      by_cases e1 : g (pgF g i) < g i
      · rw [if_pos e1] at z
        refine ps_icmpf rfl (decide_eq_false (fun z => by have z := (i_le _ _).mp z; have y := (i_lt _ _).mp e1; omega)) ?_
        refine ps_iload rfl rfl ?_
        refine ps_istore rfl rfl ?_
        refine ps_iinc rfl rfl ?_
        refine ps_goto rfl ?_
        rw [show nI i + Int32.ofInt 1 = nI (i + 1) from nI_1 i]
        exact z
      · rw [if_neg e1] at z
        refine ps_icmpt rfl (decide_eq_true ((i_le _ _).mpr (by have : ¬ (g (pgF g i)).toInt < (g i).toInt := fun z => e1 ((i_lt _ _).mpr z); omega))) ?_
        refine ps_iinc rfl rfl ?_
        refine ps_goto rfl ?_
        rw [show nI i + Int32.ofInt 1 = nI (i + 1) from nI_1 i]
        exact z
  refine pw_c rfl ?_
  refine ps_istore rfl rfl ?_
  refine pw_c rfl ?_
  refine ps_istore rfl rfl ?_
  exact loop (P.w * P.v - 1) 1 (by omega) (by omega)
def tgF (f : Nat → Int32) (n : Nat) : Int32 := suI (fun i => if f i = f (pgF f n) then 1 else 0) n
theorem B_timesGreatestX (hV : cV cm ci p e s P S I) (hr : 4 ≤ r ∧ r < 7) (hg : ∀ i, i < P.w * P.v → I (cm + 1 + r) i = g i) (kk : Q [.int (tgF g (P.w * P.v))] (I, L, g_R s, 306)) : pm_W (g_P ys) 147 0 [.ref cm, .ref (cm + 1 + r), .retAddr 0, .retAddr 0, .retAddr 0] [] (I, L, g_R s, 306) (0, 0) Q := by
  have hV0 := hV
  obtain ⟨hc, hp, he, h1, h2, hP, hS, ok⟩ := hV
  have cg := isC_ge hc
  have el := isE_lt he
  have pl := isP_lt hp
  have w0 := hP.1.2.2.2.1
  have v0 := hP.1.2.2.2.2.1
  have n9 := hP.1.2.2.2.2.2
  have n0 : 0 < P.w * P.v := Nat.mul_pos w0 v0
  obtain ⟨hS0, hS1, hS2, hS3, hS4, hS5, hS6, hS7, hS8, hS9⟩ := cam_F (ys := ys) (s := s) hc
  obtain ⟨hR0, hR1, hR2, hR3, hR4, hR5, hR6, hR7, hR8, hR13, hR14⟩ := cam_R (s := s) hc
  rw [h1] at hR13
  rw [h2] at hR14
  obtain ⟨hS10, hS11, hS12, hS13, hR15, hR16, hR17⟩ := pl_F (ys := ys) (s := s) hp
  obtain ⟨hS14, hR18, hR19, hR20⟩ := en_F (ys := ys) (s := s) he
  have hSt : ∀ I L, pm_sh (g_P ys) (I, L, g_R s, 306) (cm + 1 + r) = some (.inr (0, 289)) := by
    rcases (show r = 4 ∨ r = 5 ∨ r = 6 by omega) with rfl | rfl | rfl <;> assumption
  have l := pgF_lt (f := g) (n := P.w * P.v) n0
  have pg := fun (Q : List Value → pm_H → Prop) kk => B_placeOfGreatestX (ys := ys) (L := L) (Q := Q) hV0 hr hg kk
  obtain ⟨t, ht⟩ : ∃ t, t = cm + 1 + r := ⟨_, rfl⟩
  rw [← ht] at hSt hg pg ⊢
  have loop : ∀ d i, i + d = P.w * P.v → pm_W (g_P ys) 147 13 [.ref cm, .ref t, .int (g (pgF g (P.w * P.v))), .int (suI (fun i => if g i = g (pgF g (P.w * P.v)) then 1 else 0) i), .int (nI i)] [] (I, L, g_R s, 306) (0, 0) Q := by
    intro d
    induction d with
    | zero =>
      intro i hi
      refine ps_iload rfl rfl ?_
      refine ps_aload rfl rfl ?_
      refine ps_gfr 10 13 rfl rfl rfl (by first | exact hS0 _ _ | exact hS1 _ _ | exact hS2 _ _ | exact hS3 _ _ | exact hS4 _ _ | exact hS5 _ _ | exact hS6 _ _ | exact hS7 _ _ | exact hS8 _ _ | exact hS9 _ _ | exact hS10 _ _ | exact hS11 _ _ | exact hS12 _ _ | exact hS13 _ _ | exact hS14 _ _ | exact hS15 _ _ | exact hS16 _ _ | exact hS17 _ _ | exact hS18 _ _ | exact hS19 _ _ | exact hS20 _ _ | exact hS21 _ _ | exact hS22 _ _ | exact hS23 _ _ | assumption | rfl) rfl (by first | assumption | rfl) ?_
      refine ps_gfi 9 6 rfl rfl rfl (by first | exact hS0 _ _ | exact hS1 _ _ | exact hS2 _ _ | exact hS3 _ _ | exact hS4 _ _ | exact hS5 _ _ | exact hS6 _ _ | exact hS7 _ _ | exact hS8 _ _ | exact hS9 _ _ | exact hS10 _ _ | exact hS11 _ _ | exact hS12 _ _ | exact hS13 _ _ | exact hS14 _ _ | exact hS15 _ _ | exact hS16 _ _ | exact hS17 _ _ | exact hS18 _ _ | exact hS19 _ _ | exact hS20 _ _ | exact hS21 _ _ | exact hS22 _ _ | exact hS23 _ _ | assumption | rfl) rfl ?_
      rw [show ((I, L, g_R s, 306) : pm_H).1 p 6 = nI (P.w * P.v) from hP.1.2.2.1]
      refine ps_icmpt rfl (decide_eq_true (nI_le (by omega) (by omega))) ?_
      refine ps_iload rfl rfl ?_
      refine ps_iret rfl rfl ?_
      rw [show i = P.w * P.v by omega]
      exact kk
    | succ d ih =>
      intro i hi
      have z := ih (i + 1) (by omega)
      rw [suI_s] at z
      refine ps_iload rfl rfl ?_
      refine ps_aload rfl rfl ?_
      refine ps_gfr 10 13 rfl rfl rfl (by first | exact hS0 _ _ | exact hS1 _ _ | exact hS2 _ _ | exact hS3 _ _ | exact hS4 _ _ | exact hS5 _ _ | exact hS6 _ _ | exact hS7 _ _ | exact hS8 _ _ | exact hS9 _ _ | exact hS10 _ _ | exact hS11 _ _ | exact hS12 _ _ | exact hS13 _ _ | exact hS14 _ _ | exact hS15 _ _ | exact hS16 _ _ | exact hS17 _ _ | exact hS18 _ _ | exact hS19 _ _ | exact hS20 _ _ | exact hS21 _ _ | exact hS22 _ _ | exact hS23 _ _ | assumption | rfl) rfl (by first | assumption | rfl) ?_
      refine ps_gfi 9 6 rfl rfl rfl (by first | exact hS0 _ _ | exact hS1 _ _ | exact hS2 _ _ | exact hS3 _ _ | exact hS4 _ _ | exact hS5 _ _ | exact hS6 _ _ | exact hS7 _ _ | exact hS8 _ _ | exact hS9 _ _ | exact hS10 _ _ | exact hS11 _ _ | exact hS12 _ _ | exact hS13 _ _ | exact hS14 _ _ | exact hS15 _ _ | exact hS16 _ _ | exact hS17 _ _ | exact hS18 _ _ | exact hS19 _ _ | exact hS20 _ _ | exact hS21 _ _ | exact hS22 _ _ | exact hS23 _ _ | assumption | rfl) rfl ?_
      rw [show ((I, L, g_R s, 306) : pm_H).1 p 6 = nI (P.w * P.v) from hP.1.2.2.1]
      refine ps_icmpf rfl (decide_eq_false (nI_ge (by omega) (by omega))) ?_
      refine ps_iload rfl rfl ?_
      refine ps_aload rfl rfl ?_
      refine ps_iload rfl rfl ?_
      refine ps_iald i rfl (hSt _ _) rfl rfl (by omega) ?_
      rw [show ((I, L, g_R s, 306) : pm_H).1 t i = g i from hg i (by omega)]
      by_cases e1 : g i = g (pgF g (P.w * P.v))
      · rw [if_pos e1] at z
        refine ps_iload rfl rfl ?_
        refine ps_icmpf rfl (decide_eq_false (fun y => y e1)) ?_
        refine pw_c rfl ?_
        refine ps_goto rfl ?_
        refine ps_ar rfl rfl rfl rfl rfl ?_
        refine ps_istore rfl rfl ?_
        refine ps_iinc rfl rfl ?_
        refine ps_goto rfl ?_
        rw [show nI i + Int32.ofInt 1 = nI (i + 1) from nI_1 i]
        exact z
      · rw [if_neg e1] at z
        refine ps_iload rfl rfl ?_
        refine ps_icmpt rfl (decide_eq_true e1) ?_
        refine pw_c rfl ?_
        refine ps_ar rfl rfl rfl rfl rfl ?_
        refine ps_istore rfl rfl ?_
        refine ps_iinc rfl rfl ?_
        refine ps_goto rfl ?_
        rw [show nI i + Int32.ofInt 1 = nI (i + 1) from nI_1 i]
        exact z
  refine ps_aload rfl rfl ?_
  refine ps_aload rfl rfl ?_
  refine ps_aload rfl rfl ?_
  refine pv_k rfl rfl rfl rfl rfl (hS0 _ _) rfl ⟨Nat.zero_le _, Nat.zero_le _⟩ ?_
  refine pg _ ?_
  refine ps_iald (pgF g (P.w * P.v)) rfl (hSt _ _) rfl rfl (by omega) ?_
  rw [show ((I, L, g_R s, 306) : pm_H).1 t (pgF g (P.w * P.v)) = g (pgF g (P.w * P.v)) from hg _ (by omega)]
  refine ps_istore rfl rfl ?_
  refine pw_c rfl ?_
  refine ps_istore rfl rfl ?_
  refine pw_c rfl ?_
  refine ps_istore rfl rfl ?_
  exact loop (P.w * P.v) 0 (by omega)
def xyF (P : sPl) (i : Nat) (w : Int32) : Int32 := if w = 0 then nI (i % P.w) else nI (i / P.w)
theorem B_xOrYX (hp : isP p) (hP : cP I p P.w P.v) {i : Nat} (hi : i < 1000) (w : Int32) (kk : Q [.int (xyF P i w)] (I, L, g_R s, 306)) : pm_W (g_P ys) 150 0 [.ref p, .int (nI i), .int w] [] (I, L, g_R s, 306) (0, 0) Q := by
  obtain ⟨hS10, hS11, hS12, hS13, hR15, hR16, hR17⟩ := pl_F (ys := ys) (s := s) hp
  unfold xyF at kk
  by_cases h0 : w = 0
  · rw [if_pos h0] at kk
    refine ps_iload rfl rfl ?_
    refine ps_iff rfl (decide_eq_false (fun z => z h0)) ?_
    refine ps_aload rfl rfl ?_
    refine ps_iload rfl rfl ?_
    refine pv_k rfl rfl rfl rfl rfl (hS10 _ _) rfl ⟨Nat.zero_le _, Nat.zero_le _⟩ ?_
    refine B_xOfX hp hP (by omega) ?_
    refine ps_goto rfl ?_
    refine ps_iret rfl rfl ?_
    exact kk
  · rw [if_neg h0] at kk
    refine ps_iload rfl rfl ?_
    refine ps_ift rfl (decide_eq_true h0) ?_
    refine ps_aload rfl rfl ?_
    refine ps_iload rfl rfl ?_
    refine pv_k rfl rfl rfl rfl rfl (hS10 _ _) rfl ⟨Nat.zero_le _, Nat.zero_le _⟩ ?_
    refine B_yOfX hp hP (by omega) ?_
    refine ps_iret rfl rfl ?_
    exact kk
def fgF (P : sPl) (g : Nat → Int32) (w : Int32) : Int32 := if w = 2 then g (pgF g (P.w * P.v)) else xyF P (pgF g (P.w * P.v)) w
theorem B_figureOfGreatestX (hV : cV cm ci p e s P S I) (hr : 4 ≤ r ∧ r < 7) (hg : ∀ i, i < P.w * P.v → I (cm + 1 + r) i = g i) (w : Int32) (kk : Q [.int (fgF P g w)] (I, L, g_R s, 306)) : pm_W (g_P ys) 149 0 [.ref cm, .ref (cm + 1 + r), .int w, .retAddr 0] [] (I, L, g_R s, 306) (0, 0) Q := by
  have hV0 := hV
  obtain ⟨hc, hp, he, h1, h2, hP, hS, ok⟩ := hV
  have cg := isC_ge hc
  have el := isE_lt he
  have pl := isP_lt hp
  have w0 := hP.1.2.2.2.1
  have v0 := hP.1.2.2.2.2.1
  have n9 := hP.1.2.2.2.2.2
  have n0 : 0 < P.w * P.v := Nat.mul_pos w0 v0
  obtain ⟨hS0, hS1, hS2, hS3, hS4, hS5, hS6, hS7, hS8, hS9⟩ := cam_F (ys := ys) (s := s) hc
  obtain ⟨hR0, hR1, hR2, hR3, hR4, hR5, hR6, hR7, hR8, hR13, hR14⟩ := cam_R (s := s) hc
  rw [h1] at hR13
  rw [h2] at hR14
  obtain ⟨hS10, hS11, hS12, hS13, hR15, hR16, hR17⟩ := pl_F (ys := ys) (s := s) hp
  obtain ⟨hS14, hR18, hR19, hR20⟩ := en_F (ys := ys) (s := s) he
  unfold fgF at kk
  have hSt : ∀ I L, pm_sh (g_P ys) (I, L, g_R s, 306) (cm + 1 + r) = some (.inr (0, 289)) := by
    rcases (show r = 4 ∨ r = 5 ∨ r = 6 by omega) with rfl | rfl | rfl <;> assumption
  have l := pgF_lt (f := g) (n := P.w * P.v) n0
  have pg := fun (Q : List Value → pm_H → Prop) kk => B_placeOfGreatestX (ys := ys) (L := L) (Q := Q) hV0 hr hg kk
  obtain ⟨t, ht⟩ : ∃ t, t = cm + 1 + r := ⟨_, rfl⟩
  rw [← ht] at hSt hg pg ⊢
  refine ps_aload rfl rfl ?_
  refine ps_aload rfl rfl ?_
  refine pv_k rfl rfl rfl rfl rfl (hS0 _ _) rfl ⟨Nat.zero_le _, Nat.zero_le _⟩ ?_
  refine pg _ ?_
  by_cases h2 : w = 2
  · rw [if_pos h2] at kk
    refine ps_istore rfl rfl ?_
    refine ps_iload rfl rfl ?_
    refine pw_c rfl ?_
    refine ps_icmpf rfl (decide_eq_false (fun z => z h2)) ?_
    refine ps_aload rfl rfl ?_
    refine ps_iload rfl rfl ?_
    refine ps_iald (pgF g (P.w * P.v)) rfl (hSt _ _) rfl rfl (by omega) ?_
    rw [show ((I, L, g_R s, 306) : pm_H).1 t (pgF g (P.w * P.v)) = g (pgF g (P.w * P.v)) from hg _ (by omega)]
    refine ps_goto rfl ?_
    refine ps_iret rfl rfl ?_
    exact kk
  · rw [if_neg h2] at kk
    refine ps_istore rfl rfl ?_
    refine ps_iload rfl rfl ?_
    refine pw_c rfl ?_
    refine ps_icmpt rfl (decide_eq_true h2) ?_
    refine ps_aload rfl rfl ?_
    refine ps_gfr 10 13 rfl rfl rfl (by first | exact hS0 _ _ | exact hS1 _ _ | exact hS2 _ _ | exact hS3 _ _ | exact hS4 _ _ | exact hS5 _ _ | exact hS6 _ _ | exact hS7 _ _ | exact hS8 _ _ | exact hS9 _ _ | exact hS10 _ _ | exact hS11 _ _ | exact hS12 _ _ | exact hS13 _ _ | exact hS14 _ _ | exact hS15 _ _ | exact hS16 _ _ | exact hS17 _ _ | exact hS18 _ _ | exact hS19 _ _ | exact hS20 _ _ | exact hS21 _ _ | exact hS22 _ _ | exact hS23 _ _ | assumption | rfl) rfl (by first | assumption | rfl) ?_
    refine ps_iload rfl rfl ?_
    refine ps_iload rfl rfl ?_
    refine pv_k rfl rfl rfl rfl rfl (hS10 _ _) rfl ⟨Nat.zero_le _, Nat.zero_le _⟩ ?_
    refine B_xOrYX hp hP.1 (by omega) w ?_
    refine ps_iret rfl rfl ?_
    exact kk
end TM
