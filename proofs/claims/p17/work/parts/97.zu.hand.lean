/-! BY HAND: the model's many, thing -/
section SM
variable {I I' I1 I2 J : Nat → Nat → Int32} {L : Nat → Nat → Int64} {s : Nat → Option Nat} {Q : List Value → pm_H → Prop} {ys : List Int32} {ps m n q : Nat} {S S' : sS} {H H' : Nat → sS}
theorem M_many6 (hS : mSc 288 0 S I) (hH : mHs H m I) (hP : I 275 14 = nI ps) (p6 : ps ≤ 6) (w : Int32) (kE : ∀ e, aMany S ps m w = .error e → Q [.int (-1)] (stI I e, L, g_R s, 306)) (kO : ∀ r, aMany S ps m w = .ok r → Q [.int r] (stI I 0, L, g_R s, 306)) : pm_W (g_P ys) 190 0 [.ref 275, .int w] [] (I, L, g_R s, 306) (0, 0) Q := by
  have e0 : (0 : Int32).toInt = 0 := rfl
  have e6 : (6 : Int32).toInt = 6 := rfl
  have c0 : I 288 0 = nI (S.n 0) := hS.1 0 (by omega)
  have c1 : I 288 1 = nI (S.n 1) := hS.1 1 (by omega)
  have c2 : I 288 2 = nI (S.n 2) := hS.1 2 (by omega)
  have o : ∀ a j, ¬ (a = 275 ∧ (j = 1 ∨ j = 0)) → stI I 0 a j = I a j := fun a j h => stI_o h
  have os : ∀ e, pm_u (pm_u I 275 1 0) 275 0 e = stI I e := fun _ => rfl
  refine ps_aload rfl rfl ?_
  refine ps_iload rfl rfl ?_
  refine ps_ar rfl rfl rfl rfl rfl ?_
  refine pw_c rfl ?_
  refine pw_c rfl ?_
  refine pw_k rfl rfl rfl rfl ⟨Nat.zero_le _, Nat.zero_le _⟩ ?_
  refine M_isIn ?_
  rw [isIn_k w 0 6 0 6 rfl rfl]
  by_cases hw : 0 ≤ w.toInt ∧ w.toInt ≤ 6
  · rw [decide_eq_true hw]
    have ew : ∀ y : Int32, w.toInt = y.toInt → w = y := fun y q => (i_eq _ _).mpr q
    rcases (show w.toInt = 0 ∨ w.toInt = 1 ∨ w.toInt = 2 ∨ w.toInt = 3 ∨ w.toInt = 4 ∨ w.toInt = 5 ∨ w.toInt = 6 by omega) with q | q | q | q | q | q | q
    · have q := ew 0 q
      subst q
      refine ps_ift rfl (rfl) ?_
      refine ps_iload rfl rfl ?_
      refine pw_c rfl ?_
      refine ps_icmpt rfl (by decide) ?_
      refine pw_c rfl ?_
      refine pw_k rfl rfl rfl rfl ⟨Nat.zero_le _, Nat.zero_le _⟩ ?_
      refine M_is ?_
      rw [os]
      refine ps_ift rfl (by decide) ?_
      refine ps_iload rfl rfl ?_
      refine ps_brr rfl rfl rfl rfl rfl rfl ?_
      refine ps_aload rfl rfl ?_
      refine ps_gfi 11 14 rfl rfl rfl rfl rfl ?_
      rw [show (((stI I 0), L, g_R s, 306) : pm_H).1 275 14 = nI ps from (o _ _ (by decide)).trans hP]
      refine ps_iret rfl rfl ?_
      exact kO _ rfl
    · have q := ew 1 q
      subst q
      refine ps_ift rfl (rfl) ?_
      refine ps_iload rfl rfl ?_
      refine pw_c rfl ?_
      refine ps_icmpt rfl (by decide) ?_
      refine pw_c rfl ?_
      refine pw_k rfl rfl rfl rfl ⟨Nat.zero_le _, Nat.zero_le _⟩ ?_
      refine M_is ?_
      rw [os]
      refine ps_ift rfl (by decide) ?_
      refine ps_iload rfl rfl ?_
      refine ps_brr rfl rfl rfl rfl rfl rfl ?_
      refine ps_aload rfl rfl ?_
      refine ps_gfr 11 16 rfl rfl rfl rfl rfl (rfl) ?_
      refine ps_iload rfl rfl ?_
      refine pw_c rfl ?_
      refine ps_ar rfl rfl rfl rfl rfl ?_
      refine ps_iald (0) rfl rfl rfl (by decide) (by omega) ?_
      rw [show (((stI I 0), L, g_R s, 306) : pm_H).1 288 0 = nI (S.n 0) from (o _ _ (by decide)).trans c0]
      refine ps_iret rfl rfl ?_
      exact kO _ rfl
    · have q := ew 2 q
      subst q
      refine ps_ift rfl (rfl) ?_
      refine ps_iload rfl rfl ?_
      refine pw_c rfl ?_
      refine ps_icmpt rfl (by decide) ?_
      refine pw_c rfl ?_
      refine pw_k rfl rfl rfl rfl ⟨Nat.zero_le _, Nat.zero_le _⟩ ?_
      refine M_is ?_
      rw [os]
      refine ps_ift rfl (by decide) ?_
      refine ps_iload rfl rfl ?_
      refine ps_brr rfl rfl rfl rfl rfl rfl ?_
      refine ps_aload rfl rfl ?_
      refine ps_gfr 11 16 rfl rfl rfl rfl rfl (rfl) ?_
      refine ps_iload rfl rfl ?_
      refine pw_c rfl ?_
      refine ps_ar rfl rfl rfl rfl rfl ?_
      refine ps_iald (1) rfl rfl rfl (by decide) (by omega) ?_
      rw [show (((stI I 0), L, g_R s, 306) : pm_H).1 288 1 = nI (S.n 1) from (o _ _ (by decide)).trans c1]
      refine ps_iret rfl rfl ?_
      exact kO _ rfl
    · have q := ew 3 q
      subst q
      refine ps_ift rfl (rfl) ?_
      refine ps_iload rfl rfl ?_
      refine pw_c rfl ?_
      refine ps_icmpt rfl (by decide) ?_
      refine pw_c rfl ?_
      refine pw_k rfl rfl rfl rfl ⟨Nat.zero_le _, Nat.zero_le _⟩ ?_
      refine M_is ?_
      rw [os]
      refine ps_ift rfl (by decide) ?_
      refine ps_iload rfl rfl ?_
      refine ps_brr rfl rfl rfl rfl rfl rfl ?_
      refine ps_aload rfl rfl ?_
      refine ps_gfr 11 16 rfl rfl rfl rfl rfl (rfl) ?_
      refine ps_iload rfl rfl ?_
      refine pw_c rfl ?_
      refine ps_ar rfl rfl rfl rfl rfl ?_
      refine ps_iald (2) rfl rfl rfl (by decide) (by omega) ?_
      rw [show (((stI I 0), L, g_R s, 306) : pm_H).1 288 2 = nI (S.n 2) from (o _ _ (by decide)).trans c2]
      refine ps_iret rfl rfl ?_
      exact kO _ rfl
    · have q := ew 4 q
      subst q
      refine ps_ift rfl (rfl) ?_
      refine ps_iload rfl rfl ?_
      refine pw_c rfl ?_
      refine ps_icmpt rfl (by decide) ?_
      refine pw_c rfl ?_
      refine pw_k rfl rfl rfl rfl ⟨Nat.zero_le _, Nat.zero_le _⟩ ?_
      refine M_is ?_
      rw [os]
      refine ps_ift rfl (by decide) ?_
      refine ps_iload rfl rfl ?_
      refine ps_brr rfl rfl rfl rfl rfl rfl ?_
      refine ps_aload rfl rfl ?_
      refine ps_gfr 11 16 rfl rfl rfl rfl rfl (rfl) ?_
      refine pw_c rfl ?_
      refine ps_iald (3) rfl rfl rfl (rfl) (by omega) ?_
      rw [show (((stI I 0), L, g_R s, 306) : pm_H).1 288 3 = S.bk from (o _ _ (by decide)).trans hS.2.1]
      refine ps_iret rfl rfl ?_
      exact kO _ rfl
    · have q := ew 5 q
      subst q
      have ea : aMany S ps m 5 = if ps = 0 then .error 5 else .ok S.us := rfl
      refine ps_ift rfl (rfl) ?_
      refine ps_iload rfl rfl ?_
      refine pw_c rfl ?_
      refine ps_icmpf rfl (by decide) ?_
      refine ps_aload rfl rfl ?_
      refine ps_gfi 11 14 rfl rfl rfl rfl rfl ?_
      rw [show ((I, L, g_R s, 306) : pm_H).1 275 14 = nI ps from hP]
      by_cases hp : ps = 0
      · rw [if_pos hp] at ea
        refine ps_iff rfl (decide_eq_false (fun z => z (by rw [hp]; rfl))) ?_
        refine pw_c rfl ?_
        refine ps_goto rfl ?_
        refine pw_k rfl rfl rfl rfl ⟨Nat.zero_le _, Nat.zero_le _⟩ ?_
        refine M_is ?_
        refine ps_iff rfl (by decide) ?_
        refine pw_c rfl ?_
        refine ps_iret rfl rfl ?_
        exact kE _ ea
      · rw [if_neg hp] at ea
        refine ps_ift rfl (decide_eq_true (nI_nz (by omega) (by omega))) ?_
        refine pw_c rfl ?_
        refine pw_k rfl rfl rfl rfl ⟨Nat.zero_le _, Nat.zero_le _⟩ ?_
        refine M_is ?_
        rw [os]
        refine ps_ift rfl (by decide) ?_
        refine ps_iload rfl rfl ?_
        refine ps_brr rfl rfl rfl rfl rfl rfl ?_
        refine ps_aload rfl rfl ?_
        refine ps_gfr 11 16 rfl rfl rfl rfl rfl (rfl) ?_
        refine pw_c rfl ?_
        refine ps_iald (4) rfl rfl rfl (rfl) (by omega) ?_
        rw [show (((stI I 0), L, g_R s, 306) : pm_H).1 288 4 = S.us from (o _ _ (by decide)).trans hS.2.2.1]
        refine ps_iret rfl rfl ?_
        exact kO _ ea
    · have q := ew 6 q
      subst q
      refine ps_ift rfl (rfl) ?_
      refine ps_iload rfl rfl ?_
      refine pw_c rfl ?_
      refine ps_icmpt rfl (by decide) ?_
      refine pw_c rfl ?_
      refine pw_k rfl rfl rfl rfl ⟨Nat.zero_le _, Nat.zero_le _⟩ ?_
      refine M_is ?_
      rw [os]
      refine ps_ift rfl (by decide) ?_
      refine ps_iload rfl rfl ?_
      refine ps_brr rfl rfl rfl rfl rfl rfl ?_
      refine ps_aload rfl rfl ?_
      refine ps_gfi 11 19 rfl rfl rfl rfl rfl ?_
      rw [show (((stI I 0), L, g_R s, 306) : pm_H).1 275 19 = nI m from (o _ _ (by decide)).trans hH.2.1]
      refine ps_iret rfl rfl ?_
      exact kO _ rfl
  · rw [decide_eq_false hw]
    refine ps_iff rfl (rfl) ?_
    refine pw_c rfl ?_
    refine ps_goto rfl ?_
    refine pw_k rfl rfl rfl rfl ⟨Nat.zero_le _, Nat.zero_le _⟩ ?_
    refine M_is ?_
    refine ps_iff rfl (by decide) ?_
    refine pw_c rfl ?_
    refine ps_iret rfl rfl ?_
    exact kE 1 (by unfold aMany; rw [if_pos hw])
theorem M_thing6 (hS : mSc 288 0 S I) (ok : S.ok) (kd k w : Int32) (kE : ∀ e, aThing S kd k w = .error e → Q [.int (-1)] (stI I e, L, g_R s, 306)) (kO : ∀ r, aThing S kd k w = .ok r → Q [.int r] (stI I 0, L, g_R s, 306)) : pm_W (g_P ys) 217 0 [.ref 275, .int kd, .int k, .int w, .retAddr 0] [] (I, L, g_R s, 306) (0, 0) Q := by
  have o : ∀ a j, ¬ (a = 275 ∧ (j = 1 ∨ j = 0)) → stI I 0 a j = I a j := fun a j h => stI_o h
  have os : ∀ e, pm_u (pm_u I 275 1 0) 275 0 e = stI I e := fun _ => rfl
  have bad : ¬ ((0 ≤ kd.toInt ∧ kd.toInt ≤ 2) ∧ 0 ≤ w.toInt ∧ w.toInt ≤ (if kd.toInt = 1 then 1 else 2)) → pm_W (g_P ys) 217 37 [.ref 275, .int kd, .int k, .int w, .retAddr 0] [] (I, L, g_R s, 306) (0, 0) Q := by
    intro z
    refine pw_c rfl ?_
    refine ps_istore rfl rfl ?_
    refine ps_aload rfl rfl ?_
    refine ps_iload rfl rfl ?_
    refine ps_iff rfl (rfl) ?_
    refine pw_c rfl ?_
    refine ps_goto rfl ?_
    refine pw_k rfl rfl rfl rfl ⟨Nat.zero_le _, Nat.zero_le _⟩ ?_
    refine M_is ?_
    refine ps_iff rfl (by decide) ?_
    refine pw_c rfl ?_
    refine ps_iret rfl rfl ?_
    exact kE 1 (by unfold aThing; rw [if_pos z])
  have acts : ∀ q, q < 3 → kd = nI q → kd.toInt.toNat = q → ((0 ≤ kd.toInt ∧ kd.toInt ≤ 2) ∧ 0 ≤ w.toInt ∧ w.toInt ≤ (if kd.toInt = 1 then 1 else 2)) → pm_W (g_P ys) 217 33 [.ref 275, .int kd, .int k, .int w, .retAddr 0] [] (I, L, g_R s, 306) (0, 0) Q := by
    intro q hq z1 z2 gd
    have ea : aThing S kd k w = if ¬ (0 ≤ k.toInt ∧ k.toInt < S.n q) then .error 2 else .ok (S.sc q k.toInt.toNat w.toInt.toNat) := by
      unfold aThing
      rw [if_neg (fun z => z gd), z2]
    have nq := ok q hq
    have m12 := mst12 hq
    subst z1
    refine pw_c rfl ?_
    refine ps_goto rfl ?_
    refine ps_istore rfl rfl ?_
    refine ps_aload rfl rfl ?_
    refine ps_iload rfl rfl ?_
    refine ps_ift rfl (rfl) ?_
    refine ps_aload rfl rfl ?_
    refine ps_iload rfl rfl ?_
    refine ps_iload rfl rfl ?_
    refine pw_k rfl rfl rfl rfl ⟨Nat.zero_le _, Nat.zero_le _⟩ ?_
    refine M_isThing6 hS ok hq k ?_
    by_cases hkk : 0 ≤ k.toInt ∧ k.toInt < S.n q
    · rw [if_neg (fun z => z hkk)] at ea
      rw [decide_eq_true hkk]
      obtain ⟨i, hi⟩ : ∃ i, i = k.toInt.toNat := ⟨_, rfl⟩
      obtain ⟨j, hj⟩ : ∃ j, j = w.toInt.toNat := ⟨_, rfl⟩
      have ek := nI_oz hi hkk.1
      have ew := nI_oz hj gd.2.1
      have j3 : j < 3 := by
        have z := gd.2
        split at z <;> omega
      rw [← hi, ← hj] at ea
      have il : i < S.n q := by omega
      have rb := rw_b hq (k := i) (by omega)
      have v := hS.2.2.2 q hq i il j j3
      rw [Nat.zero_add] at v
      clear hkk gd hi hj
      subst ek ew
      refine ps_iff rfl (rfl) ?_
      refine pw_c rfl ?_
      refine ps_goto rfl ?_
      refine pw_k rfl rfl rfl rfl ⟨Nat.zero_le _, Nat.zero_le _⟩ ?_
      refine M_is ?_
      rw [os]
      refine ps_ift rfl (by decide) ?_
      refine ps_aload rfl rfl ?_
      refine ps_gfr 11 16 rfl rfl rfl rfl rfl (rfl) ?_
      refine ps_iload rfl rfl ?_
      refine pw_k rfl rfl rfl rfl ⟨Nat.zero_le _, Nat.zero_le _⟩ ?_
      refine M_rowX hq ?_
      refine pw_c rfl ?_
      refine ps_iload rfl rfl ?_
      refine ps_ar rfl rfl rfl rfl rfl ?_
      rw [show (3 : Int32) * nI i = nI (3 * i) from pk_mul 3 _]
      refine ps_ar rfl rfl rfl rfl rfl ?_
      rw [nI_add]
      refine ps_iload rfl rfl ?_
      refine ps_ar rfl rfl rfl rfl rfl ?_
      rw [nI_add]
      refine ps_iald (rwK q + 3 * i + j) rfl rfl rfl (rfl) (by omega) ?_
      rw [show (((stI I 0), L, g_R s, 306) : pm_H).1 288 (rwK q + 3 * i + j) = S.sc q i j from (o _ _ (by omega)).trans v]
      refine ps_iret rfl rfl ?_
      exact kO _ ea
    · rw [if_pos hkk] at ea
      rw [decide_eq_false hkk]
      refine ps_ift rfl (rfl) ?_
      refine pw_c rfl ?_
      refine pw_k rfl rfl rfl rfl ⟨Nat.zero_le _, Nat.zero_le _⟩ ?_
      refine M_is ?_
      refine ps_iff rfl (by decide) ?_
      refine pw_c rfl ?_
      refine ps_iret rfl rfl ?_
      exact kE _ ea
  have w2 : ∀ q, q < 3 → kd = nI q → kd.toInt.toNat = q → kd.toInt = q → ∀ hi : Int, hi = (if kd.toInt = 1 then 1 else 2) → ∀ a d v : Int64, (decide (a ≤ v) && decide (v ≤ d)) = decide (0 ≤ w.toInt ∧ w.toInt ≤ hi) → pm_W (g_P ys) 217 27 [.ref 275, .int kd, .int k, .int w, .retAddr 0] [.long d, .long a, .long v] (I, L, g_R s, 306) (0, 0) Q := by
    intro q hq z1 z2 z3 hi hhi a d v e
    refine pw_k rfl rfl rfl rfl ⟨Nat.zero_le _, Nat.zero_le _⟩ ?_
    refine M_isIn ?_
    rw [e]
    by_cases hw : 0 ≤ w.toInt ∧ w.toInt ≤ hi
    · rw [decide_eq_true hw]
      refine ps_iff rfl (rfl) ?_
      exact acts q hq z1 z2 ⟨by omega, by rw [← hhi]; exact hw⟩
    · rw [decide_eq_false hw]
      refine ps_ift rfl (rfl) ?_
      refine bad (fun z => hw ?_)
      rw [hhi]
      exact z.2
  refine ps_iload rfl rfl ?_
  refine ps_ar rfl rfl rfl rfl rfl ?_
  refine pw_c rfl ?_
  refine pw_c rfl ?_
  refine pw_k rfl rfl rfl rfl ⟨Nat.zero_le _, Nat.zero_le _⟩ ?_
  refine M_isIn ?_
  rw [isIn_k kd 0 2 0 2 rfl rfl]
  by_cases hk : 0 ≤ kd.toInt ∧ kd.toInt ≤ 2
  · rw [decide_eq_true hk]
    by_cases h1 : kd = 1
    · have t1 : kd.toInt = 1 := by rw [h1]; rfl
      refine ps_iff rfl (rfl) ?_
      refine ps_iload rfl rfl ?_
      refine ps_ar rfl rfl rfl rfl rfl ?_
      refine pw_c rfl ?_
      refine ps_iload rfl rfl ?_
      refine pw_c rfl ?_
      refine ps_icmpf rfl (decide_eq_false (fun z => z h1)) ?_
      refine pw_c rfl ?_
      refine ps_goto rfl ?_
      exact w2 1 (by omega) h1 (by omega) t1 1 (by rw [if_pos t1]) _ _ _ (isIn_k w 0 1 0 1 rfl rfl)
    · have t1 : ¬ kd.toInt = 1 := fun z => h1 ((i_eq _ _).mpr z)
      refine ps_iff rfl (rfl) ?_
      refine ps_iload rfl rfl ?_
      refine ps_ar rfl rfl rfl rfl rfl ?_
      refine pw_c rfl ?_
      refine ps_iload rfl rfl ?_
      refine pw_c rfl ?_
      refine ps_icmpt rfl (decide_eq_true h1) ?_
      refine pw_c rfl ?_
      exact w2 kd.toInt.toNat (by omega) (nI_oz rfl hk.1) rfl (by omega) 2 (by rw [if_neg t1]) _ _ _ (isIn_k w 0 2 0 2 rfl rfl)
  · rw [decide_eq_false hk]
    refine ps_ift rfl (rfl) ?_
    exact bad (fun z => hk z.1)
end SM
