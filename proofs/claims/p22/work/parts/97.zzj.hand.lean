/-! BY HAND: the class's camera, exactly, second: aimed and decoded; lights, errors -/
section TL
variable {I I' J : Nat → Nat → Int32} {L : Nat → Nat → Int64} {s s' : Nat → Option Nat} {Q : List Value → pm_H → Prop} {ys : List Int32} {p e m t cm ci : Nat} {P : sPl} {S : sS}
/-- where it is aimed, and the shadows that it sees -/
def cAm (cm : Nat) (P : sPl) (S : sS) (I : Nat → Nat → Int32) : Prop := (∀ i, i < P.w * P.v → I (cm + 1) i = lostF P S i ∧ I (cm + 2) i = wholF P S 0 i ∧ I (cm + 3) i = shadF P S i ∧ I (cm + 4) i = truF P S i) ∧ I cm 12 = suI (lostF P S) (P.w * P.v)
def decF (P : sPl) (row : Nat → Int32) : Nat → Int32 := dcF P.w P.v row P.we
/-- the refs behind an aim -/
def aimS (ci p e : Nat) (s : Nat → Option Nat) : Nat → Option Nat := fun i => bif Nat.beq i (ci + 1) then some e else bif Nat.beq i ci then some p else s i
theorem aimS_p (hc : isC cm ci) : aimS ci p e s ci = some p := by
  unfold aimS
  rcases hc with ⟨rfl, rfl⟩ | ⟨rfl, rfl⟩ <;> rfl
theorem aimS_e (hc : isC cm ci) : aimS ci p e s (ci + 1) = some e := by
  unfold aimS
  rcases hc with ⟨rfl, rfl⟩ | ⟨rfl, rfl⟩ <;> rfl
theorem aimS_o {i : Nat} (h1 : ¬ i = ci) (h2 : ¬ i = ci + 1) : aimS ci p e s i = s i := by
  unfold aimS
  rw [show Nat.beq i (ci + 1) = false from Bool.eq_false_iff.mpr (fun z => h2 (Nat.eq_of_beq_eq_true z)), show Nat.beq i ci = false from Bool.eq_false_iff.mpr (fun z => h1 (Nat.eq_of_beq_eq_true z))]
  rfl
theorem aim_R (hc : isC cm ci) : pm_u (pm_u (g_R s) cm 13 (some p)) cm 14 (some e) = g_R (aimS ci p e s) := by
  rcases hc with ⟨rfl, rfl⟩ | ⟨rfl, rfl⟩
  · rw [xgR s p 255 13 2 (by simp), xgR _ e 255 14 3 (by simp)]
    rfl
  · rw [xgR s p 265 13 4 (by simp), xgR _ e 265 14 5 (by simp)]
    rfl
/-- what aim writes -/
def amA (cm : Nat) (I I' : Nat → Nat → Int32) : Prop := ∀ a j : Nat, ¬ (cm + 1 ≤ a ∧ a ≤ cm + 4) → ¬ (a = cm ∧ 12 ≤ j) → I' a j = I a j
theorem B_aimX (hc : isC cm ci) (hp : isP p) (he : isE e) (hP : cPq I p P) (hS : cSc e S I) (ok : S.ok) (na : I cm 15 = 0) (kk : ∀ I', amA cm I I' → cAm cm P S I' → I' cm 15 = 1 → I' cm 16 = 0 → I' cm 17 = 0 → I' cm 18 = 0 → Q [] (I', L, g_R (aimS ci p e s), 306)) : pm_W (g_P ys) 124 0 [.ref cm, .ref p, .ref e, .retAddr 0] [] (I, L, g_R s, 306) (0, 0) Q := by
  have cg := isC_ge hc
  have el := isE_lt he
  have pl := isP_lt hp
  have n9 := hP.1.2.2.2.2.2
  obtain ⟨hS0, _⟩ := cam_F (ys := ys) (s := s) hc
  refine ps_aload rfl rfl ?_
  refine ps_gfi 10 15 rfl rfl rfl (by first | exact hS0 _ _ | exact hS1 _ _ | exact hS2 _ _ | exact hS3 _ _ | exact hS4 _ _ | exact hS5 _ _ | exact hS6 _ _ | exact hS7 _ _ | exact hS8 _ _ | exact hS9 _ _ | exact hS10 _ _ | exact hS11 _ _ | exact hS12 _ _ | exact hS13 _ _ | exact hS14 _ _ | exact hS15 _ _ | exact hS16 _ _ | exact hS17 _ _ | exact hS18 _ _ | exact hS19 _ _ | exact hS20 _ _ | exact hS21 _ _ | exact hS22 _ _ | exact hS23 _ _ | assumption | rfl) rfl ?_
  rw [show ((I, L, g_R s, 306) : pm_H).1 cm 15 = 0 from na]
  refine ps_ift rfl (rfl) ?_
  refine ps_aload rfl rfl ?_
  refine ps_aload rfl rfl ?_
  refine ps_pfr 10 13 rfl rfl rfl (by first | exact hS0 _ _ | exact hS1 _ _ | exact hS2 _ _ | exact hS3 _ _ | exact hS4 _ _ | exact hS5 _ _ | exact hS6 _ _ | exact hS7 _ _ | exact hS8 _ _ | exact hS9 _ _ | exact hS10 _ _ | exact hS11 _ _ | exact hS12 _ _ | exact hS13 _ _ | exact hS14 _ _ | exact hS15 _ _ | exact hS16 _ _ | exact hS17 _ _ | exact hS18 _ _ | exact hS19 _ _ | exact hS20 _ _ | exact hS21 _ _ | exact hS22 _ _ | exact hS23 _ _ | assumption | rfl) rfl ?_
  refine ps_aload rfl rfl ?_
  refine ps_aload rfl rfl ?_
  have hT : ∀ I L R, pm_sh (g_P ys) (I, L, R, 306) cm = some (.inl 10) := by
    rcases hc with ⟨rfl, rfl⟩ | ⟨rfl, rfl⟩ <;> exact fun _ _ _ => rfl
  refine ps_pfr 10 14 rfl rfl rfl (hT _ _ _) rfl ?_
  show pm_W _ _ _ _ _ (I, L, pm_u (pm_u (g_R s) cm 13 (some p)) cm 14 (some e), 306) _ _
  rw [aim_R hc]
  obtain ⟨s1, hs1⟩ : ∃ s1, s1 = aimS ci p e s := ⟨_, rfl⟩
  have h1 : s1 ci = some p := by rw [hs1]; exact aimS_p hc
  have h2 : s1 (ci + 1) = some e := by rw [hs1]; exact aimS_e hc
  rw [← hs1] at kk ⊢
  obtain ⟨hS0, hS1, hS2, hS3, hS4, _⟩ := cam_F (ys := ys) (s := s1) hc
  obtain ⟨hR0, hR1, hR2, hR3, _, _, _, _, _, hR13, hR14⟩ := cam_R (s := s1) hc
  rw [h1] at hR13
  rw [h2] at hR14
  obtain ⟨hS6, _, _, _, hR6, hR7, hR8⟩ := pl_F (ys := ys) (s := s1) hp
  obtain ⟨hS10, hR9, hR10, hR11⟩ := en_F (ys := ys) (s := s1) he
  refine ps_aload rfl rfl ?_
  refine pw_c rfl ?_
  refine ps_pfz 10 15 rfl rfl rfl (by first | exact hS0 _ _ | exact hS1 _ _ | exact hS2 _ _ | exact hS3 _ _ | exact hS4 _ _ | exact hS5 _ _ | exact hS6 _ _ | exact hS7 _ _ | exact hS8 _ _ | exact hS9 _ _ | exact hS10 _ _ | exact hS11 _ _ | exact hS12 _ _ | exact hS13 _ _ | exact hS14 _ _ | exact hS15 _ _ | exact hS16 _ _ | exact hS17 _ _ | exact hS18 _ _ | exact hS19 _ _ | exact hS20 _ _ | exact hS21 _ _ | exact hS22 _ _ | exact hS23 _ _ | assumption | rfl) rfl (Or.inr rfl) ?_
  refine ps_aload rfl rfl ?_
  refine pw_c rfl ?_
  refine ps_pfz 10 16 rfl rfl rfl (by first | exact hS0 _ _ | exact hS1 _ _ | exact hS2 _ _ | exact hS3 _ _ | exact hS4 _ _ | exact hS5 _ _ | exact hS6 _ _ | exact hS7 _ _ | exact hS8 _ _ | exact hS9 _ _ | exact hS10 _ _ | exact hS11 _ _ | exact hS12 _ _ | exact hS13 _ _ | exact hS14 _ _ | exact hS15 _ _ | exact hS16 _ _ | exact hS17 _ _ | exact hS18 _ _ | exact hS19 _ _ | exact hS20 _ _ | exact hS21 _ _ | exact hS22 _ _ | exact hS23 _ _ | assumption | rfl) rfl (Or.inl rfl) ?_
  refine ps_aload rfl rfl ?_
  refine pw_c rfl ?_
  refine ps_pfz 10 17 rfl rfl rfl (by first | exact hS0 _ _ | exact hS1 _ _ | exact hS2 _ _ | exact hS3 _ _ | exact hS4 _ _ | exact hS5 _ _ | exact hS6 _ _ | exact hS7 _ _ | exact hS8 _ _ | exact hS9 _ _ | exact hS10 _ _ | exact hS11 _ _ | exact hS12 _ _ | exact hS13 _ _ | exact hS14 _ _ | exact hS15 _ _ | exact hS16 _ _ | exact hS17 _ _ | exact hS18 _ _ | exact hS19 _ _ | exact hS20 _ _ | exact hS21 _ _ | exact hS22 _ _ | exact hS23 _ _ | assumption | rfl) rfl (Or.inl rfl) ?_
  refine ps_aload rfl rfl ?_
  refine pw_c rfl ?_
  refine ps_pfz 10 18 rfl rfl rfl (by first | exact hS0 _ _ | exact hS1 _ _ | exact hS2 _ _ | exact hS3 _ _ | exact hS4 _ _ | exact hS5 _ _ | exact hS6 _ _ | exact hS7 _ _ | exact hS8 _ _ | exact hS9 _ _ | exact hS10 _ _ | exact hS11 _ _ | exact hS12 _ _ | exact hS13 _ _ | exact hS14 _ _ | exact hS15 _ _ | exact hS16 _ _ | exact hS17 _ _ | exact hS18 _ _ | exact hS19 _ _ | exact hS20 _ _ | exact hS21 _ _ | exact hS22 _ _ | exact hS23 _ _ | assumption | rfl) rfl (Or.inl rfl) ?_
  refine ps_aload rfl rfl ?_
  obtain ⟨I1, hI1⟩ : ∃ I1, I1 = pm_u (pm_u (pm_u (pm_u I cm 15 1) cm 16 0) cm 17 0) cm 18 0 := ⟨_, rfl⟩
  show pm_W _ _ _ _ _ (pm_u (pm_u (pm_u (pm_u I cm 15 1) cm 16 0) cm 17 0) cm 18 0, L, g_R s1, 306) _ _
  rw [← hI1]
  have o1 : ∀ a j, ¬ (a = cm ∧ 15 ≤ j) → I1 a j = I a j := fun a j h => by
    rw [hI1]
    exact (pu_x (by omega)).trans ((pu_x (by omega)).trans ((pu_x (by omega)).trans (pu_x (by omega))))
  have f1 : I1 cm 15 = 1 := by rw [hI1, pu_n (by decide), pu_n (by decide), pu_n (by decide), pu_s]
  have f2 : I1 cm 16 = 0 := by rw [hI1, pu_n (by decide), pu_n (by decide), pu_s]
  have f3 : I1 cm 17 = 0 := by rw [hI1, pu_n (by decide), pu_s]
  have f4 : I1 cm 18 = 0 := by rw [hI1, pu_s]
  clear hI1
  have P1 : cP I1 p P.w P.v := cP_o hP.1 (fun j => o1 p j (by omega))
  refine pv_k rfl rfl rfl rfl rfl (hS0 _ _) rfl ⟨Nat.zero_le _, Nat.zero_le _⟩ ?_
  refine B_markLostX hc hp he h1 h2 P1 (cSc_t hS (fun a j z1 z2 => o1 a j (by omega))) ok (fun I2 g1 g2 g3 => ?_)
  refine ps_aload rfl rfl ?_
  refine ps_gfr 10 3 rfl rfl rfl (by first | exact hS0 _ _ | exact hS1 _ _ | exact hS2 _ _ | exact hS3 _ _ | exact hS4 _ _ | exact hS5 _ _ | exact hS6 _ _ | exact hS7 _ _ | exact hS8 _ _ | exact hS9 _ _ | exact hS10 _ _ | exact hS11 _ _ | exact hS12 _ _ | exact hS13 _ _ | exact hS14 _ _ | exact hS15 _ _ | exact hS16 _ _ | exact hS17 _ _ | exact hS18 _ _ | exact hS19 _ _ | exact hS20 _ _ | exact hS21 _ _ | exact hS22 _ _ | exact hS23 _ _ | assumption | rfl) rfl (by first | assumption | rfl) ?_
  refine pw_c rfl ?_
  refine ps_aload rfl rfl ?_
  refine ps_gfr 10 13 rfl rfl rfl (by first | exact hS0 _ _ | exact hS1 _ _ | exact hS2 _ _ | exact hS3 _ _ | exact hS4 _ _ | exact hS5 _ _ | exact hS6 _ _ | exact hS7 _ _ | exact hS8 _ _ | exact hS9 _ _ | exact hS10 _ _ | exact hS11 _ _ | exact hS12 _ _ | exact hS13 _ _ | exact hS14 _ _ | exact hS15 _ _ | exact hS16 _ _ | exact hS17 _ _ | exact hS18 _ _ | exact hS19 _ _ | exact hS20 _ _ | exact hS21 _ _ | exact hS22 _ _ | exact hS23 _ _ | assumption | rfl) rfl (by first | assumption | rfl) ?_
  refine ps_gfi 9 6 rfl rfl rfl (by first | exact hS0 _ _ | exact hS1 _ _ | exact hS2 _ _ | exact hS3 _ _ | exact hS4 _ _ | exact hS5 _ _ | exact hS6 _ _ | exact hS7 _ _ | exact hS8 _ _ | exact hS9 _ _ | exact hS10 _ _ | exact hS11 _ _ | exact hS12 _ _ | exact hS13 _ _ | exact hS14 _ _ | exact hS15 _ _ | exact hS16 _ _ | exact hS17 _ _ | exact hS18 _ _ | exact hS19 _ _ | exact hS20 _ _ | exact hS21 _ _ | exact hS22 _ _ | exact hS23 _ _ | assumption | rfl) rfl ?_
  rw [show ((I2, L, g_R s, 306) : pm_H).1 p 6 = nI (P.w * P.v) from (g1 _ _ (by omega) (by omega)).trans P1.2.2.1]
  refine pw_c rfl ?_
  refine pw_k rfl rfl rfl rfl ⟨Nat.zero_le _, Nat.zero_le _⟩ ?_
  refine B_fillX (N := 289) hS4 (by omega) n9 0 (fun I3 k1 k2 => ?_)
  have o3 : ∀ a j, ¬ (a = cm + 1 ∧ j < P.w * P.v) → ¬ (a = cm ∧ 12 ≤ j) → ¬ (a = cm + 4) → I3 a j = I a j := fun a j z1 z2 z3 => (k1 a j (by omega)).trans ((g1 a j z1 (by omega)).trans (o1 a j (by omega)))
  have P3 : cPq I3 p P := by
    obtain ⟨⟨q1, q2, q3, q4⟩, q5, q6, q7, q8⟩ := hP
    exact ⟨⟨(o3 _ _ (by omega) (by omega) (by omega)).trans q1, (o3 _ _ (by omega) (by omega) (by omega)).trans q2, (o3 _ _ (by omega) (by omega) (by omega)).trans q3, q4⟩, (o3 _ _ (by omega) (by omega) (by omega)).trans q5, (o3 _ _ (by omega) (by omega) (by omega)).trans q6, (o3 _ _ (by omega) (by omega) (by omega)).trans q7, fun i hi => ⟨(o3 _ _ (by omega) (by omega) (by omega)).trans (q8 i hi).1, (o3 _ _ (by omega) (by omega) (by omega)).trans (q8 i hi).2⟩⟩
  have S3 : cSc e S I3 := cSc_t hS (fun a j z1 z2 => o3 a j (by omega) (by omega) (by omega))
  refine ps_aload rfl rfl ?_
  refine ps_aload rfl rfl ?_
  refine ps_gfr 10 3 rfl rfl rfl (by first | exact hS0 _ _ | exact hS1 _ _ | exact hS2 _ _ | exact hS3 _ _ | exact hS4 _ _ | exact hS5 _ _ | exact hS6 _ _ | exact hS7 _ _ | exact hS8 _ _ | exact hS9 _ _ | exact hS10 _ _ | exact hS11 _ _ | exact hS12 _ _ | exact hS13 _ _ | exact hS14 _ _ | exact hS15 _ _ | exact hS16 _ _ | exact hS17 _ _ | exact hS18 _ _ | exact hS19 _ _ | exact hS20 _ _ | exact hS21 _ _ | exact hS22 _ _ | exact hS23 _ _ | assumption | rfl) rfl (by first | assumption | rfl) ?_
  refine ps_aload rfl rfl ?_
  refine ps_gfr 10 14 rfl rfl rfl (by first | exact hS0 _ _ | exact hS1 _ _ | exact hS2 _ _ | exact hS3 _ _ | exact hS4 _ _ | exact hS5 _ _ | exact hS6 _ _ | exact hS7 _ _ | exact hS8 _ _ | exact hS9 _ _ | exact hS10 _ _ | exact hS11 _ _ | exact hS12 _ _ | exact hS13 _ _ | exact hS14 _ _ | exact hS15 _ _ | exact hS16 _ _ | exact hS17 _ _ | exact hS18 _ _ | exact hS19 _ _ | exact hS20 _ _ | exact hS21 _ _ | exact hS22 _ _ | exact hS23 _ _ | assumption | rfl) rfl (by first | assumption | rfl) ?_
  refine ps_gfr 5 0 rfl rfl rfl (by first | exact hS0 _ _ | exact hS1 _ _ | exact hS2 _ _ | exact hS3 _ _ | exact hS4 _ _ | exact hS5 _ _ | exact hS6 _ _ | exact hS7 _ _ | exact hS8 _ _ | exact hS9 _ _ | exact hS10 _ _ | exact hS11 _ _ | exact hS12 _ _ | exact hS13 _ _ | exact hS14 _ _ | exact hS15 _ _ | exact hS16 _ _ | exact hS17 _ _ | exact hS18 _ _ | exact hS19 _ _ | exact hS20 _ _ | exact hS21 _ _ | exact hS22 _ _ | exact hS23 _ _ | assumption | rfl) rfl (by first | assumption | rfl) ?_
  refine pv_k rfl rfl rfl rfl rfl (hS0 _ _) rfl ⟨Nat.zero_le _, Nat.zero_le _⟩ ?_
  refine B_addCountsX (q := 0) (r := 3) hc hp he h1 P3.1 S3 ok (by omega) (by omega) (fun I4 m1 m2 => ?_)
  have m1 : ∀ a j, ¬ (a = cm + 4 ∧ j < P.w * P.v) → I4 a j = I3 a j := m1
  have m2 : ∀ i, i < P.w * P.v → I4 (cm + 4) i = truF P S i := fun i hi => (m2 i hi).trans (acR_c k2 _ _ hi)
  have P4 : cPq I4 p P := by
    obtain ⟨⟨q1, q2, q3, q4⟩, q5, q6, q7, q8⟩ := P3
    exact ⟨⟨(m1 _ _ (by omega)).trans q1, (m1 _ _ (by omega)).trans q2, (m1 _ _ (by omega)).trans q3, q4⟩, (m1 _ _ (by omega)).trans q5, (m1 _ _ (by omega)).trans q6, (m1 _ _ (by omega)).trans q7, fun i hi => ⟨(m1 _ _ (by omega)).trans (q8 i hi).1, (m1 _ _ (by omega)).trans (q8 i hi).2⟩⟩
  refine ps_aload rfl rfl ?_
  refine ps_aload rfl rfl ?_
  refine ps_gfr 10 1 rfl rfl rfl (by first | exact hS0 _ _ | exact hS1 _ _ | exact hS2 _ _ | exact hS3 _ _ | exact hS4 _ _ | exact hS5 _ _ | exact hS6 _ _ | exact hS7 _ _ | exact hS8 _ _ | exact hS9 _ _ | exact hS10 _ _ | exact hS11 _ _ | exact hS12 _ _ | exact hS13 _ _ | exact hS14 _ _ | exact hS15 _ _ | exact hS16 _ _ | exact hS17 _ _ | exact hS18 _ _ | exact hS19 _ _ | exact hS20 _ _ | exact hS21 _ _ | exact hS22 _ _ | exact hS23 _ _ | assumption | rfl) rfl (by first | assumption | rfl) ?_
  refine pw_c rfl ?_
  refine pv_k rfl rfl rfl rfl rfl (hS0 _ _) rfl ⟨Nat.zero_le _, Nat.zero_le _⟩ ?_
  refine B_throwAllX (r := 1) 0 hc hp he h1 h2 P4 (cSc_t S3 (fun a j z1 z2 => m1 a j (by omega))) ok (by omega) (fun I5 w1 w2 => ?_)
  have w1 : ∀ a j, ¬ (a = cm + 2 ∧ j < P.w * P.v) → I5 a j = I4 a j := w1
  have w2 : ∀ i, i < P.w * P.v → I5 (cm + 2) i = wholF P S 0 i := w2
  have lo5 : ∀ i, i < P.w * P.v → I5 (cm + 1) i = lostF P S i := fun i hi => (w1 _ _ (by omega)).trans ((m1 _ _ (by omega)).trans ((k1 _ _ (by omega)).trans (g2 i hi)))
  have tr5 : ∀ i, i < P.w * P.v → I5 (cm + 4) i = truF P S i := fun i hi => (w1 _ _ (by omega)).trans (m2 i hi)
  have o5 : ∀ a j, ¬ (cm + 1 ≤ a ∧ a ≤ cm + 4) → ¬ (a = cm ∧ 12 ≤ j) → I5 a j = I a j := fun a j z1 z2 => (w1 a j (by omega)).trans ((m1 a j (by omega)).trans (o3 a j (by omega) z2 (by omega)))
  have fl : ∀ j, 12 ≤ j → ¬ j = 12 → I5 cm j = I1 cm j := fun j z1 z2 => (w1 _ _ (by omega)).trans ((m1 _ _ (by omega)).trans ((k1 _ _ (by omega)).trans (g1 _ _ (by omega) (by omega))))
  have lc5 : I5 cm 12 = suI (lostF P S) (P.w * P.v) := (w1 _ _ (by omega)).trans ((m1 _ _ (by omega)).trans ((k1 _ _ (by omega)).trans g3))
  have c5 : I5 p 6 = nI (P.w * P.v) := (o5 _ _ (by omega) (by omega)).trans hP.1.2.2.1
  have loop : ∀ d k, k + d = P.w * P.v → ∀ I', (∀ a j, ¬ (a = cm + 3) → I' a j = I5 a j) → (∀ i, i < k → I' (cm + 3) i = shadF P S i) → pm_W (g_P ys) 124 84 [.ref cm, .ref p, .ref e, .int (nI k)] [] (I', L, g_R s1, 306) (0, 0) Q := by
    intro d
    induction d with
    | zero =>
      intro k hk I' q1 q2
      refine ps_iload rfl rfl ?_
      refine ps_aload rfl rfl ?_
      refine ps_gfr 10 13 rfl rfl rfl (by first | exact hS0 _ _ | exact hS1 _ _ | exact hS2 _ _ | exact hS3 _ _ | exact hS4 _ _ | exact hS5 _ _ | exact hS6 _ _ | exact hS7 _ _ | exact hS8 _ _ | exact hS9 _ _ | exact hS10 _ _ | exact hS11 _ _ | exact hS12 _ _ | exact hS13 _ _ | exact hS14 _ _ | exact hS15 _ _ | exact hS16 _ _ | exact hS17 _ _ | exact hS18 _ _ | exact hS19 _ _ | exact hS20 _ _ | exact hS21 _ _ | exact hS22 _ _ | exact hS23 _ _ | assumption | rfl) rfl (by first | assumption | rfl) ?_
      refine ps_gfi 9 6 rfl rfl rfl (by first | exact hS0 _ _ | exact hS1 _ _ | exact hS2 _ _ | exact hS3 _ _ | exact hS4 _ _ | exact hS5 _ _ | exact hS6 _ _ | exact hS7 _ _ | exact hS8 _ _ | exact hS9 _ _ | exact hS10 _ _ | exact hS11 _ _ | exact hS12 _ _ | exact hS13 _ _ | exact hS14 _ _ | exact hS15 _ _ | exact hS16 _ _ | exact hS17 _ _ | exact hS18 _ _ | exact hS19 _ _ | exact hS20 _ _ | exact hS21 _ _ | exact hS22 _ _ | exact hS23 _ _ | assumption | rfl) rfl ?_
      rw [show ((I', L, g_R s, 306) : pm_H).1 p 6 = nI (P.w * P.v) from (q1 _ _ (by omega)).trans c5]
      refine ps_icmpt rfl (decide_eq_true (nI_le (by omega) (by omega))) ?_
      refine ps_vret rfl rfl ?_
      refine kk _ (fun a j z1 z2 => (q1 a j (by omega)).trans (o5 a j z1 z2)) ⟨fun i hi => ⟨(q1 _ _ (by omega)).trans (lo5 i hi), (q1 _ _ (by omega)).trans (w2 i hi), q2 i (by omega), (q1 _ _ (by omega)).trans (tr5 i hi)⟩, (q1 _ _ (by omega)).trans lc5⟩ ?_ ?_ ?_ ?_
      · exact (q1 _ _ (by omega)).trans ((fl _ (by decide) (by decide)).trans f1)
      · exact (q1 _ _ (by omega)).trans ((fl _ (by decide) (by decide)).trans f2)
      · exact (q1 _ _ (by omega)).trans ((fl _ (by decide) (by decide)).trans f3)
      · exact (q1 _ _ (by omega)).trans ((fl _ (by decide) (by decide)).trans f4)
    | succ d ih =>
      intro k hk I' q1 q2
      have next : ∀ x, x = shadF P S k → pm_W (g_P ys) 124 120 [.ref cm, .ref p, .ref e, .int (nI k)] [.int x, .int (nI k), .ref (cm + 3)] (I', L, g_R s1, 306) (0, 0) Q := by
        intro x hx
        refine ps_iast (k) rfl (by first | exact hS0 _ _ | exact hS1 _ _ | exact hS2 _ _ | exact hS3 _ _ | exact hS4 _ _ | exact hS5 _ _ | exact hS6 _ _ | exact hS7 _ _ | exact hS8 _ _ | exact hS9 _ _ | exact hS10 _ _ | exact hS11 _ _ | exact hS12 _ _ | exact hS13 _ _ | exact hS14 _ _ | exact hS15 _ _ | exact hS16 _ _ | exact hS17 _ _ | exact hS18 _ _ | exact hS19 _ _ | exact hS20 _ _ | exact hS21 _ _ | exact hS22 _ _ | exact hS23 _ _ | assumption | rfl) rfl (rfl) (by omega) ?_
        refine ps_iinc rfl rfl ?_
        refine ps_goto rfl ?_
        rw [show nI k + Int32.ofInt 1 = nI (k + 1) from nI_1 k]
        refine ih (k + 1) (by omega) _ (fun a j z => (pu_o z).trans (q1 a j z)) (fun i hi => ?_)
        show pm_u I' (cm + 3) k x (cm + 3) i = _
        by_cases ei : i = k
        · rw [ei, pu_s, hx]
        · rw [pu_n ei]
          exact q2 i (by omega)
      refine ps_iload rfl rfl ?_
      refine ps_aload rfl rfl ?_
      refine ps_gfr 10 13 rfl rfl rfl (by first | exact hS0 _ _ | exact hS1 _ _ | exact hS2 _ _ | exact hS3 _ _ | exact hS4 _ _ | exact hS5 _ _ | exact hS6 _ _ | exact hS7 _ _ | exact hS8 _ _ | exact hS9 _ _ | exact hS10 _ _ | exact hS11 _ _ | exact hS12 _ _ | exact hS13 _ _ | exact hS14 _ _ | exact hS15 _ _ | exact hS16 _ _ | exact hS17 _ _ | exact hS18 _ _ | exact hS19 _ _ | exact hS20 _ _ | exact hS21 _ _ | exact hS22 _ _ | exact hS23 _ _ | assumption | rfl) rfl (by first | assumption | rfl) ?_
      refine ps_gfi 9 6 rfl rfl rfl (by first | exact hS0 _ _ | exact hS1 _ _ | exact hS2 _ _ | exact hS3 _ _ | exact hS4 _ _ | exact hS5 _ _ | exact hS6 _ _ | exact hS7 _ _ | exact hS8 _ _ | exact hS9 _ _ | exact hS10 _ _ | exact hS11 _ _ | exact hS12 _ _ | exact hS13 _ _ | exact hS14 _ _ | exact hS15 _ _ | exact hS16 _ _ | exact hS17 _ _ | exact hS18 _ _ | exact hS19 _ _ | exact hS20 _ _ | exact hS21 _ _ | exact hS22 _ _ | exact hS23 _ _ | assumption | rfl) rfl ?_
      rw [show ((I', L, g_R s, 306) : pm_H).1 p 6 = nI (P.w * P.v) from (q1 _ _ (by omega)).trans c5]
      refine ps_icmpf rfl (decide_eq_false (nI_ge (by omega) (by omega))) ?_
      refine ps_aload rfl rfl ?_
      refine ps_gfr 10 2 rfl rfl rfl (by first | exact hS0 _ _ | exact hS1 _ _ | exact hS2 _ _ | exact hS3 _ _ | exact hS4 _ _ | exact hS5 _ _ | exact hS6 _ _ | exact hS7 _ _ | exact hS8 _ _ | exact hS9 _ _ | exact hS10 _ _ | exact hS11 _ _ | exact hS12 _ _ | exact hS13 _ _ | exact hS14 _ _ | exact hS15 _ _ | exact hS16 _ _ | exact hS17 _ _ | exact hS18 _ _ | exact hS19 _ _ | exact hS20 _ _ | exact hS21 _ _ | exact hS22 _ _ | exact hS23 _ _ | assumption | rfl) rfl (by first | assumption | rfl) ?_
      refine ps_iload rfl rfl ?_
      refine ps_aload rfl rfl ?_
      refine ps_gfr 10 0 rfl rfl rfl (by first | exact hS0 _ _ | exact hS1 _ _ | exact hS2 _ _ | exact hS3 _ _ | exact hS4 _ _ | exact hS5 _ _ | exact hS6 _ _ | exact hS7 _ _ | exact hS8 _ _ | exact hS9 _ _ | exact hS10 _ _ | exact hS11 _ _ | exact hS12 _ _ | exact hS13 _ _ | exact hS14 _ _ | exact hS15 _ _ | exact hS16 _ _ | exact hS17 _ _ | exact hS18 _ _ | exact hS19 _ _ | exact hS20 _ _ | exact hS21 _ _ | exact hS22 _ _ | exact hS23 _ _ | assumption | rfl) rfl (by first | assumption | rfl) ?_
      refine ps_iload rfl rfl ?_
      refine ps_iald (k) rfl (by first | exact hS0 _ _ | exact hS1 _ _ | exact hS2 _ _ | exact hS3 _ _ | exact hS4 _ _ | exact hS5 _ _ | exact hS6 _ _ | exact hS7 _ _ | exact hS8 _ _ | exact hS9 _ _ | exact hS10 _ _ | exact hS11 _ _ | exact hS12 _ _ | exact hS13 _ _ | exact hS14 _ _ | exact hS15 _ _ | exact hS16 _ _ | exact hS17 _ _ | exact hS18 _ _ | exact hS19 _ _ | exact hS20 _ _ | exact hS21 _ _ | exact hS22 _ _ | exact hS23 _ _ | assumption | rfl) rfl (rfl) (by omega) ?_
      rw [show ((I', L, g_R s, 306) : pm_H).1 (cm + 1) k = lostF P S k from (q1 _ _ (by omega)).trans (lo5 k (by omega))]
      by_cases ek : lostF P S k = 1
      · refine pw_c rfl ?_
        refine ps_icmpf rfl (decide_eq_false (fun z => z ek)) ?_
        refine pw_c rfl ?_
        refine ps_goto rfl ?_
        exact next 0 (by unfold shadF; rw [if_pos ek])
      · refine pw_c rfl ?_
        refine ps_icmpt rfl (decide_eq_true ek) ?_
        refine ps_aload rfl rfl ?_
        refine ps_gfr 10 1 rfl rfl rfl (by first | exact hS0 _ _ | exact hS1 _ _ | exact hS2 _ _ | exact hS3 _ _ | exact hS4 _ _ | exact hS5 _ _ | exact hS6 _ _ | exact hS7 _ _ | exact hS8 _ _ | exact hS9 _ _ | exact hS10 _ _ | exact hS11 _ _ | exact hS12 _ _ | exact hS13 _ _ | exact hS14 _ _ | exact hS15 _ _ | exact hS16 _ _ | exact hS17 _ _ | exact hS18 _ _ | exact hS19 _ _ | exact hS20 _ _ | exact hS21 _ _ | exact hS22 _ _ | exact hS23 _ _ | assumption | rfl) rfl (by first | assumption | rfl) ?_
        refine ps_iload rfl rfl ?_
        refine ps_iald (k) rfl (by first | exact hS0 _ _ | exact hS1 _ _ | exact hS2 _ _ | exact hS3 _ _ | exact hS4 _ _ | exact hS5 _ _ | exact hS6 _ _ | exact hS7 _ _ | exact hS8 _ _ | exact hS9 _ _ | exact hS10 _ _ | exact hS11 _ _ | exact hS12 _ _ | exact hS13 _ _ | exact hS14 _ _ | exact hS15 _ _ | exact hS16 _ _ | exact hS17 _ _ | exact hS18 _ _ | exact hS19 _ _ | exact hS20 _ _ | exact hS21 _ _ | exact hS22 _ _ | exact hS23 _ _ | assumption | rfl) rfl (rfl) (by omega) ?_
        rw [show ((I', L, g_R s, 306) : pm_H).1 (cm + 2) k = wholF P S 0 k from (q1 _ _ (by omega)).trans (w2 k (by omega))]
        exact next _ (by unfold shadF; rw [if_neg ek])
  refine pw_c rfl ?_
  refine ps_istore rfl rfl ?_
  exact loop (P.w * P.v) 0 (by omega) I5 (fun _ _ _ => rfl) (fun i hi => absurd hi (by omega))
theorem B_aimN (hc : isC cm ci) (na : I cm 15 = 1) (kk : Q [] (I, L, g_R s, 306)) : pm_W (g_P ys) 124 0 [.ref cm, .ref p, .ref e, .retAddr 0] [] (I, L, g_R s, 306) (0, 0) Q := by
  obtain ⟨hS0, _⟩ := cam_F (ys := ys) (s := s) hc
  refine ps_aload rfl rfl ?_
  refine ps_gfi 10 15 rfl rfl rfl (by first | exact hS0 _ _ | exact hS1 _ _ | exact hS2 _ _ | exact hS3 _ _ | exact hS4 _ _ | exact hS5 _ _ | exact hS6 _ _ | exact hS7 _ _ | exact hS8 _ _ | exact hS9 _ _ | exact hS10 _ _ | exact hS11 _ _ | exact hS12 _ _ | exact hS13 _ _ | exact hS14 _ _ | exact hS15 _ _ | exact hS16 _ _ | exact hS17 _ _ | exact hS18 _ _ | exact hS19 _ _ | exact hS20 _ _ | exact hS21 _ _ | exact hS22 _ _ | exact hS23 _ _ | assumption | rfl) rfl ?_
  rw [show ((I, L, g_R s, 306) : pm_H).1 cm 15 = 1 from na]
  refine ps_iff rfl (rfl) ?_
  refine ps_vret rfl rfl ?_
  exact kk
/-- what is decoded, if it is -/
def cDk (cm : Nat) (P : sPl) (S : sS) (I : Nat → Nat → Int32) : Prop := I cm 16 = 1 ∧ ∀ i, i < P.w * P.v → I (cm + 5) i = decF P (shadF P S) i
def cDd (cm : Nat) (P : sPl) (S : sS) (I : Nat → Nat → Int32) : Prop := I cm 16 = 0 ∨ cDk cm P S I
theorem dcF_c {w v : Nat} {f g we we' : Nat → Int32} (w0 : 0 < w) (v0 : 0 < v) (h1 : ∀ i, i < w * v → f i = g i) (h2 : ∀ i, i < w * v → we i = we' i) (i : Nat) : dcF w v f we i = dcF w v g we' i := by
  unfold dcF
  refine suI_congr (fun c hc => ?_)
  rw [h1 c hc, h2 _ (show mrF w v c i < w * v from cxy_lt w0 v0 _ _)]
theorem B_decodeX (hc : isC cm ci) (hp : isP p) (h1 : s ci = some p) (hP : cPq I p P) (ha : cAm cm P S I) (hd : cDd cm P S I) (kk : ∀ I', (∀ a j, ¬ (a = cm + 5) → ¬ (a = cm ∧ j = 16) → I' a j = I a j) → cDk cm P S I' → Q [] (I', L, g_R s, 306)) : pm_W (g_P ys) 131 0 [.ref cm] [] (I, L, g_R s, 306) (0, 0) Q := by
  have cg := isC_ge hc
  have pl := isP_lt hp
  have w0 := hP.1.2.2.2.1
  have v0 := hP.1.2.2.2.2.1
  obtain ⟨hS0, _, _, hS1, _, hS2, _⟩ := cam_F (ys := ys) (s := s) hc
  obtain ⟨hR0, hR1, hR2, hR3, hR4, _, _, _, _, hR13, hR14⟩ := cam_R (s := s) hc
  rw [h1] at hR13
  obtain ⟨hS6, _, _, _, hR6, hR7, hR8⟩ := pl_F (ys := ys) (s := s) hp
  rcases hd with hd | hd
  · refine ps_aload rfl rfl ?_
    refine ps_gfi 10 16 rfl rfl rfl (by first | exact hS0 _ _ | exact hS1 _ _ | exact hS2 _ _ | exact hS3 _ _ | exact hS4 _ _ | exact hS5 _ _ | exact hS6 _ _ | exact hS7 _ _ | exact hS8 _ _ | exact hS9 _ _ | exact hS10 _ _ | exact hS11 _ _ | exact hS12 _ _ | exact hS13 _ _ | exact hS14 _ _ | exact hS15 _ _ | exact hS16 _ _ | exact hS17 _ _ | exact hS18 _ _ | exact hS19 _ _ | exact hS20 _ _ | exact hS21 _ _ | exact hS22 _ _ | exact hS23 _ _ | assumption | rfl) rfl ?_
    rw [show ((I, L, g_R s, 306) : pm_H).1 cm 16 = 0 from hd]
    refine ps_iff rfl (by decide) ?_
    refine ps_aload rfl rfl ?_
    refine ps_gfr 10 13 rfl rfl rfl (by first | exact hS0 _ _ | exact hS1 _ _ | exact hS2 _ _ | exact hS3 _ _ | exact hS4 _ _ | exact hS5 _ _ | exact hS6 _ _ | exact hS7 _ _ | exact hS8 _ _ | exact hS9 _ _ | exact hS10 _ _ | exact hS11 _ _ | exact hS12 _ _ | exact hS13 _ _ | exact hS14 _ _ | exact hS15 _ _ | exact hS16 _ _ | exact hS17 _ _ | exact hS18 _ _ | exact hS19 _ _ | exact hS20 _ _ | exact hS21 _ _ | exact hS22 _ _ | exact hS23 _ _ | assumption | rfl) rfl (by first | assumption | rfl) ?_
    refine ps_aload rfl rfl ?_
    refine ps_gfr 10 2 rfl rfl rfl (by first | exact hS0 _ _ | exact hS1 _ _ | exact hS2 _ _ | exact hS3 _ _ | exact hS4 _ _ | exact hS5 _ _ | exact hS6 _ _ | exact hS7 _ _ | exact hS8 _ _ | exact hS9 _ _ | exact hS10 _ _ | exact hS11 _ _ | exact hS12 _ _ | exact hS13 _ _ | exact hS14 _ _ | exact hS15 _ _ | exact hS16 _ _ | exact hS17 _ _ | exact hS18 _ _ | exact hS19 _ _ | exact hS20 _ _ | exact hS21 _ _ | exact hS22 _ _ | exact hS23 _ _ | assumption | rfl) rfl (by first | assumption | rfl) ?_
    refine ps_aload rfl rfl ?_
    refine ps_gfr 10 4 rfl rfl rfl (by first | exact hS0 _ _ | exact hS1 _ _ | exact hS2 _ _ | exact hS3 _ _ | exact hS4 _ _ | exact hS5 _ _ | exact hS6 _ _ | exact hS7 _ _ | exact hS8 _ _ | exact hS9 _ _ | exact hS10 _ _ | exact hS11 _ _ | exact hS12 _ _ | exact hS13 _ _ | exact hS14 _ _ | exact hS15 _ _ | exact hS16 _ _ | exact hS17 _ _ | exact hS18 _ _ | exact hS19 _ _ | exact hS20 _ _ | exact hS21 _ _ | exact hS22 _ _ | exact hS23 _ _ | assumption | rfl) rfl (by first | assumption | rfl) ?_
    refine pv_k rfl rfl rfl rfl rfl (hS6 _ _) rfl ⟨Nat.zero_le _, Nat.zero_le _⟩ ?_
    refine B_decodeAllX hp hP.1 hS2 hS1 (by omega) (by omega) (by omega) (fun I1 g1 g2 => ?_)
    refine ps_aload rfl rfl ?_
    refine pw_c rfl ?_
    refine ps_pfz 10 16 rfl rfl rfl (by first | exact hS0 _ _ | exact hS1 _ _ | exact hS2 _ _ | exact hS3 _ _ | exact hS4 _ _ | exact hS5 _ _ | exact hS6 _ _ | exact hS7 _ _ | exact hS8 _ _ | exact hS9 _ _ | exact hS10 _ _ | exact hS11 _ _ | exact hS12 _ _ | exact hS13 _ _ | exact hS14 _ _ | exact hS15 _ _ | exact hS16 _ _ | exact hS17 _ _ | exact hS18 _ _ | exact hS19 _ _ | exact hS20 _ _ | exact hS21 _ _ | exact hS22 _ _ | exact hS23 _ _ | assumption | rfl) rfl (Or.inr rfl) ?_
    refine ps_vret rfl rfl ?_
    refine kk _ (fun a j z1 z2 => (pu_x z2).trans (g1 a j (by omega))) ⟨pu_s, fun i hi => (pu_o (by omega)).trans ((g2 i hi).trans ?_)⟩
    exact dcF_c w0 v0 (fun i hi => (ha.1 i hi).2.2.1) (fun i hi => (hP.2.2.2.2 i hi).2) i
  · refine ps_aload rfl rfl ?_
    refine ps_gfi 10 16 rfl rfl rfl (by first | exact hS0 _ _ | exact hS1 _ _ | exact hS2 _ _ | exact hS3 _ _ | exact hS4 _ _ | exact hS5 _ _ | exact hS6 _ _ | exact hS7 _ _ | exact hS8 _ _ | exact hS9 _ _ | exact hS10 _ _ | exact hS11 _ _ | exact hS12 _ _ | exact hS13 _ _ | exact hS14 _ _ | exact hS15 _ _ | exact hS16 _ _ | exact hS17 _ _ | exact hS18 _ _ | exact hS19 _ _ | exact hS20 _ _ | exact hS21 _ _ | exact hS22 _ _ | exact hS23 _ _ | assumption | rfl) rfl ?_
    rw [show ((I, L, g_R s, 306) : pm_H).1 cm 16 = 1 from hd.1]
    refine ps_ift rfl (by decide) ?_
    refine ps_vret rfl rfl ?_
    exact kk I (fun _ _ _ _ => rfl) hd
end TL
