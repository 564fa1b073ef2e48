/-! BY HAND: the class's calls about shadows, fourth: best -/
section TV
variable {I I' I1 I2 J : Nat → Nat → Int32} {L : Nat → Nat → Int64} {s s' s1 s2 : Nat → Option Nat} {Q : List Value → pm_H → Prop} {ys : List Int32} {p e m t b u r : Nat} {P : sPl} {S : sS} {B : sB} {pc : sPc} {g : Nat → Int32} {h : pm_H}
theorem cF_tr (hb : isB b) (h : cFF b B s I) (ok : B.ok) (k : ∀ a j, ¬ (a = 0 ∧ j = 10) → ¬ (265 ≤ a ∧ a ≤ 274) → I' a j = I a j) (e2 : s' 2 = s 2) (e3 : s' 3 = s 3) : cFF b B s' I' ∧ qS b I I' := by
  have bb := isB_b hb
  have q : qS b I I' := fun a j z1 z2 _ => k a j z1 (by omega)
  refine ⟨⟨cBq_q hb h.1 ok q, cSc_q hb h.2.1 q, cSds_c hb h.2.2.1 ok (fun a j z1 z2 => k a j (by omega) (by omega)), ?_⟩, q⟩
  have c := cCm_c (I' := I') h.2.2.2 (fun a j z1 z2 => k a j (by omega) (by omega))
  exact c.imp id (fun ⟨u, z1, z2, z3, z4, z5, z6⟩ => ⟨u, z1, z2, z3, e2.trans z4, e3.trans z5, z6⟩)
theorem bs_c (B : sB) : ∀ k, (bsS B k).1 = -1 ∨ ∃ i, i < k ∧ (bsS B k).1 = nI i
  | 0 => Or.inl rfl
  | k + 1 => by
    rw [bsS]
    have ih := bs_c B k
    split
    · split
      · exact Or.inr ⟨k, by omega, rfl⟩
      · exact ih.imp id (fun ⟨i, h, e⟩ => ⟨i, by omega, e⟩)
    · exact ih.imp id (fun ⟨i, h, e⟩ => ⟨i, by omega, e⟩)
theorem B_best8 (hb : isB b) (h0 : s 0 = some b) (hF : cFF b B s I) (ok : B.ok) (w : Int32) (kk : ∀ r I' s', r = exv (qBest B w) → qS b I I' → lkS s s' → cFF b B s' I' → Q [.int r] (I', L, g_R s', 306)) : pm_W (g_P ys) 178 0 [.ref 0, .int w, .retAddr 0, .retAddr 0, .retAddr 0, .retAddr 0, .retAddr 0] [] (I, L, g_R s, 306) (0, 0) Q := by
  have bb := isB_b hb
  have p6 := ok.1
  have e0 : (0 : Int32).toInt = 0 := rfl
  have e1 : (1 : Int32).toInt = 1 := rfl
  have hC : isC 265 4 := Or.inr ⟨rfl, rfl⟩
  have hS6 : ∀ s, ∀ I L, pm_sh (g_P ys) (I, L, g_R s, 306) 265 = some (.inl 10) := fun _ _ _ => rfl
  have no : ¬ (0 ≤ w.toInt ∧ w.toInt ≤ 1) → pm_W (g_P ys) 178 9 [.ref 0, .int w, .retAddr 0, .retAddr 0, .retAddr 0, .retAddr 0, .retAddr 0] [] (I, L, g_R s, 306) (0, 0) Q := by
    intro z
    refine ps_aload rfl rfl ?_
    refine pw_c rfl ?_
    refine pv_k rfl rfl rfl rfl rfl (by first | exact hS0 _ _ | exact hS1 _ _ | exact hS2 _ _ | exact hS3 _ _ | exact hS4 _ _ | exact hS5 _ _ | exact hS6 _ _ | exact hS7 _ _ | exact hS8 _ _ | exact hS9 _ _ | exact hS10 _ _ | exact hS11 _ _ | exact hS12 _ _ | exact hS13 _ _ | exact hS14 _ _ | exact hS15 _ _ | exact hS16 _ _ | exact hS17 _ _ | exact hS18 _ _ | exact hS19 _ _ | exact hS20 _ _ | exact hS21 _ _ | exact hS22 _ _ | exact hS23 _ _ | assumption | rfl) rfl ⟨Nat.zero_le _, Nat.zero_le _⟩ ?_
    refine B_refuse ?_
    refine ps_iret rfl rfl ?_
    exact kk _ _ s (by unfold qBest; rw [if_pos z]; rfl) qS_u lkS_r (cF_st hb hF ok)
  have go : (0 ≤ w.toInt ∧ w.toInt ≤ 1) → pm_W (g_P ys) 178 15 [.ref 0, .int w, .retAddr 0, .retAddr 0, .retAddr 0, .retAddr 0, .retAddr 0] [] (I, L, g_R s, 306) (0, 0) Q := by
    intro hw
    have ea : qBest B w = if (bsS B B.ps).1 = -1 then .error 5 else .ok (if w = 0 then (bsS B B.ps).1 else (bsS B B.ps).2) := by
      unfold qBest
      rw [if_neg (fun z => z hw)]
    have main : ∀ d k, k + d = B.ps → ∀ I' s' (u5 u6 : Value), qS b I I' → lkS s s' → cFF b B s' I' → pm_W (g_P ys) 178 22 [.ref 0, .int w, .int (bsS B k).1, .int (bsS B k).2, .int (nI k), u5, u6] [] (I', L, g_R s', 306) (0, 0) Q := by
      intro d
      induction d with
      | zero =>
        intro k hk I' s' u5 u6 q l f
        have ek : k = B.ps := by omega
        subst ek
        have h0' := h0_l h0 l
        obtain ⟨hS0, _⟩ := bn_F (ys := ys) (s := s') hb
        refine ps_iload rfl rfl ?_
        refine ps_aload rfl rfl ?_
        refine ps_gfr 0 6 rfl rfl rfl (by first | exact hS0 _ _ | exact hS1 _ _ | exact hS2 _ _ | exact hS3 _ _ | exact hS4 _ _ | exact hS5 _ _ | exact hS6 _ _ | exact hS7 _ _ | exact hS8 _ _ | exact hS9 _ _ | exact hS10 _ _ | exact hS11 _ _ | exact hS12 _ _ | exact hS13 _ _ | exact hS14 _ _ | exact hS15 _ _ | exact hS16 _ _ | exact hS17 _ _ | exact hS18 _ _ | exact hS19 _ _ | exact hS20 _ _ | exact hS21 _ _ | exact hS22 _ _ | exact hS23 _ _ | assumption | rfl) rfl ( h0') ?_
        refine ps_gfi 8 3 rfl rfl rfl (by first | exact hS0 _ _ | exact hS1 _ _ | exact hS2 _ _ | exact hS3 _ _ | exact hS4 _ _ | exact hS5 _ _ | exact hS6 _ _ | exact hS7 _ _ | exact hS8 _ _ | exact hS9 _ _ | exact hS10 _ _ | exact hS11 _ _ | exact hS12 _ _ | exact hS13 _ _ | exact hS14 _ _ | exact hS15 _ _ | exact hS16 _ _ | exact hS17 _ _ | exact hS18 _ _ | exact hS19 _ _ | exact hS20 _ _ | exact hS21 _ _ | exact hS22 _ _ | exact hS23 _ _ | assumption | rfl) rfl ?_
        rw [show ((I', L, g_R s', 306) : pm_H).1 b 3 = nI B.ps from f.1.1]
        refine ps_icmpt rfl (decide_eq_true (nI_le (by omega) (by omega))) ?_
        refine ps_iload rfl rfl ?_
        refine pw_c rfl ?_
        by_cases c : (bsS B B.ps).1 = -1
        · rw [if_pos c] at ea
          refine ps_icmpf rfl (decide_eq_false (fun z => z c)) ?_
          refine ps_aload rfl rfl ?_
          refine pw_c rfl ?_
          refine pv_k rfl rfl rfl rfl rfl (by first | exact hS0 _ _ | exact hS1 _ _ | exact hS2 _ _ | exact hS3 _ _ | exact hS4 _ _ | exact hS5 _ _ | exact hS6 _ _ | exact hS7 _ _ | exact hS8 _ _ | exact hS9 _ _ | exact hS10 _ _ | exact hS11 _ _ | exact hS12 _ _ | exact hS13 _ _ | exact hS14 _ _ | exact hS15 _ _ | exact hS16 _ _ | exact hS17 _ _ | exact hS18 _ _ | exact hS19 _ _ | exact hS20 _ _ | exact hS21 _ _ | exact hS22 _ _ | exact hS23 _ _ | assumption | rfl) rfl ⟨Nat.zero_le _, Nat.zero_le _⟩ ?_
          refine B_refuse ?_
          refine ps_iret rfl rfl ?_
          exact kk _ _ s' (by rw [ea]; rfl) (qS_t q qS_u) l (cF_st hb f ok)
        · rw [if_neg c] at ea
          have ew : ∀ y : Int32, w.toInt = y.toInt → w = y := fun y q => (i_eq _ _).mpr q
          rcases (show w.toInt = 0 ∨ w.toInt = 1 by omega) with w0 | w0
          · have w0 := ew 0 w0
            subst w0
            refine ps_icmpt rfl (decide_eq_true c) ?_
            refine ps_aload rfl rfl ?_
            refine ps_iload rfl rfl ?_
            refine ps_iff rfl (by decide) ?_
            refine ps_iload rfl rfl ?_
            refine ps_goto rfl ?_
            refine pv_k rfl rfl rfl rfl rfl (by first | exact hS0 _ _ | exact hS1 _ _ | exact hS2 _ _ | exact hS3 _ _ | exact hS4 _ _ | exact hS5 _ _ | exact hS6 _ _ | exact hS7 _ _ | exact hS8 _ _ | exact hS9 _ _ | exact hS10 _ _ | exact hS11 _ _ | exact hS12 _ _ | exact hS13 _ _ | exact hS14 _ _ | exact hS15 _ _ | exact hS16 _ _ | exact hS17 _ _ | exact hS18 _ _ | exact hS19 _ _ | exact hS20 _ _ | exact hS21 _ _ | exact hS22 _ _ | exact hS23 _ _ | assumption | rfl) rfl ⟨Nat.zero_le _, Nat.zero_le _⟩ ?_
            refine B_answer ?_
            refine ps_iret rfl rfl ?_
            exact kk _ _ s' (by rw [ea]; rfl) (qS_t q qS_u) l (cF_st hb f ok)
          · have w0 := ew 1 w0
            subst w0
            refine ps_icmpt rfl (decide_eq_true c) ?_
            refine ps_aload rfl rfl ?_
            refine ps_iload rfl rfl ?_
            refine ps_ift rfl (by decide) ?_
            refine ps_iload rfl rfl ?_
            refine pv_k rfl rfl rfl rfl rfl (by first | exact hS0 _ _ | exact hS1 _ _ | exact hS2 _ _ | exact hS3 _ _ | exact hS4 _ _ | exact hS5 _ _ | exact hS6 _ _ | exact hS7 _ _ | exact hS8 _ _ | exact hS9 _ _ | exact hS10 _ _ | exact hS11 _ _ | exact hS12 _ _ | exact hS13 _ _ | exact hS14 _ _ | exact hS15 _ _ | exact hS16 _ _ | exact hS17 _ _ | exact hS18 _ _ | exact hS19 _ _ | exact hS20 _ _ | exact hS21 _ _ | exact hS22 _ _ | exact hS23 _ _ | assumption | rfl) rfl ⟨Nat.zero_le _, Nat.zero_le _⟩ ?_
            refine B_answer ?_
            refine ps_iret rfl rfl ?_
            exact kk _ _ s' (by rw [ea]; rfl) (qS_t q qS_u) l (cF_st hb f ok)
      | succ d ih =>
        intro k hk I' s' u5 u6 q l f
        have kl : k < B.ps := by omega
        have h0' := h0_l h0 l
        have hp := isP_6 hb ok kl
        have he := isE_b hb
        have z := ih (k + 1) (by omega)
        rw [bsS] at z
        obtain ⟨hS0, hS1, hS2, hS3, hS4, hR0, hR1, hR2, hR3, hR4, hR5, hR6, hR7⟩ := bn_F (ys := ys) (s := s') hb
        obtain ⟨hS10, hS11, hS12, hS13, hR15, hR16, hR17⟩ := pl_F (ys := ys) (s := s') hp
        refine ps_iload rfl rfl ?_
        refine ps_aload rfl rfl ?_
        refine ps_gfr 0 6 rfl rfl rfl (by first | exact hS0 _ _ | exact hS1 _ _ | exact hS2 _ _ | exact hS3 _ _ | exact hS4 _ _ | exact hS5 _ _ | exact hS6 _ _ | exact hS7 _ _ | exact hS8 _ _ | exact hS9 _ _ | exact hS10 _ _ | exact hS11 _ _ | exact hS12 _ _ | exact hS13 _ _ | exact hS14 _ _ | exact hS15 _ _ | exact hS16 _ _ | exact hS17 _ _ | exact hS18 _ _ | exact hS19 _ _ | exact hS20 _ _ | exact hS21 _ _ | exact hS22 _ _ | exact hS23 _ _ | assumption | rfl) rfl ( h0') ?_
        refine ps_gfi 8 3 rfl rfl rfl (by first | exact hS0 _ _ | exact hS1 _ _ | exact hS2 _ _ | exact hS3 _ _ | exact hS4 _ _ | exact hS5 _ _ | exact hS6 _ _ | exact hS7 _ _ | exact hS8 _ _ | exact hS9 _ _ | exact hS10 _ _ | exact hS11 _ _ | exact hS12 _ _ | exact hS13 _ _ | exact hS14 _ _ | exact hS15 _ _ | exact hS16 _ _ | exact hS17 _ _ | exact hS18 _ _ | exact hS19 _ _ | exact hS20 _ _ | exact hS21 _ _ | exact hS22 _ _ | exact hS23 _ _ | assumption | rfl) rfl ?_
        rw [show ((I', L, g_R s', 306) : pm_H).1 b 3 = nI B.ps from f.1.1]
        refine ps_icmpf rfl (decide_eq_false (nI_ge (by omega) (by omega))) ?_
        refine ps_aload rfl rfl ?_
        refine ps_gfr 0 6 rfl rfl rfl (by first | exact hS0 _ _ | exact hS1 _ _ | exact hS2 _ _ | exact hS3 _ _ | exact hS4 _ _ | exact hS5 _ _ | exact hS6 _ _ | exact hS7 _ _ | exact hS8 _ _ | exact hS9 _ _ | exact hS10 _ _ | exact hS11 _ _ | exact hS12 _ _ | exact hS13 _ _ | exact hS14 _ _ | exact hS15 _ _ | exact hS16 _ _ | exact hS17 _ _ | exact hS18 _ _ | exact hS19 _ _ | exact hS20 _ _ | exact hS21 _ _ | exact hS22 _ _ | exact hS23 _ _ | assumption | rfl) rfl ( h0') ?_
        refine ps_iload rfl rfl ?_
        refine pv_k rfl rfl rfl rfl rfl (hS0 _ _) rfl ⟨Nat.zero_le _, Nat.zero_le _⟩ ?_
        refine B_plate6 hb f.1 p6 _ (fun i hi ei => ?_) (fun hn => absurd (by rw [nI_toInt (by omega)]; omega) hn)
        have ei : i = k := nI_eqv (by omega) (by omega) ei.symm
        subst ei
        refine ps_astore rfl rfl ?_
        refine ps_aload rfl rfl ?_
        refine ps_brr rfl rfl rfl rfl rfl rfl ?_
        refine ps_aload rfl rfl ?_
        refine pv_k rfl rfl rfl rfl rfl (hS10 _ _) rfl ⟨Nat.zero_le _, Nat.zero_le _⟩ ?_
        refine B_canRestoreX hp (cBq_p f.1 kl) (f.2.2.1 i kl) (fun cr I1 a1 s1 => ?_) (fun cr I1 a1 s1 => ?_)
        · rw [if_pos cr] at z
          obtain ⟨f1, q1⟩ := cF_sk hb f ok kl (Or.inl ⟨a1, s1⟩)
          refine ps_iff rfl (by decide) ?_
          refine ps_aload rfl rfl ?_
          refine ps_gfr 0 9 rfl rfl rfl (by first | exact hS0 _ _ | exact hS1 _ _ | exact hS2 _ _ | exact hS3 _ _ | exact hS4 _ _ | exact hS5 _ _ | exact hS6 _ _ | exact hS7 _ _ | exact hS8 _ _ | exact hS9 _ _ | exact hS10 _ _ | exact hS11 _ _ | exact hS12 _ _ | exact hS13 _ _ | exact hS14 _ _ | exact hS15 _ _ | exact hS16 _ _ | exact hS17 _ _ | exact hS18 _ _ | exact hS19 _ _ | exact hS20 _ _ | exact hS21 _ _ | exact hS22 _ _ | exact hS23 _ _ | assumption | rfl) rfl ( rfl) ?_
          refine pv_k rfl rfl rfl rfl rfl (hS6 _ _ _) rfl ⟨Nat.zero_le _, Nat.zero_le _⟩ ?_
          have hS5 := hS6 s'
          refine ps_aload rfl rfl ?_
          refine pw_c rfl ?_
          refine ps_pfz 10 15 rfl rfl rfl (by first | exact hS0 _ _ | exact hS1 _ _ | exact hS2 _ _ | exact hS3 _ _ | exact hS4 _ _ | exact hS5 _ _ | exact hS6 _ _ | exact hS7 _ _ | exact hS8 _ _ | exact hS9 _ _ | exact hS10 _ _ | exact hS11 _ _ | exact hS12 _ _ | exact hS13 _ _ | exact hS14 _ _ | exact hS15 _ _ | exact hS16 _ _ | exact hS17 _ _ | exact hS18 _ _ | exact hS19 _ _ | exact hS20 _ _ | exact hS21 _ _ | exact hS22 _ _ | exact hS23 _ _ | assumption | rfl) rfl (Or.inl rfl) ?_
          refine ps_vret rfl rfl ?_
          obtain ⟨I2, hI2⟩ : ∃ I2, I2 = pm_u I1 265 15 0 := ⟨_, rfl⟩
          show pm_W _ _ _ _ _ (pm_u I1 265 15 0, L, g_R s', 306) _ _
          rw [← hI2]
          have o2 : ∀ a j, ¬ (a = 265 ∧ j = 15) → I2 a j = I1 a j := fun a j z => by
            rw [hI2]
            exact pu_x z
          have a2 : I2 265 15 = 0 := by
            rw [hI2]
            exact pu_s
          obtain ⟨f2, q2⟩ := cF_tr (s' := s') hb f1 ok (fun a j z1 z2 => o2 a j (by omega)) rfl rfl
          refine ps_aload rfl rfl ?_
          refine ps_gfr 0 9 rfl rfl rfl (by first | exact hS0 _ _ | exact hS1 _ _ | exact hS2 _ _ | exact hS3 _ _ | exact hS4 _ _ | exact hS5 _ _ | exact hS6 _ _ | exact hS7 _ _ | exact hS8 _ _ | exact hS9 _ _ | exact hS10 _ _ | exact hS11 _ _ | exact hS12 _ _ | exact hS13 _ _ | exact hS14 _ _ | exact hS15 _ _ | exact hS16 _ _ | exact hS17 _ _ | exact hS18 _ _ | exact hS19 _ _ | exact hS20 _ _ | exact hS21 _ _ | exact hS22 _ _ | exact hS23 _ _ | assumption | rfl) rfl ( rfl) ?_
          refine ps_aload rfl rfl ?_
          refine ps_aload rfl rfl ?_
          refine ps_gfr 0 6 rfl rfl rfl (by first | exact hS0 _ _ | exact hS1 _ _ | exact hS2 _ _ | exact hS3 _ _ | exact hS4 _ _ | exact hS5 _ _ | exact hS6 _ _ | exact hS7 _ _ | exact hS8 _ _ | exact hS9 _ _ | exact hS10 _ _ | exact hS11 _ _ | exact hS12 _ _ | exact hS13 _ _ | exact hS14 _ _ | exact hS15 _ _ | exact hS16 _ _ | exact hS17 _ _ | exact hS18 _ _ | exact hS19 _ _ | exact hS20 _ _ | exact hS21 _ _ | exact hS22 _ _ | exact hS23 _ _ | assumption | rfl) rfl ( h0') ?_
          refine ps_gfr 8 1 rfl rfl rfl (by first | exact hS0 _ _ | exact hS1 _ _ | exact hS2 _ _ | exact hS3 _ _ | exact hS4 _ _ | exact hS5 _ _ | exact hS6 _ _ | exact hS7 _ _ | exact hS8 _ _ | exact hS9 _ _ | exact hS10 _ _ | exact hS11 _ _ | exact hS12 _ _ | exact hS13 _ _ | exact hS14 _ _ | exact hS15 _ _ | exact hS16 _ _ | exact hS17 _ _ | exact hS18 _ _ | exact hS19 _ _ | exact hS20 _ _ | exact hS21 _ _ | exact hS22 _ _ | exact hS23 _ _ | assumption | rfl) rfl (by first | assumption | rfl) ?_
          refine pv_k rfl rfl rfl rfl rfl (hS6 _ _ _) rfl ⟨Nat.zero_le _, Nat.zero_le _⟩ ?_
          refine B_aimX (cm := 265) (ci := 4) hC hp he (cBq_p f2.1 kl) f2.2.1 (okB ok) a2 (fun I3 a3 m3 g1 g2 g3 g4 => ?_)
          obtain ⟨s3, hs3⟩ : ∃ s3, s3 = aimS 4 (b + 17 + 4 * i) (b + 2) s' := ⟨_, rfl⟩
          have p3 : s3 4 = some (b + 17 + 4 * i) := by rw [hs3]; exact aimS_p hC
          have e3 : s3 (4 + 1) = some (b + 2) := by rw [hs3]; exact aimS_e hC
          have o3 : ∀ j, ¬ j = 4 → ¬ j = 4 + 1 → s3 j = s' j := fun j z1 z2 => by rw [hs3]; exact aimS_o z1 z2
          rw [← hs3]
          obtain ⟨f3, q3⟩ := cF_tr (s' := s3) hb f2 ok (fun a j z1 z2 => a3 a j (by omega) (by omega)) (o3 2 (by decide) (by decide)) (o3 3 (by decide) (by decide))
          have V : cV 265 4 (b + 17 + 4 * i) (b + 2) s3 (B.pl i) B.S I3 := ⟨hC, hp, he, p3, e3, cBq_p f3.1 kl, f3.2.1, okB ok⟩
          have sk3 : cSk I3 (b + 17 + 4 * i) (B.pl i) := cSk_o s1 hp (fun a j z => (a3 a j (by omega) (by omega)).trans (o2 a j (by omega)))
          refine ps_aload rfl rfl ?_
          refine ps_gfr 0 9 rfl rfl rfl (by first | exact hS0 _ _ | exact hS1 _ _ | exact hS2 _ _ | exact hS3 _ _ | exact hS4 _ _ | exact hS5 _ _ | exact hS6 _ _ | exact hS7 _ _ | exact hS8 _ _ | exact hS9 _ _ | exact hS10 _ _ | exact hS11 _ _ | exact hS12 _ _ | exact hS13 _ _ | exact hS14 _ _ | exact hS15 _ _ | exact hS16 _ _ | exact hS17 _ _ | exact hS18 _ _ | exact hS19 _ _ | exact hS20 _ _ | exact hS21 _ _ | exact hS22 _ _ | exact hS23 _ _ | assumption | rfl) rfl ( rfl) ?_
          refine pw_c rfl ?_
          refine pv_k rfl rfl rfl rfl rfl (hS6 _ _ _) rfl ⟨Nat.zero_le _, Nat.zero_le _⟩ ?_
          refine B_figureX V (fun _ => sk3) ⟨m3, Or.inl g2, Or.inl g3, Or.inl g4⟩ (by decide) (fun I4 k4 => ?_)
          obtain ⟨f4, q4⟩ := cF_tr (s' := s3) hb f3 ok (fun a j z1 z2 => k4.1 a j (by omega)) rfl rfl
          have l4 : lkS s s3 := lkS_t l (fun j z1 z2 z3 z4 => o3 j z3 z4)
          have qq : qS b I I4 := qS_t q (qS_t q1 (qS_t q2 (qS_t q3 q4)))
          show pm_W _ _ _ _ [.int (erN (B.pl i) B.S)] _ _ _
          have set : (bsS B i).1 = -1 ∨ erN (B.pl i) B.S < (bsS B i).2 → pm_W (g_P ys) 178 102 [.ref 0, .int w, .int (bsS B i).1, .int (bsS B i).2, .int (nI i), .ref (b + 17 + 4 * i), .int (erN (B.pl i) B.S)] [] (I4, L, g_R s3, 306) (0, 0) Q := by
            intro c
            rw [if_pos c] at z
            refine ps_iload rfl rfl ?_
            refine ps_istore rfl rfl ?_
            refine ps_iload rfl rfl ?_
            refine ps_istore rfl rfl ?_
            refine ps_iinc rfl rfl ?_
            refine ps_goto rfl ?_
            rw [show nI i + Int32.ofInt 1 = nI (i + 1) from nI_1 i]
            exact z I4 s3 _ _ qq l4 f4
          by_cases c1 : (bsS B i).1 = -1
          · refine ps_istore rfl rfl ?_
            refine ps_iload rfl rfl ?_
            refine pw_c rfl ?_
            refine ps_icmpt rfl (decide_eq_true c1) ?_
            exact set (Or.inl c1)
          · by_cases c2 : erN (B.pl i) B.S < (bsS B i).2
            · refine ps_istore rfl rfl ?_
              refine ps_iload rfl rfl ?_
              refine pw_c rfl ?_
              refine ps_icmpf rfl (decide_eq_false c1) ?_
              refine ps_iload rfl rfl ?_
              refine ps_iload rfl rfl ?_
              refine ps_icmpf rfl (decide_eq_false (fun z => by have z := (i_le _ _).mp z; have y := (i_lt _ _).mp c2; omega)) ?_
              exact set (Or.inr c2)
            · rw [if_neg (fun y => y.elim c1 c2)] at z
              refine ps_istore rfl rfl ?_
              refine ps_iload rfl rfl ?_
              refine pw_c rfl ?_
              refine ps_icmpf rfl (decide_eq_false c1) ?_
              refine ps_iload rfl rfl ?_
              refine ps_iload rfl rfl ?_
              refine ps_icmpt rfl (decide_eq_true ((i_le _ _).mpr (by have : ¬ (erN (B.pl i) B.S).toInt < (bsS B i).2.toInt := fun q => c2 ((i_lt _ _).mpr q); omega))) ?_
              refine ps_iinc rfl rfl ?_
              refine ps_goto rfl ?_
              rw [show nI i + Int32.ofInt 1 = nI (i + 1) from nI_1 i]
              exact z I4 s3 _ _ qq l4 f4
        · rw [if_neg cr] at z
          obtain ⟨f1, q1⟩ := cF_sk hb f ok kl (Or.inl ⟨a1, s1⟩)
          refine ps_ift rfl (by decide) ?_
          refine ps_iinc rfl rfl ?_
          refine ps_goto rfl ?_
          rw [show nI i + Int32.ofInt 1 = nI (i + 1) from nI_1 i]
          exact z I1 s' _ _ (qS_t q q1) l f1
    refine pw_c rfl ?_
    refine ps_istore rfl rfl ?_
    refine pw_c rfl ?_
    refine ps_istore rfl rfl ?_
    refine pw_c rfl ?_
    refine ps_istore rfl rfl ?_
    exact main B.ps 0 (by omega) I s _ _ qS_r lkS_r hF
  by_cases hw1 : w.toInt < 0
  · refine ps_iload rfl rfl ?_
    refine ps_ift rfl (decide_eq_true ((i_lt _ _).mpr (by omega))) ?_
    exact no (by omega)
  · by_cases hw2 : 1 < w.toInt
    · refine ps_iload rfl rfl ?_
      refine ps_iff rfl (decide_eq_false (fun z => by have := (i_lt _ _).mp z; omega)) ?_
      refine ps_iload rfl rfl ?_
      refine pw_c rfl ?_
      refine ps_icmpf rfl (decide_eq_false (fun z => by have := (i_le _ _).mp z; omega)) ?_
      exact no (by omega)
    · refine ps_iload rfl rfl ?_
      refine ps_iff rfl (decide_eq_false (fun z => by have := (i_lt _ _).mp z; omega)) ?_
      refine ps_iload rfl rfl ?_
      refine pw_c rfl ?_
      refine ps_icmpt rfl (decide_eq_true ((i_le _ _).mpr (by omega))) ?_
      exact go (by omega)
end TV
