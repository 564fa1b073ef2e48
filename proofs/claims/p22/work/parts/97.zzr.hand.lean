/-! BY HAND: the class's calls about shadows, second (printed by wip/src/gen97zzq.py) -/
section TT
variable {I I' I1 I2 J : Nat → Nat → Int32} {L : Nat → Nat → Int64} {s s' s1 s2 : Nat → Option Nat} {Q : List Value → pm_H → Prop} {ys : List Int32} {p e m t b u r : Nat} {P : sPl} {S : sS} {B : sB} {pc : sPc} {g : Nat → Int32} {h : pm_H}

theorem B_filled8 (hb : isB b) (h0 : s 0 = some b) (hF : cFF b B s I) (ok : B.ok) (ku : okU B.S B.ps) (w : Int32) (kk : ∀ r I' s', r = exv (qFilled B w) → qS b I I' → lkS s s' → cFF b B s' I' → Q [.int r] (I', L, g_R s', 306)) : pm_W (g_P ys) 159 0 [.ref 0, .int w, .retAddr 0] [] (I, L, g_R s, 306) (0, 0) Q := by
  have bb := isB_b hb
  have p6 := ok.1
  have e0 : (0 : Int32).toInt = 0 := rfl
  have ec1 : (1 : Int32).toInt = 1 := rfl
  have ec2 : (2 : Int32).toInt = 2 := rfl
  have ec3 : (3 : Int32).toInt = 3 := rfl
  have ec5 : (5 : Int32).toInt = 5 := rfl
  have ec7 : (7 : Int32).toInt = 7 := rfl
  have ec20 : (20 : Int32).toInt = 20 := rfl
  have ec99 : (99 : Int32).toInt = 99 := rfl
  have ec500 : (500 : Int32).toInt = 500 := rfl
  have ec65536 : (65536 : Int32).toInt = 65536 := rfl
  have ecm : (-1 : Int32).toInt = -1 := by decide
  have hS5 : ∀ s, ∀ I L, pm_sh (g_P ys) (I, L, g_R s, 306) 255 = some (.inl 10) := fun _ _ _ => rfl
  have no : ¬ (0 ≤ w.toInt ∧ w.toInt ≤ 1) → pm_W (g_P ys) 159 9 [.ref 0, .int w, .retAddr 0] [] (I, L, g_R s, 306) (0, 0) Q := by
    intro z
    refine ps_aload rfl rfl ?_
    refine pw_c rfl ?_
    refine pv_k rfl rfl rfl rfl rfl (by first | exact hS0 _ _ | exact hS1 _ _ | exact hS2 _ _ | exact hS3 _ _ | exact hS4 _ _ | exact hS5 _ _ | exact hS6 _ _ | exact hS7 _ _ | exact hS8 _ _ | exact hS9 _ _ | exact hS10 _ _ | exact hS11 _ _ | exact hS12 _ _ | exact hS13 _ _ | exact hS14 _ _ | exact hS15 _ _ | exact hS16 _ _ | exact hS17 _ _ | exact hS18 _ _ | exact hS19 _ _ | exact hS20 _ _ | exact hS21 _ _ | exact hS22 _ _ | exact hS23 _ _ | assumption | rfl) rfl ⟨Nat.zero_le _, Nat.zero_le _⟩ ?_
    refine B_refuse ?_
    refine ps_iret rfl rfl ?_
    exact kk _ _ s (by unfold qFilled; rw [if_pos z]; rfl) qS_u lkS_r (cF_st hb hF ok)
  have go : (0 ≤ w.toInt ∧ w.toInt ≤ 1) → pm_W (g_P ys) 159 15 [.ref 0, .int w, .retAddr 0] [] (I, L, g_R s, 306) (0, 0) Q := by
    intro hw
    have bad : ∀ (e : Int32) I1 s1, ¬ e = 0 → qFilled B w = .error e → qS b I I1 → lkS s s1 → cFF b B s1 I1 → pm_W (g_P ys) 159 19 [.ref 0, .int w, .retAddr 0] [.int e] (I1, L, g_R s1, 306) (0, 0) Q := by
      intro e I1 s1 he ea q l f
      refine ps_istore rfl rfl ?_
      refine ps_iload rfl rfl ?_
      refine ps_iff rfl (decide_eq_false he) ?_
      refine ps_aload rfl rfl ?_
      refine ps_iload rfl rfl ?_
      refine pv_k rfl rfl rfl rfl rfl (by first | exact hS0 _ _ | exact hS1 _ _ | exact hS2 _ _ | exact hS3 _ _ | exact hS4 _ _ | exact hS5 _ _ | exact hS6 _ _ | exact hS7 _ _ | exact hS8 _ _ | exact hS9 _ _ | exact hS10 _ _ | exact hS11 _ _ | exact hS12 _ _ | exact hS13 _ _ | exact hS14 _ _ | exact hS15 _ _ | exact hS16 _ _ | exact hS17 _ _ | exact hS18 _ _ | exact hS19 _ _ | exact hS20 _ _ | exact hS21 _ _ | exact hS22 _ _ | exact hS23 _ _ | assumption | rfl) rfl ⟨Nat.zero_le _, Nat.zero_le _⟩ ?_
      refine B_refuse ?_
      refine ps_iret rfl rfl ?_
      exact kk _ _ s1 (by rw [ea]; rfl) (qS_t q qS_u) l (cF_st hb f ok)
    refine ps_aload rfl rfl ?_
    refine pv_k rfl rfl rfl rfl rfl rfl rfl ⟨Nat.zero_le _, Nat.zero_le _⟩ ?_
    refine B_lookResX hb h0 hF ok ku (fun z => ?_) (fun u I2 s2 hu eu c q2 l2 k2 => ?_) (fun u I2 s2 hu eu c q2 l2 k2 sk => ?_)
    · exact bad 2 I s (by decide) (by unfold qFilled; rw [if_neg (fun z => z hw), plU_n z]) qS_r lkS_r hF
    · exact bad 5 I2 s2 (by decide) (by unfold qFilled; rw [if_neg (fun z => z hw), plU_s hu eu p6]; exact if_pos c) q2 l2 (cFk_m k2 hu eu)
    · have V := cFk_V hb k2 ok hu
      have hp := V.2.1
      have h13 : g_R s2 255 13 = some (b + 17 + 4 * u) := k2.2.2.2.2.1
      obtain ⟨hS10, hS11, hS12, hS13, hR15, hR16, hR17⟩ := pl_F (ys := ys) (s := s2) hp
      have hP := cBq_p k2.1 hu
      have kn := k2.2.2.2.2.2.2
      have ea : qFilled B w = .ok (if w = 0 then erF (B.pl u) B.S (decF (B.pl u) (filF (B.pl u) B.S)) (suI (filF (B.pl u) B.S) ((B.pl u).w * (B.pl u).v) - B.S.bk * nI ((B.pl u).w * (B.pl u).v)) else ffF (B.pl u) B.S (filF (B.pl u) B.S) ((B.pl u).w * (B.pl u).v)) := by
        unfold qFilled
        rw [if_neg (fun z => z hw), plU_s hu eu p6]
        exact if_neg (fun z => z c)
      refine ps_istore rfl rfl ?_
      refine ps_iload rfl rfl ?_
      refine ps_ift rfl (by decide) ?_
      refine ps_aload rfl rfl ?_
      refine ps_gfr 0 8 rfl rfl rfl (by first | exact hS0 _ _ | exact hS1 _ _ | exact hS2 _ _ | exact hS3 _ _ | exact hS4 _ _ | exact hS5 _ _ | exact hS6 _ _ | exact hS7 _ _ | exact hS8 _ _ | exact hS9 _ _ | exact hS10 _ _ | exact hS11 _ _ | exact hS12 _ _ | exact hS13 _ _ | exact hS14 _ _ | exact hS15 _ _ | exact hS16 _ _ | exact hS17 _ _ | exact hS18 _ _ | exact hS19 _ _ | exact hS20 _ _ | exact hS21 _ _ | exact hS22 _ _ | exact hS23 _ _ | assumption | rfl) rfl ( rfl) ?_
      refine pv_k rfl rfl rfl rfl rfl (hS5 _ _ _) rfl ⟨Nat.zero_le _, Nat.zero_le _⟩ ?_
      refine B_fillLostX V sk kn.1 kn.2.1 kn.2.2.1 (fun I3 r3 g3 d3 m3 => ?_)
      have ko := kn_s kn r3 g3 d3
      have V3 := cV_k V ko
      have sk3 := cSk_k V sk ko
      obtain ⟨f3, q3⟩ := cFk_o hb k2 ok ko
      by_cases w0 : w = 0
      · rw [if_pos w0] at ea
        refine ps_aload rfl rfl ?_
        refine ps_iload rfl rfl ?_
        refine ps_iff rfl (decide_eq_false (fun z => z w0)) ?_
        refine ps_aload rfl rfl ?_
        refine ps_gfr 0 8 rfl rfl rfl (by first | exact hS0 _ _ | exact hS1 _ _ | exact hS2 _ _ | exact hS3 _ _ | exact hS4 _ _ | exact hS5 _ _ | exact hS6 _ _ | exact hS7 _ _ | exact hS8 _ _ | exact hS9 _ _ | exact hS10 _ _ | exact hS11 _ _ | exact hS12 _ _ | exact hS13 _ _ | exact hS14 _ _ | exact hS15 _ _ | exact hS16 _ _ | exact hS17 _ _ | exact hS18 _ _ | exact hS19 _ _ | exact hS20 _ _ | exact hS21 _ _ | exact hS22 _ _ | exact hS23 _ _ | assumption | rfl) rfl ( rfl) ?_
        refine pv_k rfl rfl rfl rfl rfl (hS5 _ _ _) rfl ⟨Nat.zero_le _, Nat.zero_le _⟩ ?_
        refine B_errorFilledX V3 sk3 (fun i hi => (ko.2.2.1.1 i hi).2.2.2) m3 (fun I4 o4 => ?_)
        obtain ⟨f4, q4⟩ := cFk_o hb f3 ok (kn_o ko.2.2 (fun a j z1 z2 => o4 a j z1))
        refine ps_goto rfl ?_
        refine pv_k rfl rfl rfl rfl rfl (by first | exact hS0 _ _ | exact hS1 _ _ | exact hS2 _ _ | exact hS3 _ _ | exact hS4 _ _ | exact hS5 _ _ | exact hS6 _ _ | exact hS7 _ _ | exact hS8 _ _ | exact hS9 _ _ | exact hS10 _ _ | exact hS11 _ _ | exact hS12 _ _ | exact hS13 _ _ | exact hS14 _ _ | exact hS15 _ _ | exact hS16 _ _ | exact hS17 _ _ | exact hS18 _ _ | exact hS19 _ _ | exact hS20 _ _ | exact hS21 _ _ | exact hS22 _ _ | exact hS23 _ _ | assumption | rfl) rfl ⟨Nat.zero_le _, Nat.zero_le _⟩ ?_
        refine B_answer ?_
        refine ps_iret rfl rfl ?_
        exact kk _ _ s2 (by rw [ea]; rfl) (qS_t (qS_t (qS_t q2 q3) q4) qS_u) l2 (cF_st hb (cFk_m f4 hu eu) ok)
      · rw [if_neg w0] at ea
        refine ps_aload rfl rfl ?_
        refine ps_iload rfl rfl ?_
        refine ps_ift rfl (decide_eq_true w0) ?_
        refine ps_aload rfl rfl ?_
        refine ps_gfr 0 8 rfl rfl rfl (by first | exact hS0 _ _ | exact hS1 _ _ | exact hS2 _ _ | exact hS3 _ _ | exact hS4 _ _ | exact hS5 _ _ | exact hS6 _ _ | exact hS7 _ _ | exact hS8 _ _ | exact hS9 _ _ | exact hS10 _ _ | exact hS11 _ _ | exact hS12 _ _ | exact hS13 _ _ | exact hS14 _ _ | exact hS15 _ _ | exact hS16 _ _ | exact hS17 _ _ | exact hS18 _ _ | exact hS19 _ _ | exact hS20 _ _ | exact hS21 _ _ | exact hS22 _ _ | exact hS23 _ _ | assumption | rfl) rfl ( rfl) ?_
        refine pv_k rfl rfl rfl rfl rfl (hS5 _ _ _) rfl ⟨Nat.zero_le _, Nat.zero_le _⟩ ?_
        refine B_farthestFilledX V3 ko.2.2.1 m3 ?_
        refine pv_k rfl rfl rfl rfl rfl (by first | exact hS0 _ _ | exact hS1 _ _ | exact hS2 _ _ | exact hS3 _ _ | exact hS4 _ _ | exact hS5 _ _ | exact hS6 _ _ | exact hS7 _ _ | exact hS8 _ _ | exact hS9 _ _ | exact hS10 _ _ | exact hS11 _ _ | exact hS12 _ _ | exact hS13 _ _ | exact hS14 _ _ | exact hS15 _ _ | exact hS16 _ _ | exact hS17 _ _ | exact hS18 _ _ | exact hS19 _ _ | exact hS20 _ _ | exact hS21 _ _ | exact hS22 _ _ | exact hS23 _ _ | assumption | rfl) rfl ⟨Nat.zero_le _, Nat.zero_le _⟩ ?_
        refine B_answer ?_
        refine ps_iret rfl rfl ?_
        exact kk _ _ s2 (by rw [ea]; rfl) (qS_t (qS_t q2 q3) qS_u) l2 (cF_st hb (cFk_m f3 hu eu) ok)
  by_cases hw1 : w.toInt < 0
  · refine ps_iload rfl rfl ?_
    refine ps_ift rfl (decide_eq_true ((i_lt _ _).mpr (by omega))) ?_
    exact no (by omega)
  · by_cases hw2 : 1 < w.toInt
    · refine ps_iload rfl rfl ?_
      refine ps_iff rfl (decide_eq_false (fun z => by have := (i_lt _ _).mp z; omega)) ?_
      refine ps_iload rfl rfl ?_
      refine pw_c rfl ?_
      refine ps_icmpf rfl (decide_eq_false (fun z => by have := (i_le _ _).mp z; omega)) ?_
      exact no (by omega)
    · refine ps_iload rfl rfl ?_
      refine ps_iff rfl (decide_eq_false (fun z => by have := (i_lt _ _).mp z; omega)) ?_
      refine ps_iload rfl rfl ?_
      refine pw_c rfl ?_
      refine ps_icmpt rfl (decide_eq_true ((i_le _ _).mpr (by omega))) ?_
      exact go (by omega)

theorem B_coarse8 (hb : isB b) (h0 : s 0 = some b) (hF : cFF b B s I) (ok : B.ok) (ku : okU B.S B.ps) (m k : Int32) (kk : ∀ r I' s', r = exv (qCoarse B m k) → qS b I I' → lkS s s' → cFF b B s' I' → Q [.int r] (I', L, g_R s', 306)) : pm_W (g_P ys) 164 0 [.ref 0, .int m, .int k, .retAddr 0] [] (I, L, g_R s, 306) (0, 0) Q := by
  have bb := isB_b hb
  have p6 := ok.1
  have e0 : (0 : Int32).toInt = 0 := rfl
  have ec1 : (1 : Int32).toInt = 1 := rfl
  have ec2 : (2 : Int32).toInt = 2 := rfl
  have ec3 : (3 : Int32).toInt = 3 := rfl
  have ec5 : (5 : Int32).toInt = 5 := rfl
  have ec7 : (7 : Int32).toInt = 7 := rfl
  have ec20 : (20 : Int32).toInt = 20 := rfl
  have ec99 : (99 : Int32).toInt = 99 := rfl
  have ec500 : (500 : Int32).toInt = 500 := rfl
  have ec65536 : (65536 : Int32).toInt = 65536 := rfl
  have ecm : (-1 : Int32).toInt = -1 := by decide
  have hS5 : ∀ s, ∀ I L, pm_sh (g_P ys) (I, L, g_R s, 306) 255 = some (.inl 10) := fun _ _ _ => rfl
  have e2 : (2 : Int32).toInt = 2 := rfl
  have no : ¬ (2 ≤ m.toInt ∧ 0 ≤ k.toInt) → pm_W (g_P ys) 164 9 [.ref 0, .int m, .int k, .retAddr 0] [] (I, L, g_R s, 306) (0, 0) Q := by
    intro z
    refine ps_aload rfl rfl ?_
    refine pw_c rfl ?_
    refine pv_k rfl rfl rfl rfl rfl (by first | exact hS0 _ _ | exact hS1 _ _ | exact hS2 _ _ | exact hS3 _ _ | exact hS4 _ _ | exact hS5 _ _ | exact hS6 _ _ | exact hS7 _ _ | exact hS8 _ _ | exact hS9 _ _ | exact hS10 _ _ | exact hS11 _ _ | exact hS12 _ _ | exact hS13 _ _ | exact hS14 _ _ | exact hS15 _ _ | exact hS16 _ _ | exact hS17 _ _ | exact hS18 _ _ | exact hS19 _ _ | exact hS20 _ _ | exact hS21 _ _ | exact hS22 _ _ | exact hS23 _ _ | assumption | rfl) rfl ⟨Nat.zero_le _, Nat.zero_le _⟩ ?_
    refine B_refuse ?_
    refine ps_iret rfl rfl ?_
    exact kk _ _ s (by unfold qCoarse; rw [if_pos z]; rfl) qS_u lkS_r (cF_st hb hF ok)
  have go : (2 ≤ m.toInt ∧ 0 ≤ k.toInt) → pm_W (g_P ys) 164 15 [.ref 0, .int m, .int k, .retAddr 0] [] (I, L, g_R s, 306) (0, 0) Q := by
    intro hw
    refine ps_aload rfl rfl ?_
    refine pv_k rfl rfl rfl rfl rfl rfl rfl ⟨Nat.zero_le _, Nat.zero_le _⟩ ?_
    refine B_lookX hb h0 hF ok ku (fun z => ?_) (fun u I1 s1 hu eu q l k1 => ?_)
    · have ea : qCoarse B m k = .error 2 := by
        unfold qCoarse
        rw [if_neg (fun z => z hw), plU_n z]
      refine ps_istore rfl rfl ?_
      refine ps_iload rfl rfl ?_
      refine ps_iff rfl (by decide) ?_
      refine ps_aload rfl rfl ?_
      refine ps_iload rfl rfl ?_
      refine pv_k rfl rfl rfl rfl rfl (by first | exact hS0 _ _ | exact hS1 _ _ | exact hS2 _ _ | exact hS3 _ _ | exact hS4 _ _ | exact hS5 _ _ | exact hS6 _ _ | exact hS7 _ _ | exact hS8 _ _ | exact hS9 _ _ | exact hS10 _ _ | exact hS11 _ _ | exact hS12 _ _ | exact hS13 _ _ | exact hS14 _ _ | exact hS15 _ _ | exact hS16 _ _ | exact hS17 _ _ | exact hS18 _ _ | exact hS19 _ _ | exact hS20 _ _ | exact hS21 _ _ | exact hS22 _ _ | exact hS23 _ _ | assumption | rfl) rfl ⟨Nat.zero_le _, Nat.zero_le _⟩ ?_
      refine B_refuse ?_
      refine ps_iret rfl rfl ?_
      exact kk _ _ s (by rw [ea]; rfl) qS_u lkS_r (cF_st hb hF ok)
    · have V := cFk_V hb k1 ok hu
      have hp := V.2.1
      have h13 : g_R s1 255 13 = some (b + 17 + 4 * u) := k1.2.2.2.2.1
      obtain ⟨hS10, hS11, hS12, hS13, hR15, hR16, hR17⟩ := pl_F (ys := ys) (s := s1) hp
      have hP := cBq_p k1.1 hu
      have kn := k1.2.2.2.2.2.2
      obtain ⟨M, hM⟩ : ∃ M, M = m.toInt.toNat := ⟨_, rfl⟩
      obtain ⟨K, hK⟩ : ∃ K, K = k.toInt.toNat := ⟨_, rfl⟩
      have em := nI_oz hM (by omega)
      have ek := nI_oz hK (by omega)
      have M2 : 2 ≤ M ∧ M < 2147483648 := by
        have := Int32.toInt_lt m
        omega
      have K2 : K < 2147483648 := by
        have := Int32.toInt_lt k
        omega
      have ea : qCoarse B m k = if ¬ ((B.pl u).w % M = 0 ∧ K < (B.pl u).w * (B.pl u).v / M) then .error 5 else .ok (suI (fun i => shadF (B.pl u) B.S (K * M + i)) M) := by
        unfold qCoarse
        rw [if_neg (fun z => z hw), plU_s hu eu p6, hM, hK]
      have w0 := hP.1.2.2.2.1
      have v0 := hP.1.2.2.2.2.1
      have n9 := hP.1.2.2.2.2.2
      obtain ⟨wb, vb⟩ := cP_b hP.1
      have bad : ¬ ((B.pl u).w % M = 0 ∧ K < (B.pl u).w * (B.pl u).v / M) → pm_W (g_P ys) 164 61 [.ref 0, .int m, .int k, .int 0] [] (I1, L, g_R s1, 306) (0, 0) Q := by
        intro z
        rw [if_pos z] at ea
        refine ps_aload rfl rfl ?_
        refine pw_c rfl ?_
        refine pv_k rfl rfl rfl rfl rfl (by first | exact hS0 _ _ | exact hS1 _ _ | exact hS2 _ _ | exact hS3 _ _ | exact hS4 _ _ | exact hS5 _ _ | exact hS6 _ _ | exact hS7 _ _ | exact hS8 _ _ | exact hS9 _ _ | exact hS10 _ _ | exact hS11 _ _ | exact hS12 _ _ | exact hS13 _ _ | exact hS14 _ _ | exact hS15 _ _ | exact hS16 _ _ | exact hS17 _ _ | exact hS18 _ _ | exact hS19 _ _ | exact hS20 _ _ | exact hS21 _ _ | exact hS22 _ _ | exact hS23 _ _ | assumption | rfl) rfl ⟨Nat.zero_le _, Nat.zero_le _⟩ ?_
        refine B_refuse ?_
        refine ps_iret rfl rfl ?_
        exact kk _ _ s1 (by rw [ea]; rfl) (qS_t q qS_u) l (cF_st hb (cFk_m k1 hu eu) ok)
      refine ps_istore rfl rfl ?_
      refine ps_iload rfl rfl ?_
      refine ps_ift rfl (by decide) ?_
      refine ps_aload rfl rfl ?_
      refine ps_gfr 0 8 rfl rfl rfl (by first | exact hS0 _ _ | exact hS1 _ _ | exact hS2 _ _ | exact hS3 _ _ | exact hS4 _ _ | exact hS5 _ _ | exact hS6 _ _ | exact hS7 _ _ | exact hS8 _ _ | exact hS9 _ _ | exact hS10 _ _ | exact hS11 _ _ | exact hS12 _ _ | exact hS13 _ _ | exact hS14 _ _ | exact hS15 _ _ | exact hS16 _ _ | exact hS17 _ _ | exact hS18 _ _ | exact hS19 _ _ | exact hS20 _ _ | exact hS21 _ _ | exact hS22 _ _ | exact hS23 _ _ | assumption | rfl) rfl ( rfl) ?_
      refine ps_gfr 10 13 rfl rfl rfl (by first | exact hS0 _ _ | exact hS1 _ _ | exact hS2 _ _ | exact hS3 _ _ | exact hS4 _ _ | exact hS5 _ _ | exact hS6 _ _ | exact hS7 _ _ | exact hS8 _ _ | exact hS9 _ _ | exact hS10 _ _ | exact hS11 _ _ | exact hS12 _ _ | exact hS13 _ _ | exact hS14 _ _ | exact hS15 _ _ | exact hS16 _ _ | exact hS17 _ _ | exact hS18 _ _ | exact hS19 _ _ | exact hS20 _ _ | exact hS21 _ _ | exact hS22 _ _ | exact hS23 _ _ | assumption | rfl) rfl ( h13) ?_
      refine ps_gfi 9 4 rfl rfl rfl (by first | exact hS0 _ _ | exact hS1 _ _ | exact hS2 _ _ | exact hS3 _ _ | exact hS4 _ _ | exact hS5 _ _ | exact hS6 _ _ | exact hS7 _ _ | exact hS8 _ _ | exact hS9 _ _ | exact hS10 _ _ | exact hS11 _ _ | exact hS12 _ _ | exact hS13 _ _ | exact hS14 _ _ | exact hS15 _ _ | exact hS16 _ _ | exact hS17 _ _ | exact hS18 _ _ | exact hS19 _ _ | exact hS20 _ _ | exact hS21 _ _ | exact hS22 _ _ | exact hS23 _ _ | assumption | rfl) rfl ?_
      rw [show ((I1, L, g_R s1, 306) : pm_H).1 (b + 17 + 4 * u) 4 = nI (B.pl u).w from hP.1.1]
      rw [em, ek] at bad ⊢
      refine ps_iload rfl rfl ?_
      refine ps_rem rfl (nI_nz (by omega) (by omega)) ?_
      rw [nI_rem (by omega) (by omega) (by omega)]
      have ml := Nat.mod_lt (B.pl u).w (show 0 < M by omega)
      by_cases c1 : (B.pl u).w % M = 0
      · rw [c1]
        refine ps_iff rfl (by decide) ?_
        refine ps_iload rfl rfl ?_
        refine ps_aload rfl rfl ?_
        refine ps_gfr 0 8 rfl rfl rfl (by first | exact hS0 _ _ | exact hS1 _ _ | exact hS2 _ _ | exact hS3 _ _ | exact hS4 _ _ | exact hS5 _ _ | exact hS6 _ _ | exact hS7 _ _ | exact hS8 _ _ | exact hS9 _ _ | exact hS10 _ _ | exact hS11 _ _ | exact hS12 _ _ | exact hS13 _ _ | exact hS14 _ _ | exact hS15 _ _ | exact hS16 _ _ | exact hS17 _ _ | exact hS18 _ _ | exact hS19 _ _ | exact hS20 _ _ | exact hS21 _ _ | exact hS22 _ _ | exact hS23 _ _ | assumption | rfl) rfl ( rfl) ?_
        refine ps_gfr 10 13 rfl rfl rfl (by first | exact hS0 _ _ | exact hS1 _ _ | exact hS2 _ _ | exact hS3 _ _ | exact hS4 _ _ | exact hS5 _ _ | exact hS6 _ _ | exact hS7 _ _ | exact hS8 _ _ | exact hS9 _ _ | exact hS10 _ _ | exact hS11 _ _ | exact hS12 _ _ | exact hS13 _ _ | exact hS14 _ _ | exact hS15 _ _ | exact hS16 _ _ | exact hS17 _ _ | exact hS18 _ _ | exact hS19 _ _ | exact hS20 _ _ | exact hS21 _ _ | exact hS22 _ _ | exact hS23 _ _ | assumption | rfl) rfl ( h13) ?_
        refine ps_gfi 9 6 rfl rfl rfl (by first | exact hS0 _ _ | exact hS1 _ _ | exact hS2 _ _ | exact hS3 _ _ | exact hS4 _ _ | exact hS5 _ _ | exact hS6 _ _ | exact hS7 _ _ | exact hS8 _ _ | exact hS9 _ _ | exact hS10 _ _ | exact hS11 _ _ | exact hS12 _ _ | exact hS13 _ _ | exact hS14 _ _ | exact hS15 _ _ | exact hS16 _ _ | exact hS17 _ _ | exact hS18 _ _ | exact hS19 _ _ | exact hS20 _ _ | exact hS21 _ _ | exact hS22 _ _ | exact hS23 _ _ | assumption | rfl) rfl ?_
        rw [show ((I1, L, g_R s1, 306) : pm_H).1 (b + 17 + 4 * u) 6 = nI ((B.pl u).w * (B.pl u).v) from hP.1.2.2.1]
        refine ps_iload rfl rfl ?_
        refine ps_div rfl (nI_nz (by omega) (by omega)) ?_
        rw [nI_div (by omega) (by omega)]
        have dl : (B.pl u).w * (B.pl u).v / M ≤ (B.pl u).w * (B.pl u).v := Nat.div_le_self _ _
        by_cases c2 : K < (B.pl u).w * (B.pl u).v / M
        · rw [if_neg (fun z => z ⟨c1, c2⟩)] at ea
          have kb : K * M + M ≤ (B.pl u).w * (B.pl u).v := by
            have z1 : (K + 1) * M ≤ (B.pl u).w * (B.pl u).v / M * M := Nat.mul_le_mul_right M c2
            have z2 : (B.pl u).w * (B.pl u).v / M * M ≤ (B.pl u).w * (B.pl u).v := Nat.div_mul_le_self _ _
            rw [Nat.add_mul, Nat.one_mul] at z1
            omega
          have hS16 : ∀ I L, pm_sh (g_P ys) (I, L, g_R s1, 306) 258 = some (.inr (0, 289)) := fun _ _ => rfl
          have sv : suI (fun i => I1 258 (K * M + i)) M = suI (fun i => shadF (B.pl u) B.S (K * M + i)) M := suI_congr (fun i hi => (kn.1.1 _ (by omega)).2.2.1)
          refine ps_icmpt rfl (decide_eq_true ((nI_ltI (by omega) (by omega)).mpr (by omega))) ?_
          refine ps_aload rfl rfl ?_
          refine ps_aload rfl rfl ?_
          refine ps_gfr 0 8 rfl rfl rfl (by first | exact hS0 _ _ | exact hS1 _ _ | exact hS2 _ _ | exact hS3 _ _ | exact hS4 _ _ | exact hS5 _ _ | exact hS6 _ _ | exact hS7 _ _ | exact hS8 _ _ | exact hS9 _ _ | exact hS10 _ _ | exact hS11 _ _ | exact hS12 _ _ | exact hS13 _ _ | exact hS14 _ _ | exact hS15 _ _ | exact hS16 _ _ | exact hS17 _ _ | exact hS18 _ _ | exact hS19 _ _ | exact hS20 _ _ | exact hS21 _ _ | exact hS22 _ _ | exact hS23 _ _ | assumption | rfl) rfl ( rfl) ?_
          refine ps_gfr 10 2 rfl rfl rfl (by first | exact hS0 _ _ | exact hS1 _ _ | exact hS2 _ _ | exact hS3 _ _ | exact hS4 _ _ | exact hS5 _ _ | exact hS6 _ _ | exact hS7 _ _ | exact hS8 _ _ | exact hS9 _ _ | exact hS10 _ _ | exact hS11 _ _ | exact hS12 _ _ | exact hS13 _ _ | exact hS14 _ _ | exact hS15 _ _ | exact hS16 _ _ | exact hS17 _ _ | exact hS18 _ _ | exact hS19 _ _ | exact hS20 _ _ | exact hS21 _ _ | exact hS22 _ _ | exact hS23 _ _ | assumption | rfl) rfl ( rfl) ?_
          refine ps_iload rfl rfl ?_
          refine ps_iload rfl rfl ?_
          refine ps_ar rfl rfl rfl rfl rfl ?_
          rw [pk_mul]
          refine ps_iload rfl rfl ?_
          refine pw_k rfl rfl rfl rfl ⟨Nat.zero_le _, Nat.zero_le _⟩ ?_
          refine B_sumX (f := K * M) (n := M) (N := 289) hS16 (by omega) (by omega) ?_
          rw [sv]
          refine pv_k rfl rfl rfl rfl rfl (by first | exact hS0 _ _ | exact hS1 _ _ | exact hS2 _ _ | exact hS3 _ _ | exact hS4 _ _ | exact hS5 _ _ | exact hS6 _ _ | exact hS7 _ _ | exact hS8 _ _ | exact hS9 _ _ | exact hS10 _ _ | exact hS11 _ _ | exact hS12 _ _ | exact hS13 _ _ | exact hS14 _ _ | exact hS15 _ _ | exact hS16 _ _ | exact hS17 _ _ | exact hS18 _ _ | exact hS19 _ _ | exact hS20 _ _ | exact hS21 _ _ | exact hS22 _ _ | exact hS23 _ _ | assumption | rfl) rfl ⟨Nat.zero_le _, Nat.zero_le _⟩ ?_
          refine B_answer ?_
          refine ps_iret rfl rfl ?_
          exact kk _ _ s1 (by rw [ea]; rfl) (qS_t q qS_u) l (cF_st hb (cFk_m k1 hu eu) ok)
        · refine ps_icmpf rfl (decide_eq_false (fun z => c2 ((nI_ltI (by omega) (by omega)).mp z))) ?_
          exact bad (fun z => c2 z.2)
      · refine ps_ift rfl (decide_eq_true (nI_nz (by omega) (by omega))) ?_
        exact bad (fun z => c1 z.1)
  by_cases c1 : m.toInt < 2
  · refine ps_iload rfl rfl ?_
    refine pw_c rfl ?_
    refine ps_icmpt rfl (decide_eq_true ((i_lt _ _).mpr (by omega))) ?_
    exact no (by omega)
  · by_cases c2 : k.toInt < 0
    · refine ps_iload rfl rfl ?_
      refine pw_c rfl ?_
      refine ps_icmpf rfl (decide_eq_false (fun z => by have := (i_lt _ _).mp z; omega)) ?_
      refine ps_iload rfl rfl ?_
      refine ps_iff rfl (decide_eq_false (fun z => by have := (i_le _ _).mp z; omega)) ?_
      exact no (by omega)
    · refine ps_iload rfl rfl ?_
      refine pw_c rfl ?_
      refine ps_icmpf rfl (decide_eq_false (fun z => by have := (i_lt _ _).mp z; omega)) ?_
      refine ps_iload rfl rfl ?_
      refine ps_ift rfl (decide_eq_true ((i_le _ _).mpr (by omega))) ?_
      exact go (by omega)

theorem B_anti8 (hb : isB b) (h0 : s 0 = some b) (hF : cFF b B s I) (ok : B.ok) (ku : okU B.S B.ps) (x y : Int32) (kk : ∀ r I' s', r = exv (qAnti B x y) → qS b I I' → lkS s s' → cFF b B s' I' → Q [.int r] (I', L, g_R s', 306)) : pm_W (g_P ys) 165 0 [.ref 0, .int x, .int y, .retAddr 0] [] (I, L, g_R s, 306) (0, 0) Q := by
  have bb := isB_b hb
  have p6 := ok.1
  have e0 : (0 : Int32).toInt = 0 := rfl
  have ec1 : (1 : Int32).toInt = 1 := rfl
  have ec2 : (2 : Int32).toInt = 2 := rfl
  have ec3 : (3 : Int32).toInt = 3 := rfl
  have ec5 : (5 : Int32).toInt = 5 := rfl
  have ec7 : (7 : Int32).toInt = 7 := rfl
  have ec20 : (20 : Int32).toInt = 20 := rfl
  have ec99 : (99 : Int32).toInt = 99 := rfl
  have ec500 : (500 : Int32).toInt = 500 := rfl
  have ec65536 : (65536 : Int32).toInt = 65536 := rfl
  have ecm : (-1 : Int32).toInt = -1 := by decide
  have hS5 : ∀ s, ∀ I L, pm_sh (g_P ys) (I, L, g_R s, 306) 255 = some (.inl 10) := fun _ _ _ => rfl
  refine ps_aload rfl rfl ?_
  refine ps_iload rfl rfl ?_
  refine ps_iload rfl rfl ?_
  refine pv_k rfl rfl rfl rfl rfl rfl rfl ⟨Nat.zero_le _, Nat.zero_le _⟩ ?_
  refine B_lookAtX hb h0 hF ok ku x y (fun I1 s1 hn q l f => ?_) (fun u I1 s1 hu eu on q l k => ?_)
  · have ea : qAnti B x y = .error 2 := by
      unfold qAnti
      rcases us_no p6 ku hn with z | ⟨u, z, zn⟩
      · rw [z]
      · rw [z]
        exact if_pos zn
    refine ps_istore rfl rfl ?_
    refine ps_iload rfl rfl ?_
    refine ps_ift rfl (by decide) ?_
    refine ps_aload rfl rfl ?_
    refine ps_iload rfl rfl ?_
    refine pv_k rfl rfl rfl rfl rfl (by first | exact hS0 _ _ | exact hS1 _ _ | exact hS2 _ _ | exact hS3 _ _ | exact hS4 _ _ | exact hS5 _ _ | exact hS6 _ _ | exact hS7 _ _ | exact hS8 _ _ | exact hS9 _ _ | exact hS10 _ _ | exact hS11 _ _ | exact hS12 _ _ | exact hS13 _ _ | exact hS14 _ _ | exact hS15 _ _ | exact hS16 _ _ | exact hS17 _ _ | exact hS18 _ _ | exact hS19 _ _ | exact hS20 _ _ | exact hS21 _ _ | exact hS22 _ _ | exact hS23 _ _ | assumption | rfl) rfl ⟨Nat.zero_le _, Nat.zero_le _⟩ ?_
    refine B_refuse ?_
    refine ps_iret rfl rfl ?_
    exact kk _ _ s1 (by rw [ea]; rfl) (qS_t q qS_u) l (cF_st hb f ok)
  · have V := cFk_V hb k ok hu
    have hp := V.2.1
    have h13 : g_R s1 255 13 = some (b + 17 + 4 * u) := k.2.2.2.2.1
    obtain ⟨hS10, hS11, hS12, hS13, hR15, hR16, hR17⟩ := pl_F (ys := ys) (s := s1) hp
    have hP := cBq_p k.1 hu
    have kn := k.2.2.2.2.2.2
    have ea : qAnti B x y = .ok (wtF (B.pl u) (anF (B.pl u) B.S) x.toInt.toNat y.toInt.toNat) := by
      unfold qAnti
      rw [plU_s hu eu p6]
      exact if_neg (fun z => z on)
    obtain ⟨X, hX⟩ : ∃ X, X = x.toInt.toNat := ⟨_, rfl⟩
    obtain ⟨Y, hY⟩ : ∃ Y, Y = y.toInt.toNat := ⟨_, rfl⟩
    have ex := nI_oz hX (by omega)
    have ey := nI_oz hY (by omega)
    obtain ⟨wb, vb⟩ := cP_b hP.1
    rw [← hX, ← hY] at ea
    have xl : X < 10000 := by omega
    have yl : Y < 10000 := by omega
    clear hX hY on
    subst ex ey
    refine ps_istore rfl rfl ?_
    refine ps_iload rfl rfl ?_
    refine ps_iff rfl (by decide) ?_
    refine ps_aload rfl rfl ?_
    refine ps_aload rfl rfl ?_
    refine ps_gfr 0 8 rfl rfl rfl (by first | exact hS0 _ _ | exact hS1 _ _ | exact hS2 _ _ | exact hS3 _ _ | exact hS4 _ _ | exact hS5 _ _ | exact hS6 _ _ | exact hS7 _ _ | exact hS8 _ _ | exact hS9 _ _ | exact hS10 _ _ | exact hS11 _ _ | exact hS12 _ _ | exact hS13 _ _ | exact hS14 _ _ | exact hS15 _ _ | exact hS16 _ _ | exact hS17 _ _ | exact hS18 _ _ | exact hS19 _ _ | exact hS20 _ _ | exact hS21 _ _ | exact hS22 _ _ | exact hS23 _ _ | assumption | rfl) rfl ( rfl) ?_
    refine ps_iload rfl rfl ?_
    refine ps_iload rfl rfl ?_
    refine pv_k rfl rfl rfl rfl rfl (hS5 _ _ _) rfl ⟨Nat.zero_le _, Nat.zero_le _⟩ ?_
    refine B_antiAtX V (fun i hi => (kn.1.1 i hi).1) xl yl (fun I2 o2 => ?_)
    obtain ⟨f2, q2⟩ := cFk_o hb k ok (kn_o kn (fun a j z1 z2 => o2 a j z1))
    refine pv_k rfl rfl rfl rfl rfl (by first | exact hS0 _ _ | exact hS1 _ _ | exact hS2 _ _ | exact hS3 _ _ | exact hS4 _ _ | exact hS5 _ _ | exact hS6 _ _ | exact hS7 _ _ | exact hS8 _ _ | exact hS9 _ _ | exact hS10 _ _ | exact hS11 _ _ | exact hS12 _ _ | exact hS13 _ _ | exact hS14 _ _ | exact hS15 _ _ | exact hS16 _ _ | exact hS17 _ _ | exact hS18 _ _ | exact hS19 _ _ | exact hS20 _ _ | exact hS21 _ _ | exact hS22 _ _ | exact hS23 _ _ | assumption | rfl) rfl ⟨Nat.zero_le _, Nat.zero_le _⟩ ?_
    refine B_answer ?_
    refine ps_goto rfl ?_
    refine ps_iret rfl rfl ?_
    exact kk _ _ s1 (by rw [ea]; rfl) (qS_t (qS_t q q2) qS_u) l (cF_st hb (cFk_m f2 hu eu) ok)

theorem B_frames8 (hb : isB b) (h0 : s 0 = some b) (hF : cFF b B s I) (ok : B.ok) (ku : okU B.S B.ps) (n t x y : Int32) (kk : ∀ r I' s', r = exv (qFrames B n t x y) → qS b I I' → lkS s s' → cFF b B s' I' → Q [.int r] (I', L, g_R s', 306)) : pm_W (g_P ys) 155 0 [.ref 0, .int n, .int t, .int x, .int y, .retAddr 0, .retAddr 0, .retAddr 0] [] (I, L, g_R s, 306) (0, 0) Q := by
  have bb := isB_b hb
  have p6 := ok.1
  have e0 : (0 : Int32).toInt = 0 := rfl
  have ec1 : (1 : Int32).toInt = 1 := rfl
  have ec2 : (2 : Int32).toInt = 2 := rfl
  have ec3 : (3 : Int32).toInt = 3 := rfl
  have ec5 : (5 : Int32).toInt = 5 := rfl
  have ec7 : (7 : Int32).toInt = 7 := rfl
  have ec20 : (20 : Int32).toInt = 20 := rfl
  have ec99 : (99 : Int32).toInt = 99 := rfl
  have ec500 : (500 : Int32).toInt = 500 := rfl
  have ec65536 : (65536 : Int32).toInt = 65536 := rfl
  have ecm : (-1 : Int32).toInt = -1 := by decide
  have hS5 : ∀ s, ∀ I L, pm_sh (g_P ys) (I, L, g_R s, 306) 255 = some (.inl 10) := fun _ _ _ => rfl
  have e1 : (1 : Int32).toInt = 1 := rfl
  have e20 : (20 : Int32).toInt = 20 := rfl
  have e99 : (99 : Int32).toInt = 99 := rfl
  have no : ¬ (gdR n t) → pm_W (g_P ys) 155 22 [.ref 0, .int n, .int t, .int x, .int y, .retAddr 0, .retAddr 0, .retAddr 0] [] (I, L, g_R s, 306) (0, 0) Q := by
    intro z
    refine ps_aload rfl rfl ?_
    refine pw_c rfl ?_
    refine pv_k rfl rfl rfl rfl rfl (by first | exact hS0 _ _ | exact hS1 _ _ | exact hS2 _ _ | exact hS3 _ _ | exact hS4 _ _ | exact hS5 _ _ | exact hS6 _ _ | exact hS7 _ _ | exact hS8 _ _ | exact hS9 _ _ | exact hS10 _ _ | exact hS11 _ _ | exact hS12 _ _ | exact hS13 _ _ | exact hS14 _ _ | exact hS15 _ _ | exact hS16 _ _ | exact hS17 _ _ | exact hS18 _ _ | exact hS19 _ _ | exact hS20 _ _ | exact hS21 _ _ | exact hS22 _ _ | exact hS23 _ _ | assumption | rfl) rfl ⟨Nat.zero_le _, Nat.zero_le _⟩ ?_
    refine B_refuse ?_
    refine ps_iret rfl rfl ?_
    exact kk _ _ s (by unfold qFrames; rw [if_pos z]; rfl) qS_u lkS_r (cF_st hb hF ok)
  have go : gdR n t → pm_W (g_P ys) 155 28 [.ref 0, .int n, .int t, .int x, .int y, .retAddr 0, .retAddr 0, .retAddr 0] [] (I, L, g_R s, 306) (0, 0) Q := by
    intro hw
    refine ps_aload rfl rfl ?_
    refine ps_iload rfl rfl ?_
    refine ps_iload rfl rfl ?_
    refine pv_k rfl rfl rfl rfl rfl rfl rfl ⟨Nat.zero_le _, Nat.zero_le _⟩ ?_
    refine B_lookAtX hb h0 hF ok ku x y (fun I1 s1 hn q l f => ?_) (fun u I1 s1 hu eu on q l k => ?_)
    · have ea : qFrames B n t x y = .error 2 := by
        unfold qFrames
        rw [if_neg (fun z => z hw)]
        rcases us_no p6 ku hn with z | ⟨u, z, zn⟩
        · rw [z]
        · rw [z]
          exact if_pos zn
      refine ps_istore rfl rfl ?_
      refine ps_iload rfl rfl ?_
      refine ps_iff rfl (by decide) ?_
      refine ps_aload rfl rfl ?_
      refine ps_iload rfl rfl ?_
      refine pv_k rfl rfl rfl rfl rfl (by first | exact hS0 _ _ | exact hS1 _ _ | exact hS2 _ _ | exact hS3 _ _ | exact hS4 _ _ | exact hS5 _ _ | exact hS6 _ _ | exact hS7 _ _ | exact hS8 _ _ | exact hS9 _ _ | exact hS10 _ _ | exact hS11 _ _ | exact hS12 _ _ | exact hS13 _ _ | exact hS14 _ _ | exact hS15 _ _ | exact hS16 _ _ | exact hS17 _ _ | exact hS18 _ _ | exact hS19 _ _ | exact hS20 _ _ | exact hS21 _ _ | exact hS22 _ _ | exact hS23 _ _ | assumption | rfl) rfl ⟨Nat.zero_le _, Nat.zero_le _⟩ ?_
      refine B_refuse ?_
      refine ps_iret rfl rfl ?_
      exact kk _ _ s1 (by rw [ea]; rfl) (qS_t q qS_u) l (cF_st hb f ok)
    · have V := cFk_V hb k ok hu
      have hp := V.2.1
      have h13 : g_R s1 255 13 = some (b + 17 + 4 * u) := k.2.2.2.2.1
      obtain ⟨hS10, hS11, hS12, hS13, hR15, hR16, hR17⟩ := pl_F (ys := ys) (s := s1) hp
      have hP := cBq_p k.1 hu
      have kn := k.2.2.2.2.2.2
      obtain ⟨X, hX⟩ : ∃ X, X = x.toInt.toNat := ⟨_, rfl⟩
      obtain ⟨Y, hY⟩ : ∃ Y, Y = y.toInt.toNat := ⟨_, rfl⟩
      obtain ⟨N, hN⟩ : ∃ N, N = n.toInt.toNat := ⟨_, rfl⟩
      obtain ⟨T, hT⟩ : ∃ T, T = t.toInt.toNat := ⟨_, rfl⟩
      have ex := nI_oz hX (by omega)
      have ey := nI_oz hY (by omega)
      have en := nI_oz hN (by omega)
      have et := nI_oz hT (by omega)
      obtain ⟨F, hFF⟩ : ∃ F : Nat → Int32, F = fun f => wtF (B.pl u) (frR (B.pl u) B.S (nI (f * T))) (X + f * T) Y := ⟨_, rfl⟩
      have ea : qFrames B n t x y = .ok (suI F N) := by
        unfold qFrames
        rw [if_neg (fun z => z hw), plU_s hu eu p6, hFF, hX, hY, hN, hT]
        exact if_neg (fun z => z on)
      obtain ⟨wb, vb⟩ := cP_b hP.1
      have xl : X < 300 := by omega
      have yl : Y < 300 := by omega
      have nl : N ≤ 20 := by omega
      have tl : T ≤ 99 := by omega
      rw [ea] at kk
      clear hX hY hN hT on hw ea no
      subst ex ey en et
      have loop : ∀ d f, f + d = N → ∀ I2, cFk b B u s1 I2 → qS b I I2 → pm_W (g_P ys) 155 55 [.ref 0, .int (nI N), .int (nI T), .int (nI X), .int (nI Y), .int 0, .int (suI F f), .int (nI f)] [] (I2, L, g_R s1, 306) (0, 0) Q := by
        intro d
        induction d with
        | zero =>
          intro f hf I2 k2 q2
          have ef : f = N := by omega
          subst ef
          refine ps_iload rfl rfl ?_
          refine ps_iload rfl rfl ?_
          refine ps_icmpt rfl (decide_eq_true (nI_le (by omega) (by omega))) ?_
          refine ps_aload rfl rfl ?_
          refine ps_iload rfl rfl ?_
          refine pv_k rfl rfl rfl rfl rfl (by first | exact hS0 _ _ | exact hS1 _ _ | exact hS2 _ _ | exact hS3 _ _ | exact hS4 _ _ | exact hS5 _ _ | exact hS6 _ _ | exact hS7 _ _ | exact hS8 _ _ | exact hS9 _ _ | exact hS10 _ _ | exact hS11 _ _ | exact hS12 _ _ | exact hS13 _ _ | exact hS14 _ _ | exact hS15 _ _ | exact hS16 _ _ | exact hS17 _ _ | exact hS18 _ _ | exact hS19 _ _ | exact hS20 _ _ | exact hS21 _ _ | exact hS22 _ _ | exact hS23 _ _ | assumption | rfl) rfl ⟨Nat.zero_le _, Nat.zero_le _⟩ ?_
          refine B_answer ?_
          refine ps_iret rfl rfl ?_
          exact kk _ _ s1 rfl (qS_t q2 qS_u) l (cF_st hb (cFk_m k2 hu eu) ok)
        | succ d ih =>
          intro f hf I2 k2 q2
          have V2 := cFk_V hb k2 ok hu
          have kn2 := k2.2.2.2.2.2.2
          have fT : f * T ≤ 20 * 99 := Nat.mul_le_mul (by omega) tl
          refine ps_iload rfl rfl ?_
          refine ps_iload rfl rfl ?_
          refine ps_icmpf rfl (decide_eq_false (nI_ge (by omega) (by omega))) ?_
          refine ps_iload rfl rfl ?_
          refine ps_aload rfl rfl ?_
          refine ps_gfr 0 8 rfl rfl rfl (by first | exact hS0 _ _ | exact hS1 _ _ | exact hS2 _ _ | exact hS3 _ _ | exact hS4 _ _ | exact hS5 _ _ | exact hS6 _ _ | exact hS7 _ _ | exact hS8 _ _ | exact hS9 _ _ | exact hS10 _ _ | exact hS11 _ _ | exact hS12 _ _ | exact hS13 _ _ | exact hS14 _ _ | exact hS15 _ _ | exact hS16 _ _ | exact hS17 _ _ | exact hS18 _ _ | exact hS19 _ _ | exact hS20 _ _ | exact hS21 _ _ | exact hS22 _ _ | exact hS23 _ _ | assumption | rfl) rfl ( rfl) ?_
          refine ps_iload rfl rfl ?_
          refine ps_iload rfl rfl ?_
          refine ps_ar rfl rfl rfl rfl rfl ?_
          rw [pk_mul]
          refine ps_iload rfl rfl ?_
          refine ps_iload rfl rfl ?_
          refine pv_k rfl rfl rfl rfl rfl (hS5 _ _ _) rfl ⟨Nat.zero_le _, Nat.zero_le _⟩ ?_
          refine B_frameAtX V2 (fun i hi => (kn2.1.1 i hi).1) (by omega) (by omega) (by omega) (fun I3 o3 => ?_)
          obtain ⟨f3, q3⟩ := cFk_o hb k2 ok (kn_o kn2 (fun a j z1 z2 => o3 a j z1))
          refine ps_ar rfl rfl rfl rfl rfl ?_
          refine ps_istore rfl rfl ?_
          refine ps_iinc rfl rfl ?_
          refine ps_goto rfl ?_
          rw [show nI f + Int32.ofInt 1 = nI (f + 1) from nI_1 f]
          have z := ih (f + 1) (by omega) I3 f3 (qS_t q2 q3)
          rw [suI_s, hFF] at z
          rw [hFF]
          exact z
      refine ps_istore rfl rfl ?_
      refine ps_iload rfl rfl ?_
      refine ps_ift rfl (by decide) ?_
      refine pw_c rfl ?_
      refine ps_istore rfl rfl ?_
      refine pw_c rfl ?_
      refine ps_istore rfl rfl ?_
      exact loop N 0 (by omega) I1 k q
  by_cases c1 : n.toInt < 1
  · refine ps_iload rfl rfl ?_
    refine pw_c rfl ?_
    refine ps_icmpt rfl (decide_eq_true ((i_lt _ _).mpr (by omega))) ?_
    exact no (fun z => by have := z.1; omega)
  · by_cases c2 : 20 < n.toInt
    · refine ps_iload rfl rfl ?_
      refine pw_c rfl ?_
      refine ps_icmpf rfl (decide_eq_false (fun z => by have := (i_lt _ _).mp z; omega)) ?_
      refine ps_iload rfl rfl ?_
      refine pw_c rfl ?_
      refine ps_icmpt rfl (decide_eq_true ((i_lt _ _).mpr (by omega))) ?_
      exact no (fun z => by have := z.1; omega)
    · by_cases c3 : t.toInt < 1
      · refine ps_iload rfl rfl ?_
        refine pw_c rfl ?_
        refine ps_icmpf rfl (decide_eq_false (fun z => by have := (i_lt _ _).mp z; omega)) ?_
        refine ps_iload rfl rfl ?_
        refine pw_c rfl ?_
        refine ps_icmpf rfl (decide_eq_false (fun z => by have := (i_lt _ _).mp z; omega)) ?_
        refine ps_iload rfl rfl ?_
        refine pw_c rfl ?_
        refine ps_icmpt rfl (decide_eq_true ((i_lt _ _).mpr (by omega))) ?_
        exact no (fun z => by have := z.2; omega)
      · by_cases c4 : 99 < t.toInt
        · refine ps_iload rfl rfl ?_
          refine pw_c rfl ?_
          refine ps_icmpf rfl (decide_eq_false (fun z => by have := (i_lt _ _).mp z; omega)) ?_
          refine ps_iload rfl rfl ?_
          refine pw_c rfl ?_
          refine ps_icmpf rfl (decide_eq_false (fun z => by have := (i_lt _ _).mp z; omega)) ?_
          refine ps_iload rfl rfl ?_
          refine pw_c rfl ?_
          refine ps_icmpf rfl (decide_eq_false (fun z => by have := (i_lt _ _).mp z; omega)) ?_
          refine ps_iload rfl rfl ?_
          refine pw_c rfl ?_
          refine ps_icmpf rfl (decide_eq_false (fun z => by have := (i_le _ _).mp z; omega)) ?_
          exact no (fun z => by have := z.2; omega)
        · refine ps_iload rfl rfl ?_
          refine pw_c rfl ?_
          refine ps_icmpf rfl (decide_eq_false (fun z => by have := (i_lt _ _).mp z; omega)) ?_
          refine ps_iload rfl rfl ?_
          refine pw_c rfl ?_
          refine ps_icmpf rfl (decide_eq_false (fun z => by have := (i_lt _ _).mp z; omega)) ?_
          refine ps_iload rfl rfl ?_
          refine pw_c rfl ?_
          refine ps_icmpf rfl (decide_eq_false (fun z => by have := (i_lt _ _).mp z; omega)) ?_
          refine ps_iload rfl rfl ?_
          refine pw_c rfl ?_
          refine ps_icmpt rfl (decide_eq_true ((i_le _ _).mpr (by omega))) ?_
          exact go ⟨by omega, by omega⟩

theorem qS_pic (h : qS b I I') (hc : cPc pc I) (hb : isB b) : cPc pc I' := by
  have bb := isB_b hb
  have k : ∀ a j, (a = 170 ∨ a = 171) → I' a j = I a j := fun a j z => h a j (by omega) (by omega) (fun k _ => by omega)
  exact ⟨(k _ _ (Or.inl rfl)).trans hc.1, (k _ _ (Or.inl rfl)).trans hc.2.1, hc.2.2.1, fun i hi => (k _ _ (Or.inr rfl)).trans (hc.2.2.2 i hi)⟩
/-- where keep and match write -/
def qP (b : Nat) (I I' : Nat → Nat → Int32) : Prop := ∀ a j : Nat, ¬ (a = 0 ∧ j = 10) → ¬ (255 ≤ a ∧ a ≤ 274) → ¬ (a = 170 ∨ a = 171) → (∀ k, k < 6 → ¬ a = b + 17 + 4 * k + 3 ∧ ¬ (a = b + 17 + 4 * k ∧ 9 ≤ j ∧ j ≤ 11)) → I' a j = I a j
theorem qP_q (h : qS b I I') : qP b I I' := fun a j z1 z2 _ z3 => h a j z1 z2 z3
theorem qP_o (hb : isB b) (h : qP b I I') : (∀ a j, 12 ≤ a → a ≤ 169 → I' a j = I a j) ∧ ∀ a j, 275 ≤ a → I' a j = I a j := by
  have bb := isB_b hb
  exact ⟨fun a j z1 z2 => h a j (by omega) (by omega) (by omega) (fun k _ => by omega), fun a j z1 => h a j (by omega) (by omega) (by omega) (fun k hk => by omega)⟩
theorem cF_pic (hb : isB b) (h : cFk b B u s I) (ok : B.ok) (k : ∀ a j, ¬ (a = 170 ∨ a = 171) → I' a j = I a j) : cFk b B u s I' := by
  have bb := isB_b hb
  exact ⟨cBq_a h.1 (fun a j z1 z2 => k a j (by omega)) ok, cSc_t h.2.1 (fun a j z1 z2 => k a j (by omega)), cSds_c hb h.2.2.1 ok (fun a j z1 z2 => k a j (by omega)), cCk_c h.2.2.2 (fun a j z1 z2 => k a j (by omega))⟩
theorem B_keep8 (hb : isB b) (h0 : s 0 = some b) (hF : cFF b B s I) (hc : cPc pc I) (ok : B.ok) (ku : okU B.S B.ps) (kk : ∀ r I' s', r = exv (qKeep B) → lkS s s' → cFF b B s' I' → cPc (kpc B pc) I' → qP b I I' → Q [.int r] (I', L, g_R s', 306)) : pm_W (g_P ys) 167 0 [.ref 0, .retAddr 0] [] (I, L, g_R s, 306) (0, 0) Q := by
  have bb := isB_b hb
  have p6 := ok.1
  refine ps_aload rfl rfl ?_
  refine pv_k rfl rfl rfl rfl rfl rfl rfl ⟨Nat.zero_le _, Nat.zero_le _⟩ ?_
  refine B_lookX hb h0 hF ok ku (fun z => ?_) (fun u I1 s1 hu eu q l k => ?_)
  · have ea : qKeep B = .error 2 := by
      unfold qKeep
      rw [plU_n z]
    have ec : kpc B pc = pc := by
      unfold kpc
      rw [plU_n z]
    refine ps_istore rfl rfl ?_
    refine ps_iload rfl rfl ?_
    refine ps_iff rfl (by decide) ?_
    refine ps_aload rfl rfl ?_
    refine ps_iload rfl rfl ?_
    refine pv_k rfl rfl rfl rfl rfl (by first | exact hS0 _ _ | exact hS1 _ _ | exact hS2 _ _ | exact hS3 _ _ | exact hS4 _ _ | exact hS5 _ _ | exact hS6 _ _ | exact hS7 _ _ | exact hS8 _ _ | exact hS9 _ _ | exact hS10 _ _ | exact hS11 _ _ | exact hS12 _ _ | exact hS13 _ _ | exact hS14 _ _ | exact hS15 _ _ | exact hS16 _ _ | exact hS17 _ _ | exact hS18 _ _ | exact hS19 _ _ | exact hS20 _ _ | exact hS21 _ _ | exact hS22 _ _ | exact hS23 _ _ | assumption | rfl) rfl ⟨Nat.zero_le _, Nat.zero_le _⟩ ?_
    refine B_refuse ?_
    refine ps_iret rfl rfl ?_
    exact kk _ _ s (by rw [ea]; rfl) lkS_r (cF_st hb hF ok) (by rw [ec]; exact qS_pic qS_u hc hb) (qP_q qS_u)
  · have V := cFk_V hb k ok hu
    have hp := V.2.1
    have h13 : g_R s1 255 13 = some (b + 17 + 4 * u) := k.2.2.2.2.1
    obtain ⟨hS10, hS11, hS12, hS13, hR15, hR16, hR17⟩ := pl_F (ys := ys) (s := s1) hp
    have hP := cBq_p k.1 hu
    have kn := k.2.2.2.2.2.2
    have ea : qKeep B = .ok (nI ((B.pl u).w * (B.pl u).v)) := by
      unfold qKeep
      rw [plU_s hu eu p6]
    have ec : kpc B pc = ((B.pl u).w, (B.pl u).v, shadF (B.pl u) B.S) := by
      unfold kpc
      rw [plU_s hu eu p6]
    have hS15 : ∀ I L, pm_sh (g_P ys) (I, L, g_R s1, 306) 170 = some (.inl 7) := fun _ _ => rfl
    refine ps_istore rfl rfl ?_
    refine ps_iload rfl rfl ?_
    refine ps_ift rfl (by decide) ?_
    refine ps_aload rfl rfl ?_
    refine ps_gfr 0 4 rfl rfl rfl (by first | exact hS0 _ _ | exact hS1 _ _ | exact hS2 _ _ | exact hS3 _ _ | exact hS4 _ _ | exact hS5 _ _ | exact hS6 _ _ | exact hS7 _ _ | exact hS8 _ _ | exact hS9 _ _ | exact hS10 _ _ | exact hS11 _ _ | exact hS12 _ _ | exact hS13 _ _ | exact hS14 _ _ | exact hS15 _ _ | exact hS16 _ _ | exact hS17 _ _ | exact hS18 _ _ | exact hS19 _ _ | exact hS20 _ _ | exact hS21 _ _ | exact hS22 _ _ | exact hS23 _ _ | assumption | rfl) rfl ( rfl) ?_
    refine ps_aload rfl rfl ?_
    refine ps_gfr 0 8 rfl rfl rfl (by first | exact hS0 _ _ | exact hS1 _ _ | exact hS2 _ _ | exact hS3 _ _ | exact hS4 _ _ | exact hS5 _ _ | exact hS6 _ _ | exact hS7 _ _ | exact hS8 _ _ | exact hS9 _ _ | exact hS10 _ _ | exact hS11 _ _ | exact hS12 _ _ | exact hS13 _ _ | exact hS14 _ _ | exact hS15 _ _ | exact hS16 _ _ | exact hS17 _ _ | exact hS18 _ _ | exact hS19 _ _ | exact hS20 _ _ | exact hS21 _ _ | exact hS22 _ _ | exact hS23 _ _ | assumption | rfl) rfl ( rfl) ?_
    refine pv_k rfl rfl rfl rfl rfl (hS15 _ _) rfl ⟨Nat.zero_le _, Nat.zero_le _⟩ ?_
    refine B_takePX V (fun i hi => (kn.1.1 i hi).2.2.1) (fun I2 o2 c2 => ?_)
    have f2 := cF_pic hb k ok o2
    refine ps_aload rfl rfl ?_
    refine ps_aload rfl rfl ?_
    refine ps_gfr 0 8 rfl rfl rfl (by first | exact hS0 _ _ | exact hS1 _ _ | exact hS2 _ _ | exact hS3 _ _ | exact hS4 _ _ | exact hS5 _ _ | exact hS6 _ _ | exact hS7 _ _ | exact hS8 _ _ | exact hS9 _ _ | exact hS10 _ _ | exact hS11 _ _ | exact hS12 _ _ | exact hS13 _ _ | exact hS14 _ _ | exact hS15 _ _ | exact hS16 _ _ | exact hS17 _ _ | exact hS18 _ _ | exact hS19 _ _ | exact hS20 _ _ | exact hS21 _ _ | exact hS22 _ _ | exact hS23 _ _ | assumption | rfl) rfl ( rfl) ?_
    refine ps_gfr 10 13 rfl rfl rfl (by first | exact hS0 _ _ | exact hS1 _ _ | exact hS2 _ _ | exact hS3 _ _ | exact hS4 _ _ | exact hS5 _ _ | exact hS6 _ _ | exact hS7 _ _ | exact hS8 _ _ | exact hS9 _ _ | exact hS10 _ _ | exact hS11 _ _ | exact hS12 _ _ | exact hS13 _ _ | exact hS14 _ _ | exact hS15 _ _ | exact hS16 _ _ | exact hS17 _ _ | exact hS18 _ _ | exact hS19 _ _ | exact hS20 _ _ | exact hS21 _ _ | exact hS22 _ _ | exact hS23 _ _ | assumption | rfl) rfl ( h13) ?_
    refine ps_gfi 9 6 rfl rfl rfl (by first | exact hS0 _ _ | exact hS1 _ _ | exact hS2 _ _ | exact hS3 _ _ | exact hS4 _ _ | exact hS5 _ _ | exact hS6 _ _ | exact hS7 _ _ | exact hS8 _ _ | exact hS9 _ _ | exact hS10 _ _ | exact hS11 _ _ | exact hS12 _ _ | exact hS13 _ _ | exact hS14 _ _ | exact hS15 _ _ | exact hS16 _ _ | exact hS17 _ _ | exact hS18 _ _ | exact hS19 _ _ | exact hS20 _ _ | exact hS21 _ _ | exact hS22 _ _ | exact hS23 _ _ | assumption | rfl) rfl ?_
    rw [show ((I2, L, g_R s1, 306) : pm_H).1 (b + 17 + 4 * u) 6 = nI ((B.pl u).w * (B.pl u).v) from (cBq_p f2.1 hu).1.2.2.1]
    refine pv_k rfl rfl rfl rfl rfl (by first | exact hS0 _ _ | exact hS1 _ _ | exact hS2 _ _ | exact hS3 _ _ | exact hS4 _ _ | exact hS5 _ _ | exact hS6 _ _ | exact hS7 _ _ | exact hS8 _ _ | exact hS9 _ _ | exact hS10 _ _ | exact hS11 _ _ | exact hS12 _ _ | exact hS13 _ _ | exact hS14 _ _ | exact hS15 _ _ | exact hS16 _ _ | exact hS17 _ _ | exact hS18 _ _ | exact hS19 _ _ | exact hS20 _ _ | exact hS21 _ _ | exact hS22 _ _ | exact hS23 _ _ | assumption | rfl) rfl ⟨Nat.zero_le _, Nat.zero_le _⟩ ?_
    refine B_answer ?_
    refine ps_iret rfl rfl ?_
    exact kk _ _ s1 (by rw [ea]; rfl) l (cF_st hb (cFk_m f2 hu eu) ok) (by rw [ec]; exact qS_pic qS_u c2 hb) (fun a j z1 z2 z3 z4 => (pu_x z1).trans ((o2 a j z3).trans (q a j z1 z2 z4)))
theorem B_match8 (hb : isB b) (h0 : s 0 = some b) (hF : cFF b B s I) (hc : cPc pc I) (ok : B.ok) (ku : okU B.S B.ps) (w : Int32) (kk : ∀ r I' L' s', r = exl (qMatch B pc w) → (∀ a j, a ≠ 170 → L' a j = L a j) → lkS s s' → cFF b B s' I' → cPc pc I' → qP b I I' → Q [.long r] (I', L', g_R s', 306)) : pm_W (g_P ys) 169 0 [.ref 0, .int w, .retAddr 0] [] (I, L, g_R s, 306) (0, 0) Q := by
  have bb := isB_b hb
  have p6 := ok.1
  have e0 : (0 : Int32).toInt = 0 := rfl
  have ec1 : (1 : Int32).toInt = 1 := rfl
  have ec2 : (2 : Int32).toInt = 2 := rfl
  have ec3 : (3 : Int32).toInt = 3 := rfl
  have ec5 : (5 : Int32).toInt = 5 := rfl
  have ec7 : (7 : Int32).toInt = 7 := rfl
  have ec20 : (20 : Int32).toInt = 20 := rfl
  have ec99 : (99 : Int32).toInt = 99 := rfl
  have ec500 : (500 : Int32).toInt = 500 := rfl
  have ec65536 : (65536 : Int32).toInt = 65536 := rfl
  have ecm : (-1 : Int32).toInt = -1 := by decide
  have m1 : (-1 : Int32).toInt64 = -1 := by decide
  have no : ¬ (0 ≤ w.toInt ∧ w.toInt ≤ 2) → pm_W (g_P ys) 169 9 [.ref 0, .int w, .retAddr 0] [] (I, L, g_R s, 306) (0, 0) Q := by
    intro z
    refine ps_aload rfl rfl ?_
    refine pw_c rfl ?_
    refine pv_k rfl rfl rfl rfl rfl (by first | exact hS0 _ _ | exact hS1 _ _ | exact hS2 _ _ | exact hS3 _ _ | exact hS4 _ _ | exact hS5 _ _ | exact hS6 _ _ | exact hS7 _ _ | exact hS8 _ _ | exact hS9 _ _ | exact hS10 _ _ | exact hS11 _ _ | exact hS12 _ _ | exact hS13 _ _ | exact hS14 _ _ | exact hS15 _ _ | exact hS16 _ _ | exact hS17 _ _ | exact hS18 _ _ | exact hS19 _ _ | exact hS20 _ _ | exact hS21 _ _ | exact hS22 _ _ | exact hS23 _ _ | assumption | rfl) rfl ⟨Nat.zero_le _, Nat.zero_le _⟩ ?_
    refine B_refuse ?_
    refine ps_ar rfl rfl rfl rfl rfl ?_
    refine ps_lret rfl rfl ?_
    exact kk _ _ L s (by unfold qMatch; rw [if_pos z]; exact m1) (fun _ _ _ => rfl) lkS_r (cF_st hb hF ok) (qS_pic qS_u hc hb) (qP_q qS_u)
  have go : (0 ≤ w.toInt ∧ w.toInt ≤ 2) → pm_W (g_P ys) 169 16 [.ref 0, .int w, .retAddr 0] [] (I, L, g_R s, 306) (0, 0) Q := by
    intro hw
    refine ps_aload rfl rfl ?_
    refine pv_k rfl rfl rfl rfl rfl rfl rfl ⟨Nat.zero_le _, Nat.zero_le _⟩ ?_
    refine B_lookX hb h0 hF ok ku (fun z => ?_) (fun u I1 s1 hu eu q l k => ?_)
    · have ea : qMatch B pc w = .error 2 := by
        unfold qMatch
        rw [if_neg (fun z => z hw), plU_n z]
      refine ps_istore rfl rfl ?_
      refine ps_iload rfl rfl ?_
      refine ps_iff rfl (by decide) ?_
      refine ps_aload rfl rfl ?_
      refine ps_iload rfl rfl ?_
      refine pv_k rfl rfl rfl rfl rfl (by first | exact hS0 _ _ | exact hS1 _ _ | exact hS2 _ _ | exact hS3 _ _ | exact hS4 _ _ | exact hS5 _ _ | exact hS6 _ _ | exact hS7 _ _ | exact hS8 _ _ | exact hS9 _ _ | exact hS10 _ _ | exact hS11 _ _ | exact hS12 _ _ | exact hS13 _ _ | exact hS14 _ _ | exact hS15 _ _ | exact hS16 _ _ | exact hS17 _ _ | exact hS18 _ _ | exact hS19 _ _ | exact hS20 _ _ | exact hS21 _ _ | exact hS22 _ _ | exact hS23 _ _ | assumption | rfl) rfl ⟨Nat.zero_le _, Nat.zero_le _⟩ ?_
      refine B_refuse ?_
      refine ps_ar rfl rfl rfl rfl rfl ?_
      refine ps_lret rfl rfl ?_
      exact kk _ _ L s (by rw [ea]; exact m1) (fun _ _ _ => rfl) lkS_r (cF_st hb hF ok) (qS_pic qS_u hc hb) (qP_q qS_u)
    · have V := cFk_V hb k ok hu
      have hp := V.2.1
      have h13 : g_R s1 255 13 = some (b + 17 + 4 * u) := k.2.2.2.2.1
      obtain ⟨hS10, hS11, hS12, hS13, hR15, hR16, hR17⟩ := pl_F (ys := ys) (s := s1) hp
      have hP := cBq_p k.1 hu
      have kn := k.2.2.2.2.2.2
      have c1 := qS_pic q hc hb
      have hS15 : ∀ I L, pm_sh (g_P ys) (I, L, g_R s1, 306) 170 = some (.inl 7) := fun _ _ => rfl
      refine ps_istore rfl rfl ?_
      refine ps_iload rfl rfl ?_
      refine ps_ift rfl (by decide) ?_
      refine ps_aload rfl rfl ?_
      refine ps_gfr 0 4 rfl rfl rfl (by first | exact hS0 _ _ | exact hS1 _ _ | exact hS2 _ _ | exact hS3 _ _ | exact hS4 _ _ | exact hS5 _ _ | exact hS6 _ _ | exact hS7 _ _ | exact hS8 _ _ | exact hS9 _ _ | exact hS10 _ _ | exact hS11 _ _ | exact hS12 _ _ | exact hS13 _ _ | exact hS14 _ _ | exact hS15 _ _ | exact hS16 _ _ | exact hS17 _ _ | exact hS18 _ _ | exact hS19 _ _ | exact hS20 _ _ | exact hS21 _ _ | exact hS22 _ _ | exact hS23 _ _ | assumption | rfl) rfl ( rfl) ?_
      refine ps_aload rfl rfl ?_
      refine ps_gfr 0 8 rfl rfl rfl (by first | exact hS0 _ _ | exact hS1 _ _ | exact hS2 _ _ | exact hS3 _ _ | exact hS4 _ _ | exact hS5 _ _ | exact hS6 _ _ | exact hS7 _ _ | exact hS8 _ _ | exact hS9 _ _ | exact hS10 _ _ | exact hS11 _ _ | exact hS12 _ _ | exact hS13 _ _ | exact hS14 _ _ | exact hS15 _ _ | exact hS16 _ _ | exact hS17 _ _ | exact hS18 _ _ | exact hS19 _ _ | exact hS20 _ _ | exact hS21 _ _ | exact hS22 _ _ | exact hS23 _ _ | assumption | rfl) rfl ( rfl) ?_
      refine ps_gfr 10 13 rfl rfl rfl (by first | exact hS0 _ _ | exact hS1 _ _ | exact hS2 _ _ | exact hS3 _ _ | exact hS4 _ _ | exact hS5 _ _ | exact hS6 _ _ | exact hS7 _ _ | exact hS8 _ _ | exact hS9 _ _ | exact hS10 _ _ | exact hS11 _ _ | exact hS12 _ _ | exact hS13 _ _ | exact hS14 _ _ | exact hS15 _ _ | exact hS16 _ _ | exact hS17 _ _ | exact hS18 _ _ | exact hS19 _ _ | exact hS20 _ _ | exact hS21 _ _ | exact hS22 _ _ | exact hS23 _ _ | assumption | rfl) rfl ( h13) ?_
      refine pv_k rfl rfl rfl rfl rfl (hS15 _ _) rfl ⟨Nat.zero_le _, Nat.zero_le _⟩ ?_
      refine B_fitsX hp hP.1 c1 ?_
      by_cases ft : ftP (B.pl u) pc
      · rw [decide_eq_true ft]
        have ea : qMatch B pc w = .ok (if w = 2 then mtV (B.pl u) B.S pc.2.2 (pgL (mtV (B.pl u) B.S pc.2.2) ((B.pl u).w * (B.pl u).v)) else (xyF (B.pl u) (pgL (mtV (B.pl u) B.S pc.2.2) ((B.pl u).w * (B.pl u).v)) w).toInt64) := by
          unfold qMatch
          rw [if_neg (fun z => z hw), plU_s hu eu p6]
          exact if_neg (fun z => z ft)
        refine ps_ift rfl (by decide) ?_
        refine ps_aload rfl rfl ?_
        refine ps_gfr 0 4 rfl rfl rfl (by first | exact hS0 _ _ | exact hS1 _ _ | exact hS2 _ _ | exact hS3 _ _ | exact hS4 _ _ | exact hS5 _ _ | exact hS6 _ _ | exact hS7 _ _ | exact hS8 _ _ | exact hS9 _ _ | exact hS10 _ _ | exact hS11 _ _ | exact hS12 _ _ | exact hS13 _ _ | exact hS14 _ _ | exact hS15 _ _ | exact hS16 _ _ | exact hS17 _ _ | exact hS18 _ _ | exact hS19 _ _ | exact hS20 _ _ | exact hS21 _ _ | exact hS22 _ _ | exact hS23 _ _ | assumption | rfl) rfl ( rfl) ?_
        refine ps_aload rfl rfl ?_
        refine ps_gfr 0 8 rfl rfl rfl (by first | exact hS0 _ _ | exact hS1 _ _ | exact hS2 _ _ | exact hS3 _ _ | exact hS4 _ _ | exact hS5 _ _ | exact hS6 _ _ | exact hS7 _ _ | exact hS8 _ _ | exact hS9 _ _ | exact hS10 _ _ | exact hS11 _ _ | exact hS12 _ _ | exact hS13 _ _ | exact hS14 _ _ | exact hS15 _ _ | exact hS16 _ _ | exact hS17 _ _ | exact hS18 _ _ | exact hS19 _ _ | exact hS20 _ _ | exact hS21 _ _ | exact hS22 _ _ | exact hS23 _ _ | assumption | rfl) rfl ( rfl) ?_
        refine pv_k rfl rfl rfl rfl rfl (hS15 _ _) rfl ⟨Nat.zero_le _, Nat.zero_le _⟩ ?_
        refine B_layX (row := pc.2.2) V (fun i hi => (kn.1.1 i hi).2.2.1) (fun i hi => c1.2.2.2 i (by rw [← ft.1, ← ft.2]; exact hi)) (fun I2 L2 o2 ol m2 ml => ?_)
        have f2 : cFk b B u s1 I2 := cF_pic hb k ok (fun a j z => o2 a j (by omega))
        have c2 : cPc pc I2 := ⟨(o2 _ _ (by decide)).trans c1.1, (o2 _ _ (by decide)).trans c1.2.1, c1.2.2.1, fun i hi => (o2 _ _ (by omega)).trans (c1.2.2.2 i hi)⟩
        have pl9 : pgL (mtV (B.pl u) B.S pc.2.2) ((B.pl u).w * (B.pl u).v) < (B.pl u).w * (B.pl u).v := pgL_lt (Nat.mul_pos hP.1.2.2.2.1 hP.1.2.2.2.2.1)
        have n9 := hP.1.2.2.2.2.2
        have f3 := cF_st hb (cFk_m f2 hu eu) ok (x := 0)
        have c3 := qS_pic (b := b) (qS_u (x := 0)) c2 hb
        have P3 : cP (pm_u I2 0 10 0) (b + 17 + 4 * u) (B.pl u).w (B.pl u).v := (cBq_p f3.1 hu).1
        by_cases w2 : w = 2
        · rw [if_pos w2] at ea
          refine ps_aload rfl rfl ?_
          refine pw_c rfl ?_
          refine ps_pfi 0 10 rfl rfl rfl (by first | exact hS0 _ _ | exact hS1 _ _ | exact hS2 _ _ | exact hS3 _ _ | exact hS4 _ _ | exact hS5 _ _ | exact hS6 _ _ | exact hS7 _ _ | exact hS8 _ _ | exact hS9 _ _ | exact hS10 _ _ | exact hS11 _ _ | exact hS12 _ _ | exact hS13 _ _ | exact hS14 _ _ | exact hS15 _ _ | exact hS16 _ _ | exact hS17 _ _ | exact hS18 _ _ | exact hS19 _ _ | exact hS20 _ _ | exact hS21 _ _ | exact hS22 _ _ | exact hS23 _ _ | assumption | rfl) rfl ?_
          refine ps_iload rfl rfl ?_
          refine pw_c rfl ?_
          refine ps_icmpf rfl (decide_eq_false (fun z => z w2)) ?_
          refine ps_aload rfl rfl ?_
          refine ps_gfr 0 4 rfl rfl rfl (by first | exact hS0 _ _ | exact hS1 _ _ | exact hS2 _ _ | exact hS3 _ _ | exact hS4 _ _ | exact hS5 _ _ | exact hS6 _ _ | exact hS7 _ _ | exact hS8 _ _ | exact hS9 _ _ | exact hS10 _ _ | exact hS11 _ _ | exact hS12 _ _ | exact hS13 _ _ | exact hS14 _ _ | exact hS15 _ _ | exact hS16 _ _ | exact hS17 _ _ | exact hS18 _ _ | exact hS19 _ _ | exact hS20 _ _ | exact hS21 _ _ | exact hS22 _ _ | exact hS23 _ _ | assumption | rfl) rfl ( rfl) ?_
          refine ps_gfl 7 4 rfl rfl rfl (hS15 _ _) rfl ?_
          rw [show ((pm_u I2 0 10 0, L2, g_R s1, 306) : pm_H).2.1 170 4 = mtV (B.pl u) B.S pc.2.2 (pgL (mtV (B.pl u) B.S pc.2.2) ((B.pl u).w * (B.pl u).v)) from ml]
          refine ps_goto rfl ?_
          refine ps_lret rfl rfl ?_
          exact kk _ _ L2 s1 (by rw [ea]; rfl) (fun a j z => ol a j (by omega)) l f3 c3 (fun a j z1 z2 z3 z4 => (pu_x z1).trans ((o2 a j (by omega)).trans (q a j z1 z2 z4)))
        · rw [if_neg w2] at ea
          refine ps_aload rfl rfl ?_
          refine pw_c rfl ?_
          refine ps_pfi 0 10 rfl rfl rfl (by first | exact hS0 _ _ | exact hS1 _ _ | exact hS2 _ _ | exact hS3 _ _ | exact hS4 _ _ | exact hS5 _ _ | exact hS6 _ _ | exact hS7 _ _ | exact hS8 _ _ | exact hS9 _ _ | exact hS10 _ _ | exact hS11 _ _ | exact hS12 _ _ | exact hS13 _ _ | exact hS14 _ _ | exact hS15 _ _ | exact hS16 _ _ | exact hS17 _ _ | exact hS18 _ _ | exact hS19 _ _ | exact hS20 _ _ | exact hS21 _ _ | exact hS22 _ _ | exact hS23 _ _ | assumption | rfl) rfl ?_
          refine ps_iload rfl rfl ?_
          refine pw_c rfl ?_
          refine ps_icmpt rfl (decide_eq_true w2) ?_
          refine ps_aload rfl rfl ?_
          refine ps_gfr 0 8 rfl rfl rfl (by first | exact hS0 _ _ | exact hS1 _ _ | exact hS2 _ _ | exact hS3 _ _ | exact hS4 _ _ | exact hS5 _ _ | exact hS6 _ _ | exact hS7 _ _ | exact hS8 _ _ | exact hS9 _ _ | exact hS10 _ _ | exact hS11 _ _ | exact hS12 _ _ | exact hS13 _ _ | exact hS14 _ _ | exact hS15 _ _ | exact hS16 _ _ | exact hS17 _ _ | exact hS18 _ _ | exact hS19 _ _ | exact hS20 _ _ | exact hS21 _ _ | exact hS22 _ _ | exact hS23 _ _ | assumption | rfl) rfl ( rfl) ?_
          refine ps_gfr 10 13 rfl rfl rfl (by first | exact hS0 _ _ | exact hS1 _ _ | exact hS2 _ _ | exact hS3 _ _ | exact hS4 _ _ | exact hS5 _ _ | exact hS6 _ _ | exact hS7 _ _ | exact hS8 _ _ | exact hS9 _ _ | exact hS10 _ _ | exact hS11 _ _ | exact hS12 _ _ | exact hS13 _ _ | exact hS14 _ _ | exact hS15 _ _ | exact hS16 _ _ | exact hS17 _ _ | exact hS18 _ _ | exact hS19 _ _ | exact hS20 _ _ | exact hS21 _ _ | exact hS22 _ _ | exact hS23 _ _ | assumption | rfl) rfl ( h13) ?_
          refine ps_aload rfl rfl ?_
          refine ps_gfr 0 4 rfl rfl rfl (by first | exact hS0 _ _ | exact hS1 _ _ | exact hS2 _ _ | exact hS3 _ _ | exact hS4 _ _ | exact hS5 _ _ | exact hS6 _ _ | exact hS7 _ _ | exact hS8 _ _ | exact hS9 _ _ | exact hS10 _ _ | exact hS11 _ _ | exact hS12 _ _ | exact hS13 _ _ | exact hS14 _ _ | exact hS15 _ _ | exact hS16 _ _ | exact hS17 _ _ | exact hS18 _ _ | exact hS19 _ _ | exact hS20 _ _ | exact hS21 _ _ | exact hS22 _ _ | exact hS23 _ _ | assumption | rfl) rfl ( rfl) ?_
          refine ps_gfi 7 3 rfl rfl rfl (by first | exact hS0 _ _ | exact hS1 _ _ | exact hS2 _ _ | exact hS3 _ _ | exact hS4 _ _ | exact hS5 _ _ | exact hS6 _ _ | exact hS7 _ _ | exact hS8 _ _ | exact hS9 _ _ | exact hS10 _ _ | exact hS11 _ _ | exact hS12 _ _ | exact hS13 _ _ | exact hS14 _ _ | exact hS15 _ _ | exact hS16 _ _ | exact hS17 _ _ | exact hS18 _ _ | exact hS19 _ _ | exact hS20 _ _ | exact hS21 _ _ | exact hS22 _ _ | exact hS23 _ _ | assumption | rfl) rfl ?_
          rw [show ((pm_u I2 0 10 0, L2, g_R s1, 306) : pm_H).1 170 3 = nI (pgL (mtV (B.pl u) B.S pc.2.2) ((B.pl u).w * (B.pl u).v)) from (show pm_u I2 0 10 0 170 3 = I2 170 3 from pu_o (by decide)).trans m2]
          refine ps_iload rfl rfl ?_
          refine pv_k rfl rfl rfl rfl rfl (hS10 _ _) rfl ⟨Nat.zero_le _, Nat.zero_le _⟩ ?_
          refine B_xOrYX hp P3 (by omega) w ?_
          refine ps_ar rfl rfl rfl rfl rfl ?_
          refine ps_lret rfl rfl ?_
          exact kk _ _ L2 s1 (by rw [ea]; rfl) (fun a j z => ol a j (by omega)) l f3 c3 (fun a j z1 z2 z3 z4 => (pu_x z1).trans ((o2 a j (by omega)).trans (q a j z1 z2 z4)))
      · rw [decide_eq_false ft]
        have ea : qMatch B pc w = .error 5 := by
          unfold qMatch
          rw [if_neg (fun z => z hw), plU_s hu eu p6]
          exact if_pos ft
        refine ps_iff rfl (by decide) ?_
        refine ps_aload rfl rfl ?_
        refine pw_c rfl ?_
        refine pv_k rfl rfl rfl rfl rfl (by first | exact hS0 _ _ | exact hS1 _ _ | exact hS2 _ _ | exact hS3 _ _ | exact hS4 _ _ | exact hS5 _ _ | exact hS6 _ _ | exact hS7 _ _ | exact hS8 _ _ | exact hS9 _ _ | exact hS10 _ _ | exact hS11 _ _ | exact hS12 _ _ | exact hS13 _ _ | exact hS14 _ _ | exact hS15 _ _ | exact hS16 _ _ | exact hS17 _ _ | exact hS18 _ _ | exact hS19 _ _ | exact hS20 _ _ | exact hS21 _ _ | exact hS22 _ _ | exact hS23 _ _ | assumption | rfl) rfl ⟨Nat.zero_le _, Nat.zero_le _⟩ ?_
        refine B_refuse ?_
        refine ps_ar rfl rfl rfl rfl rfl ?_
        refine ps_lret rfl rfl ?_
        exact kk _ _ L s1 (by rw [ea]; exact m1) (fun _ _ _ => rfl) l (cF_st hb (cFk_m k hu eu) ok) (qS_pic qS_u c1 hb) (qP_q (qS_t q qS_u))
  by_cases hw1 : w.toInt < 0
  · refine ps_iload rfl rfl ?_
    refine ps_ift rfl (decide_eq_true ((i_lt _ _).mpr (by omega))) ?_
    exact no (by omega)
  · by_cases hw2 : 2 < w.toInt
    · refine ps_iload rfl rfl ?_
      refine ps_iff rfl (decide_eq_false (fun z => by have := (i_lt _ _).mp z; omega)) ?_
      refine ps_iload rfl rfl ?_
      refine pw_c rfl ?_
      refine ps_icmpf rfl (decide_eq_false (fun z => by have := (i_le _ _).mp z; omega)) ?_
      exact no (by omega)
    · refine ps_iload rfl rfl ?_
      refine ps_iff rfl (decide_eq_false (fun z => by have := (i_lt _ _).mp z; omega)) ?_
      refine ps_iload rfl rfl ?_
      refine pw_c rfl ?_
      refine ps_icmpt rfl (decide_eq_true ((i_le _ _).mpr (by omega))) ?_
      exact go (by omega)

theorem B_minus8 (hb : isB b) (h0 : s 0 = some b) (hF : cFF b B s I) (ok : B.ok) (ku : okU B.S B.ps) (hc : cPc pc I) (x y : Int32) (kk : ∀ r I' s', r = exv (qMinus B pc x y) → qS b I I' → lkS s s' → cFF b B s' I' → Q [.int r] (I', L, g_R s', 306)) : pm_W (g_P ys) 173 0 [.ref 0, .int x, .int y, .retAddr 0, .retAddr 0] [] (I, L, g_R s, 306) (0, 0) Q := by
  have bb := isB_b hb
  have p6 := ok.1
  have e0 : (0 : Int32).toInt = 0 := rfl
  have ec1 : (1 : Int32).toInt = 1 := rfl
  have ec2 : (2 : Int32).toInt = 2 := rfl
  have ec3 : (3 : Int32).toInt = 3 := rfl
  have ec5 : (5 : Int32).toInt = 5 := rfl
  have ec7 : (7 : Int32).toInt = 7 := rfl
  have ec20 : (20 : Int32).toInt = 20 := rfl
  have ec99 : (99 : Int32).toInt = 99 := rfl
  have ec500 : (500 : Int32).toInt = 500 := rfl
  have ec65536 : (65536 : Int32).toInt = 65536 := rfl
  have ecm : (-1 : Int32).toInt = -1 := by decide
  have hS5 : ∀ s, ∀ I L, pm_sh (g_P ys) (I, L, g_R s, 306) 255 = some (.inl 10) := fun _ _ _ => rfl
  refine ps_aload rfl rfl ?_
  refine ps_iload rfl rfl ?_
  refine ps_iload rfl rfl ?_
  refine pv_k rfl rfl rfl rfl rfl rfl rfl ⟨Nat.zero_le _, Nat.zero_le _⟩ ?_
  refine B_lookAtX hb h0 hF ok ku x y (fun I1 s1 hn q l f => ?_) (fun u I1 s1 hu eu on q l k => ?_)
  · have ea : qMinus B pc x y = .error 2 := by
      unfold qMinus
      rcases us_no p6 ku hn with z | ⟨u, z, zn⟩
      · rw [z]
      · rw [z]
        exact if_pos zn
    refine ps_istore rfl rfl ?_
    refine ps_iload rfl rfl ?_
    refine ps_iff rfl (by decide) ?_
    refine ps_aload rfl rfl ?_
    refine ps_iload rfl rfl ?_
    refine pv_k rfl rfl rfl rfl rfl (by first | exact hS0 _ _ | exact hS1 _ _ | exact hS2 _ _ | exact hS3 _ _ | exact hS4 _ _ | exact hS5 _ _ | exact hS6 _ _ | exact hS7 _ _ | exact hS8 _ _ | exact hS9 _ _ | exact hS10 _ _ | exact hS11 _ _ | exact hS12 _ _ | exact hS13 _ _ | exact hS14 _ _ | exact hS15 _ _ | exact hS16 _ _ | exact hS17 _ _ | exact hS18 _ _ | exact hS19 _ _ | exact hS20 _ _ | exact hS21 _ _ | exact hS22 _ _ | exact hS23 _ _ | assumption | rfl) rfl ⟨Nat.zero_le _, Nat.zero_le _⟩ ?_
    refine B_refuse ?_
    refine ps_iret rfl rfl ?_
    exact kk _ _ s1 (by rw [ea]; rfl) (qS_t q qS_u) l (cF_st hb f ok)
  · have V := cFk_V hb k ok hu
    have hp := V.2.1
    have h13 : g_R s1 255 13 = some (b + 17 + 4 * u) := k.2.2.2.2.1
    obtain ⟨hS10, hS11, hS12, hS13, hR15, hR16, hR17⟩ := pl_F (ys := ys) (s := s1) hp
    have hP := cBq_p k.1 hu
    have kn := k.2.2.2.2.2.2
    have c1 := qS_pic q hc hb
    have hS15 : ∀ I L, pm_sh (g_P ys) (I, L, g_R s1, 306) 170 = some (.inl 7) := fun _ _ => rfl
    have hS16 : ∀ I L, pm_sh (g_P ys) (I, L, g_R s1, 306) 171 = some (.inr (0, 289)) := fun _ _ => rfl
    have hS17 : ∀ I L, pm_sh (g_P ys) (I, L, g_R s1, 306) 258 = some (.inr (0, 289)) := fun _ _ => rfl
    have w0 := hP.1.2.2.2.1
    have v0 := hP.1.2.2.2.2.1
    refine ps_istore rfl rfl ?_
    refine ps_iload rfl rfl ?_
    refine ps_ift rfl (by decide) ?_
    refine ps_aload rfl rfl ?_
    refine ps_gfr 0 8 rfl rfl rfl (by first | exact hS0 _ _ | exact hS1 _ _ | exact hS2 _ _ | exact hS3 _ _ | exact hS4 _ _ | exact hS5 _ _ | exact hS6 _ _ | exact hS7 _ _ | exact hS8 _ _ | exact hS9 _ _ | exact hS10 _ _ | exact hS11 _ _ | exact hS12 _ _ | exact hS13 _ _ | exact hS14 _ _ | exact hS15 _ _ | exact hS16 _ _ | exact hS17 _ _ | exact hS18 _ _ | exact hS19 _ _ | exact hS20 _ _ | exact hS21 _ _ | exact hS22 _ _ | exact hS23 _ _ | assumption | rfl) rfl ( rfl) ?_
    refine ps_gfr 10 13 rfl rfl rfl (by first | exact hS0 _ _ | exact hS1 _ _ | exact hS2 _ _ | exact hS3 _ _ | exact hS4 _ _ | exact hS5 _ _ | exact hS6 _ _ | exact hS7 _ _ | exact hS8 _ _ | exact hS9 _ _ | exact hS10 _ _ | exact hS11 _ _ | exact hS12 _ _ | exact hS13 _ _ | exact hS14 _ _ | exact hS15 _ _ | exact hS16 _ _ | exact hS17 _ _ | exact hS18 _ _ | exact hS19 _ _ | exact hS20 _ _ | exact hS21 _ _ | exact hS22 _ _ | exact hS23 _ _ | assumption | rfl) rfl ( h13) ?_
    refine ps_astore rfl rfl ?_
    refine ps_aload rfl rfl ?_
    refine ps_gfr 0 4 rfl rfl rfl (by first | exact hS0 _ _ | exact hS1 _ _ | exact hS2 _ _ | exact hS3 _ _ | exact hS4 _ _ | exact hS5 _ _ | exact hS6 _ _ | exact hS7 _ _ | exact hS8 _ _ | exact hS9 _ _ | exact hS10 _ _ | exact hS11 _ _ | exact hS12 _ _ | exact hS13 _ _ | exact hS14 _ _ | exact hS15 _ _ | exact hS16 _ _ | exact hS17 _ _ | exact hS18 _ _ | exact hS19 _ _ | exact hS20 _ _ | exact hS21 _ _ | exact hS22 _ _ | exact hS23 _ _ | assumption | rfl) rfl ( rfl) ?_
    refine ps_aload rfl rfl ?_
    refine pv_k rfl rfl rfl rfl rfl (hS15 _ _) rfl ⟨Nat.zero_le _, Nat.zero_le _⟩ ?_
    refine B_fitsX hp hP.1 c1 ?_
    by_cases ft : ftP (B.pl u) pc
    · rw [decide_eq_true ft]
      have ea : qMinus B pc x y = .ok (wtF (B.pl u) (shadF (B.pl u) B.S) x.toInt.toNat y.toInt.toNat - wtF (B.pl u) pc.2.2 x.toInt.toNat y.toInt.toNat) := by
        unfold qMinus
        rw [plU_s hu eu p6]
        show (if ¬ onQ (B.pl u) x y then _ else if ¬ ftP (B.pl u) pc then _ else _) = _
        rw [if_neg (fun z => z on), if_neg (fun z => z ft)]
      obtain ⟨X, hX⟩ : ∃ X, X = x.toInt.toNat := ⟨_, rfl⟩
      obtain ⟨Y, hY⟩ : ∃ Y, Y = y.toInt.toNat := ⟨_, rfl⟩
      have ex := nI_oz hX (by omega)
      have ey := nI_oz hY (by omega)
      obtain ⟨wb, vb⟩ := cP_b hP.1
      rw [← hX, ← hY] at ea
      have xl : X < 10000 := by omega
      have yl : Y < 10000 := by omega
      clear hX hY on
      subst ex ey
      refine ps_ift rfl (by decide) ?_
      refine ps_aload rfl rfl ?_
      refine ps_aload rfl rfl ?_
      refine ps_aload rfl rfl ?_
      refine ps_gfr 0 8 rfl rfl rfl (by first | exact hS0 _ _ | exact hS1 _ _ | exact hS2 _ _ | exact hS3 _ _ | exact hS4 _ _ | exact hS5 _ _ | exact hS6 _ _ | exact hS7 _ _ | exact hS8 _ _ | exact hS9 _ _ | exact hS10 _ _ | exact hS11 _ _ | exact hS12 _ _ | exact hS13 _ _ | exact hS14 _ _ | exact hS15 _ _ | exact hS16 _ _ | exact hS17 _ _ | exact hS18 _ _ | exact hS19 _ _ | exact hS20 _ _ | exact hS21 _ _ | exact hS22 _ _ | exact hS23 _ _ | assumption | rfl) rfl ( rfl) ?_
      refine ps_gfr 10 2 rfl rfl rfl (by first | exact hS0 _ _ | exact hS1 _ _ | exact hS2 _ _ | exact hS3 _ _ | exact hS4 _ _ | exact hS5 _ _ | exact hS6 _ _ | exact hS7 _ _ | exact hS8 _ _ | exact hS9 _ _ | exact hS10 _ _ | exact hS11 _ _ | exact hS12 _ _ | exact hS13 _ _ | exact hS14 _ _ | exact hS15 _ _ | exact hS16 _ _ | exact hS17 _ _ | exact hS18 _ _ | exact hS19 _ _ | exact hS20 _ _ | exact hS21 _ _ | exact hS22 _ _ | exact hS23 _ _ | assumption | rfl) rfl ( rfl) ?_
      refine ps_iload rfl rfl ?_
      refine ps_iload rfl rfl ?_
      refine pv_k rfl rfl rfl rfl rfl (hS10 _ _) rfl ⟨Nat.zero_le _, Nat.zero_le _⟩ ?_
      refine B_weighedX (b := 258) hp hP.1 hS17 (by omega) (by omega) ?_
      rw [wtF_e (P := B.pl u) (g := shadF (B.pl u) B.S) w0 v0 (fun i hi => (kn.1.1 i hi).2.2.1) (fun i hi => (hP.2.2.2.2 i hi).2)]
      refine ps_aload rfl rfl ?_
      refine ps_aload rfl rfl ?_
      refine ps_gfr 0 4 rfl rfl rfl (by first | exact hS0 _ _ | exact hS1 _ _ | exact hS2 _ _ | exact hS3 _ _ | exact hS4 _ _ | exact hS5 _ _ | exact hS6 _ _ | exact hS7 _ _ | exact hS8 _ _ | exact hS9 _ _ | exact hS10 _ _ | exact hS11 _ _ | exact hS12 _ _ | exact hS13 _ _ | exact hS14 _ _ | exact hS15 _ _ | exact hS16 _ _ | exact hS17 _ _ | exact hS18 _ _ | exact hS19 _ _ | exact hS20 _ _ | exact hS21 _ _ | exact hS22 _ _ | exact hS23 _ _ | assumption | rfl) rfl ( rfl) ?_
      refine ps_gfr 7 0 rfl rfl rfl (by first | exact hS0 _ _ | exact hS1 _ _ | exact hS2 _ _ | exact hS3 _ _ | exact hS4 _ _ | exact hS5 _ _ | exact hS6 _ _ | exact hS7 _ _ | exact hS8 _ _ | exact hS9 _ _ | exact hS10 _ _ | exact hS11 _ _ | exact hS12 _ _ | exact hS13 _ _ | exact hS14 _ _ | exact hS15 _ _ | exact hS16 _ _ | exact hS17 _ _ | exact hS18 _ _ | exact hS19 _ _ | exact hS20 _ _ | exact hS21 _ _ | exact hS22 _ _ | exact hS23 _ _ | assumption | rfl) rfl ( rfl) ?_
      refine ps_iload rfl rfl ?_
      refine ps_iload rfl rfl ?_
      refine pv_k rfl rfl rfl rfl rfl (hS10 _ _) rfl ⟨Nat.zero_le _, Nat.zero_le _⟩ ?_
      refine B_weighedX (b := 171) hp hP.1 hS16 (by omega) (by omega) ?_
      rw [wtF_e (P := B.pl u) (g := pc.2.2) w0 v0 (fun i hi => c1.2.2.2 i (by rw [← ft.1, ← ft.2]; exact hi)) (fun i hi => (hP.2.2.2.2 i hi).2)]
      refine ps_ar rfl rfl rfl rfl rfl ?_
      refine pv_k rfl rfl rfl rfl rfl (by first | exact hS0 _ _ | exact hS1 _ _ | exact hS2 _ _ | exact hS3 _ _ | exact hS4 _ _ | exact hS5 _ _ | exact hS6 _ _ | exact hS7 _ _ | exact hS8 _ _ | exact hS9 _ _ | exact hS10 _ _ | exact hS11 _ _ | exact hS12 _ _ | exact hS13 _ _ | exact hS14 _ _ | exact hS15 _ _ | exact hS16 _ _ | exact hS17 _ _ | exact hS18 _ _ | exact hS19 _ _ | exact hS20 _ _ | exact hS21 _ _ | exact hS22 _ _ | exact hS23 _ _ | assumption | rfl) rfl ⟨Nat.zero_le _, Nat.zero_le _⟩ ?_
      refine B_answer ?_
      refine ps_iret rfl rfl ?_
      exact kk _ _ s1 (by rw [ea]; rfl) (qS_t q qS_u) l (cF_st hb (cFk_m k hu eu) ok)
    · rw [decide_eq_false ft]
      have ea : qMinus B pc x y = .error 5 := by
        unfold qMinus
        rw [plU_s hu eu p6]
        show (if ¬ onQ (B.pl u) x y then _ else if ¬ ftP (B.pl u) pc then _ else _) = _
        rw [if_neg (fun z => z on), if_pos ft]
      refine ps_iff rfl (by decide) ?_
      refine ps_aload rfl rfl ?_
      refine pw_c rfl ?_
      refine pv_k rfl rfl rfl rfl rfl (by first | exact hS0 _ _ | exact hS1 _ _ | exact hS2 _ _ | exact hS3 _ _ | exact hS4 _ _ | exact hS5 _ _ | exact hS6 _ _ | exact hS7 _ _ | exact hS8 _ _ | exact hS9 _ _ | exact hS10 _ _ | exact hS11 _ _ | exact hS12 _ _ | exact hS13 _ _ | exact hS14 _ _ | exact hS15 _ _ | exact hS16 _ _ | exact hS17 _ _ | exact hS18 _ _ | exact hS19 _ _ | exact hS20 _ _ | exact hS21 _ _ | exact hS22 _ _ | exact hS23 _ _ | assumption | rfl) rfl ⟨Nat.zero_le _, Nat.zero_le _⟩ ?_
      refine B_refuse ?_
      refine ps_iret rfl rfl ?_
      exact kk _ _ s1 (by rw [ea]; rfl) (qS_t q qS_u) l (cF_st hb (cFk_m k hu eu) ok)

end TT
