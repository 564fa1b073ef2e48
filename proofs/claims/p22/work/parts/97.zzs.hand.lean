/-! BY HAND: the class's calls about shadows and PLATES, third (printed by wip/src/gen97zzq.py) -/
section TU
variable {I I' I1 I2 J : Nat → Nat → Int32} {L : Nat → Nat → Int64} {s s' s1 s2 : Nat → Option Nat} {Q : List Value → pm_H → Prop} {ys : List Int32} {p e m t b u r : Nat} {P : sPl} {S : sS} {B : sB} {pc : sPc} {g : Nat → Int32} {h : pm_H}

theorem B_shots8 (hb : isB b) (h0 : s 0 = some b) (hF : cFF b B s I) (ok : B.ok) (ku : okU B.S B.ps) (n sd w : Int32) (kk : ∀ r I' s', r = exv (qShots B n sd w) → qS b I I' → lkS s s' → cFF b B s' I' → Q [.int r] (I', L, g_R s', 306)) : pm_W (g_P ys) 174 0 [.ref 0, .int n, .int sd, .int w, .retAddr 0, .retAddr 0, .retAddr 0] [] (I, L, g_R s, 306) (0, 0) Q := by
  have bb := isB_b hb
  have p6 := ok.1
  have e0 : (0 : Int32).toInt = 0 := rfl
  have ec1 : (1 : Int32).toInt = 1 := rfl
  have ec2 : (2 : Int32).toInt = 2 := rfl
  have ec3 : (3 : Int32).toInt = 3 := rfl
  have ec5 : (5 : Int32).toInt = 5 := rfl
  have ec7 : (7 : Int32).toInt = 7 := rfl
  have ec20 : (20 : Int32).toInt = 20 := rfl
  have ec99 : (99 : Int32).toInt = 99 := rfl
  have ec500 : (500 : Int32).toInt = 500 := rfl
  have ec65536 : (65536 : Int32).toInt = 65536 := rfl
  have ecm : (-1 : Int32).toInt = -1 := by decide
  have hS5 : ∀ s, ∀ I L, pm_sh (g_P ys) (I, L, g_R s, 306) 255 = some (.inl 10) := fun _ _ _ => rfl
  have e1 : (1 : Int32).toInt = 1 := rfl
  have e3 : (3 : Int32).toInt = 3 := rfl
  have e500 : (500 : Int32).toInt = 500 := rfl
  have e65 : (65536 : Int32).toInt = 65536 := rfl
  have no : ¬ (gdS n sd w) → pm_W (g_P ys) 174 33 [.ref 0, .int n, .int sd, .int w, .retAddr 0, .retAddr 0, .retAddr 0] [] (I, L, g_R s, 306) (0, 0) Q := by
    intro z
    refine ps_aload rfl rfl ?_
    refine pw_c rfl ?_
    refine pv_k rfl rfl rfl rfl rfl (by first | exact hS0 _ _ | exact hS1 _ _ | exact hS2 _ _ | exact hS3 _ _ | exact hS4 _ _ | exact hS5 _ _ | exact hS6 _ _ | exact hS7 _ _ | exact hS8 _ _ | exact hS9 _ _ | exact hS10 _ _ | exact hS11 _ _ | exact hS12 _ _ | exact hS13 _ _ | exact hS14 _ _ | exact hS15 _ _ | exact hS16 _ _ | exact hS17 _ _ | exact hS18 _ _ | exact hS19 _ _ | exact hS20 _ _ | exact hS21 _ _ | exact hS22 _ _ | exact hS23 _ _ | assumption | rfl) rfl ⟨Nat.zero_le _, Nat.zero_le _⟩ ?_
    refine B_refuse ?_
    refine ps_iret rfl rfl ?_
    exact kk _ _ s (by unfold qShots; rw [if_pos z]; rfl) qS_u lkS_r (cF_st hb hF ok)
  have go : gdS n sd w → pm_W (g_P ys) 174 39 [.ref 0, .int n, .int sd, .int w, .retAddr 0, .retAddr 0, .retAddr 0] [] (I, L, g_R s, 306) (0, 0) Q := by
    intro hw
    refine ps_aload rfl rfl ?_
    refine pv_k rfl rfl rfl rfl rfl rfl rfl ⟨Nat.zero_le _, Nat.zero_le _⟩ ?_
    refine B_lookX hb h0 hF ok ku (fun z => ?_) (fun u I1 s1 hu eu q l k => ?_)
    · have ea : qShots B n sd w = .error 2 := by
        unfold qShots
        rw [if_neg (fun z => z hw), plU_n z]
      refine ps_istore rfl rfl ?_
      refine ps_iload rfl rfl ?_
      refine ps_iff rfl (by decide) ?_
      refine ps_aload rfl rfl ?_
      refine ps_iload rfl rfl ?_
      refine pv_k rfl rfl rfl rfl rfl (by first | exact hS0 _ _ | exact hS1 _ _ | exact hS2 _ _ | exact hS3 _ _ | exact hS4 _ _ | exact hS5 _ _ | exact hS6 _ _ | exact hS7 _ _ | exact hS8 _ _ | exact hS9 _ _ | exact hS10 _ _ | exact hS11 _ _ | exact hS12 _ _ | exact hS13 _ _ | exact hS14 _ _ | exact hS15 _ _ | exact hS16 _ _ | exact hS17 _ _ | exact hS18 _ _ | exact hS19 _ _ | exact hS20 _ _ | exact hS21 _ _ | exact hS22 _ _ | exact hS23 _ _ | assumption | rfl) rfl ⟨Nat.zero_le _, Nat.zero_le _⟩ ?_
      refine B_refuse ?_
      refine ps_iret rfl rfl ?_
      exact kk _ _ s (by rw [ea]; rfl) qS_u lkS_r (cF_st hb hF ok)
    · have V := cFk_V hb k ok hu
      have hp := V.2.1
      have h13 : g_R s1 255 13 = some (b + 17 + 4 * u) := k.2.2.2.2.1
      obtain ⟨hS10, hS11, hS12, hS13, hR15, hR16, hR17⟩ := pl_F (ys := ys) (s := s1) hp
      have hP := cBq_p k.1 hu
      have kn := k.2.2.2.2.2.2
      obtain ⟨N, hN⟩ : ∃ N, N = n.toInt.toNat := ⟨_, rfl⟩
      have en := nI_oz hN (by omega)
      have nl : N ≤ 500 := by omega
      have ea : qShots B n sd w = if ¬ 0 < (smW (B.pl u) B.S).toInt then .error 5 else .ok (if w = 0 then (shS (B.pl u) B.S (smW (B.pl u) B.S) sd N).2.1 else fgF (B.pl u) (decF (B.pl u) (shS (B.pl u) B.S (smW (B.pl u) B.S) sd N).2.2) (w - 1)) := by
        unfold qShots
        rw [if_neg (fun z => z hw), plU_s hu eu p6, hN]
      have w0 := hP.1.2.2.2.1
      have v0 := hP.1.2.2.2.2.1
      have n9 := hP.1.2.2.2.2.2
      have sv : suI (fun i => I1 257 (0 + i)) ((B.pl u).w * (B.pl u).v) = smW (B.pl u) B.S := suI_congr (fun i hi => by
        rw [Nat.zero_add]
        exact (kn.1.1 i hi).2.1)
      have hS16 : ∀ I L, pm_sh (g_P ys) (I, L, g_R s1, 306) 257 = some (.inr (0, 289)) := fun _ _ => rfl
      clear hN hw no
      subst en
      refine ps_istore rfl rfl ?_
      refine ps_iload rfl rfl ?_
      refine ps_ift rfl (by decide) ?_
      refine ps_aload rfl rfl ?_
      refine ps_gfr 0 8 rfl rfl rfl (by first | exact hS0 _ _ | exact hS1 _ _ | exact hS2 _ _ | exact hS3 _ _ | exact hS4 _ _ | exact hS5 _ _ | exact hS6 _ _ | exact hS7 _ _ | exact hS8 _ _ | exact hS9 _ _ | exact hS10 _ _ | exact hS11 _ _ | exact hS12 _ _ | exact hS13 _ _ | exact hS14 _ _ | exact hS15 _ _ | exact hS16 _ _ | exact hS17 _ _ | exact hS18 _ _ | exact hS19 _ _ | exact hS20 _ _ | exact hS21 _ _ | exact hS22 _ _ | exact hS23 _ _ | assumption | rfl) rfl ( rfl) ?_
      refine ps_gfr 10 1 rfl rfl rfl (by first | exact hS0 _ _ | exact hS1 _ _ | exact hS2 _ _ | exact hS3 _ _ | exact hS4 _ _ | exact hS5 _ _ | exact hS6 _ _ | exact hS7 _ _ | exact hS8 _ _ | exact hS9 _ _ | exact hS10 _ _ | exact hS11 _ _ | exact hS12 _ _ | exact hS13 _ _ | exact hS14 _ _ | exact hS15 _ _ | exact hS16 _ _ | exact hS17 _ _ | exact hS18 _ _ | exact hS19 _ _ | exact hS20 _ _ | exact hS21 _ _ | exact hS22 _ _ | exact hS23 _ _ | assumption | rfl) rfl ( rfl) ?_
      refine pw_c rfl ?_
      refine ps_aload rfl rfl ?_
      refine ps_gfr 0 8 rfl rfl rfl (by first | exact hS0 _ _ | exact hS1 _ _ | exact hS2 _ _ | exact hS3 _ _ | exact hS4 _ _ | exact hS5 _ _ | exact hS6 _ _ | exact hS7 _ _ | exact hS8 _ _ | exact hS9 _ _ | exact hS10 _ _ | exact hS11 _ _ | exact hS12 _ _ | exact hS13 _ _ | exact hS14 _ _ | exact hS15 _ _ | exact hS16 _ _ | exact hS17 _ _ | exact hS18 _ _ | exact hS19 _ _ | exact hS20 _ _ | exact hS21 _ _ | exact hS22 _ _ | exact hS23 _ _ | assumption | rfl) rfl ( rfl) ?_
      refine ps_gfr 10 13 rfl rfl rfl (by first | exact hS0 _ _ | exact hS1 _ _ | exact hS2 _ _ | exact hS3 _ _ | exact hS4 _ _ | exact hS5 _ _ | exact hS6 _ _ | exact hS7 _ _ | exact hS8 _ _ | exact hS9 _ _ | exact hS10 _ _ | exact hS11 _ _ | exact hS12 _ _ | exact hS13 _ _ | exact hS14 _ _ | exact hS15 _ _ | exact hS16 _ _ | exact hS17 _ _ | exact hS18 _ _ | exact hS19 _ _ | exact hS20 _ _ | exact hS21 _ _ | exact hS22 _ _ | exact hS23 _ _ | assumption | rfl) rfl ( h13) ?_
      refine ps_gfi 9 6 rfl rfl rfl (by first | exact hS0 _ _ | exact hS1 _ _ | exact hS2 _ _ | exact hS3 _ _ | exact hS4 _ _ | exact hS5 _ _ | exact hS6 _ _ | exact hS7 _ _ | exact hS8 _ _ | exact hS9 _ _ | exact hS10 _ _ | exact hS11 _ _ | exact hS12 _ _ | exact hS13 _ _ | exact hS14 _ _ | exact hS15 _ _ | exact hS16 _ _ | exact hS17 _ _ | exact hS18 _ _ | exact hS19 _ _ | exact hS20 _ _ | exact hS21 _ _ | exact hS22 _ _ | exact hS23 _ _ | assumption | rfl) rfl ?_
      rw [show ((I1, L, g_R s1, 306) : pm_H).1 (b + 17 + 4 * u) 6 = nI ((B.pl u).w * (B.pl u).v) from hP.1.2.2.1]
      refine pw_k rfl rfl rfl rfl ⟨Nat.zero_le _, Nat.zero_le _⟩ ?_
      refine B_sumX (f := 0) (n := (B.pl u).w * (B.pl u).v) (N := 289) hS16 (by omega) (by omega) ?_
      rw [sv]
      by_cases c0 : 0 < (smW (B.pl u) B.S).toInt
      · rw [if_neg (fun z => z c0)] at ea
        refine ps_istore rfl rfl ?_
        refine ps_iload rfl rfl ?_
        refine ps_ift rfl (decide_eq_true ((i_lt _ _).mpr (by omega))) ?_
        refine ps_aload rfl rfl ?_
        refine ps_gfr 0 8 rfl rfl rfl (by first | exact hS0 _ _ | exact hS1 _ _ | exact hS2 _ _ | exact hS3 _ _ | exact hS4 _ _ | exact hS5 _ _ | exact hS6 _ _ | exact hS7 _ _ | exact hS8 _ _ | exact hS9 _ _ | exact hS10 _ _ | exact hS11 _ _ | exact hS12 _ _ | exact hS13 _ _ | exact hS14 _ _ | exact hS15 _ _ | exact hS16 _ _ | exact hS17 _ _ | exact hS18 _ _ | exact hS19 _ _ | exact hS20 _ _ | exact hS21 _ _ | exact hS22 _ _ | exact hS23 _ _ | assumption | rfl) rfl ( rfl) ?_
        refine ps_iload rfl rfl ?_
        refine ps_iload rfl rfl ?_
        refine ps_iload rfl rfl ?_
        refine pv_k rfl rfl rfl rfl rfl (hS5 _ _ _) rfl ⟨Nat.zero_le _, Nat.zero_le _⟩ ?_
        refine B_shootX V kn.1 nl c0 (fun I2 o2 m2 => ?_)
        have ko := kn_o kn (fun a j z1 z2 => o2 a j z2)
        have V2 := cV_k V ko
        obtain ⟨f2, q2⟩ := cFk_o hb k ok ko
        by_cases c1 : w = 0
        · rw [if_pos c1] at ea
          refine ps_istore rfl rfl ?_
          refine ps_iload rfl rfl ?_
          refine ps_iff rfl (decide_eq_false (fun z => z c1)) ?_
          refine ps_aload rfl rfl ?_
          refine ps_iload rfl rfl ?_
          refine pv_k rfl rfl rfl rfl rfl (by first | exact hS0 _ _ | exact hS1 _ _ | exact hS2 _ _ | exact hS3 _ _ | exact hS4 _ _ | exact hS5 _ _ | exact hS6 _ _ | exact hS7 _ _ | exact hS8 _ _ | exact hS9 _ _ | exact hS10 _ _ | exact hS11 _ _ | exact hS12 _ _ | exact hS13 _ _ | exact hS14 _ _ | exact hS15 _ _ | exact hS16 _ _ | exact hS17 _ _ | exact hS18 _ _ | exact hS19 _ _ | exact hS20 _ _ | exact hS21 _ _ | exact hS22 _ _ | exact hS23 _ _ | assumption | rfl) rfl ⟨Nat.zero_le _, Nat.zero_le _⟩ ?_
          refine B_answer ?_
          refine ps_iret rfl rfl ?_
          exact kk _ _ s1 (by rw [ea]; rfl) (qS_t (qS_t q q2) qS_u) l (cF_st hb (cFk_m f2 hu eu) ok)
        · rw [if_neg c1] at ea
          refine ps_istore rfl rfl ?_
          refine ps_iload rfl rfl ?_
          refine ps_ift rfl (decide_eq_true c1) ?_
          refine ps_aload rfl rfl ?_
          refine ps_aload rfl rfl ?_
          refine ps_gfr 0 8 rfl rfl rfl (by first | exact hS0 _ _ | exact hS1 _ _ | exact hS2 _ _ | exact hS3 _ _ | exact hS4 _ _ | exact hS5 _ _ | exact hS6 _ _ | exact hS7 _ _ | exact hS8 _ _ | exact hS9 _ _ | exact hS10 _ _ | exact hS11 _ _ | exact hS12 _ _ | exact hS13 _ _ | exact hS14 _ _ | exact hS15 _ _ | exact hS16 _ _ | exact hS17 _ _ | exact hS18 _ _ | exact hS19 _ _ | exact hS20 _ _ | exact hS21 _ _ | exact hS22 _ _ | exact hS23 _ _ | assumption | rfl) rfl ( rfl) ?_
          refine ps_iload rfl rfl ?_
          refine pw_c rfl ?_
          refine ps_ar rfl rfl rfl rfl rfl ?_
          refine pv_k rfl rfl rfl rfl rfl (hS5 _ _ _) rfl ⟨Nat.zero_le _, Nat.zero_le _⟩ ?_
          refine B_figureOfShotsX V2 m2 _ (fun I3 o3 => ?_)
          obtain ⟨f3, q3⟩ := cFk_o hb f2 ok (kn_o ko.2.2 (fun a j z1 z2 => o3 a j z1))
          refine pv_k rfl rfl rfl rfl rfl (by first | exact hS0 _ _ | exact hS1 _ _ | exact hS2 _ _ | exact hS3 _ _ | exact hS4 _ _ | exact hS5 _ _ | exact hS6 _ _ | exact hS7 _ _ | exact hS8 _ _ | exact hS9 _ _ | exact hS10 _ _ | exact hS11 _ _ | exact hS12 _ _ | exact hS13 _ _ | exact hS14 _ _ | exact hS15 _ _ | exact hS16 _ _ | exact hS17 _ _ | exact hS18 _ _ | exact hS19 _ _ | exact hS20 _ _ | exact hS21 _ _ | exact hS22 _ _ | exact hS23 _ _ | assumption | rfl) rfl ⟨Nat.zero_le _, Nat.zero_le _⟩ ?_
          refine B_answer ?_
          refine ps_iret rfl rfl ?_
          exact kk _ _ s1 (by rw [ea]; rfl) (qS_t (qS_t (qS_t q q2) q3) qS_u) l (cF_st hb (cFk_m f3 hu eu) ok)
      · rw [if_pos c0] at ea
        refine ps_istore rfl rfl ?_
        refine ps_iload rfl rfl ?_
        refine ps_iff rfl (decide_eq_false (fun z => by have z := (i_lt _ _).mp z; omega)) ?_
        refine ps_aload rfl rfl ?_
        refine pw_c rfl ?_
        refine pv_k rfl rfl rfl rfl rfl (by first | exact hS0 _ _ | exact hS1 _ _ | exact hS2 _ _ | exact hS3 _ _ | exact hS4 _ _ | exact hS5 _ _ | exact hS6 _ _ | exact hS7 _ _ | exact hS8 _ _ | exact hS9 _ _ | exact hS10 _ _ | exact hS11 _ _ | exact hS12 _ _ | exact hS13 _ _ | exact hS14 _ _ | exact hS15 _ _ | exact hS16 _ _ | exact hS17 _ _ | exact hS18 _ _ | exact hS19 _ _ | exact hS20 _ _ | exact hS21 _ _ | exact hS22 _ _ | exact hS23 _ _ | assumption | rfl) rfl ⟨Nat.zero_le _, Nat.zero_le _⟩ ?_
        refine B_refuse ?_
        refine ps_iret rfl rfl ?_
        exact kk _ _ s1 (by rw [ea]; rfl) (qS_t q qS_u) l (cF_st hb (cFk_m k hu eu) ok)
  by_cases c1 : n.toInt < 1
  · refine ps_iload rfl rfl ?_
    refine pw_c rfl ?_
    refine ps_icmpt rfl (decide_eq_true ((i_lt _ _).mpr (by omega))) ?_
    exact no (fun z => by have := z.1; omega)
  · by_cases c2 : 500 < n.toInt
    · refine ps_iload rfl rfl ?_
      refine pw_c rfl ?_
      refine ps_icmpf rfl (decide_eq_false (fun z => by have := (i_lt _ _).mp z; omega)) ?_
      refine ps_iload rfl rfl ?_
      refine pw_c rfl ?_
      refine ps_icmpt rfl (decide_eq_true ((i_lt _ _).mpr (by omega))) ?_
      exact no (fun z => by have := z.1; omega)
    · by_cases c3 : sd.toInt < 1
      · refine ps_iload rfl rfl ?_
        refine pw_c rfl ?_
        refine ps_icmpf rfl (decide_eq_false (fun z => by have := (i_lt _ _).mp z; omega)) ?_
        refine ps_iload rfl rfl ?_
        refine pw_c rfl ?_
        refine ps_icmpf rfl (decide_eq_false (fun z => by have := (i_lt _ _).mp z; omega)) ?_
        refine ps_iload rfl rfl ?_
        refine pw_c rfl ?_
        refine ps_icmpt rfl (decide_eq_true ((i_lt _ _).mpr (by omega))) ?_
        exact no (fun z => by have := z.2.1; omega)
      · by_cases c4 : 65536 < sd.toInt
        · refine ps_iload rfl rfl ?_
          refine pw_c rfl ?_
          refine ps_icmpf rfl (decide_eq_false (fun z => by have := (i_lt _ _).mp z; omega)) ?_
          refine ps_iload rfl rfl ?_
          refine pw_c rfl ?_
          refine ps_icmpf rfl (decide_eq_false (fun z => by have := (i_lt _ _).mp z; omega)) ?_
          refine ps_iload rfl rfl ?_
          refine pw_c rfl ?_
          refine ps_icmpf rfl (decide_eq_false (fun z => by have := (i_lt _ _).mp z; omega)) ?_
          refine ps_iload rfl rfl ?_
          refine pw_c rfl ?_
          refine ps_icmpt rfl (decide_eq_true ((i_lt _ _).mpr (by omega))) ?_
          exact no (fun z => by have := z.2.1; omega)
        · by_cases c5 : w.toInt < 0
          · refine ps_iload rfl rfl ?_
            refine pw_c rfl ?_
            refine ps_icmpf rfl (decide_eq_false (fun z => by have := (i_lt _ _).mp z; omega)) ?_
            refine ps_iload rfl rfl ?_
            refine pw_c rfl ?_
            refine ps_icmpf rfl (decide_eq_false (fun z => by have := (i_lt _ _).mp z; omega)) ?_
            refine ps_iload rfl rfl ?_
            refine pw_c rfl ?_
            refine ps_icmpf rfl (decide_eq_false (fun z => by have := (i_lt _ _).mp z; omega)) ?_
            refine ps_iload rfl rfl ?_
            refine pw_c rfl ?_
            refine ps_icmpf rfl (decide_eq_false (fun z => by have := (i_lt _ _).mp z; omega)) ?_
            refine ps_iload rfl rfl ?_
            refine ps_ift rfl (decide_eq_true ((i_lt _ _).mpr (by omega))) ?_
            exact no (fun z => by have := z.2.2; omega)
          · by_cases c6 : 3 < w.toInt
            · refine ps_iload rfl rfl ?_
              refine pw_c rfl ?_
              refine ps_icmpf rfl (decide_eq_false (fun z => by have := (i_lt _ _).mp z; omega)) ?_
              refine ps_iload rfl rfl ?_
              refine pw_c rfl ?_
              refine ps_icmpf rfl (decide_eq_false (fun z => by have := (i_lt _ _).mp z; omega)) ?_
              refine ps_iload rfl rfl ?_
              refine pw_c rfl ?_
              refine ps_icmpf rfl (decide_eq_false (fun z => by have := (i_lt _ _).mp z; omega)) ?_
              refine ps_iload rfl rfl ?_
              refine pw_c rfl ?_
              refine ps_icmpf rfl (decide_eq_false (fun z => by have := (i_lt _ _).mp z; omega)) ?_
              refine ps_iload rfl rfl ?_
              refine ps_iff rfl (decide_eq_false (fun z => by have := (i_lt _ _).mp z; omega)) ?_
              refine ps_iload rfl rfl ?_
              refine pw_c rfl ?_
              refine ps_icmpf rfl (decide_eq_false (fun z => by have := (i_le _ _).mp z; omega)) ?_
              exact no (fun z => by have := z.2.2; omega)
            · refine ps_iload rfl rfl ?_
              refine pw_c rfl ?_
              refine ps_icmpf rfl (decide_eq_false (fun z => by have := (i_lt _ _).mp z; omega)) ?_
              refine ps_iload rfl rfl ?_
              refine pw_c rfl ?_
              refine ps_icmpf rfl (decide_eq_false (fun z => by have := (i_lt _ _).mp z; omega)) ?_
              refine ps_iload rfl rfl ?_
              refine pw_c rfl ?_
              refine ps_icmpf rfl (decide_eq_false (fun z => by have := (i_lt _ _).mp z; omega)) ?_
              refine ps_iload rfl rfl ?_
              refine pw_c rfl ?_
              refine ps_icmpf rfl (decide_eq_false (fun z => by have := (i_lt _ _).mp z; omega)) ?_
              refine ps_iload rfl rfl ?_
              refine ps_iff rfl (decide_eq_false (fun z => by have := (i_lt _ _).mp z; omega)) ?_
              refine ps_iload rfl rfl ?_
              refine pw_c rfl ?_
              refine ps_icmpt rfl (decide_eq_true ((i_le _ _).mpr (by omega))) ?_
              exact go ⟨by omega, by omega, by omega⟩

theorem ws_pl (P : sPl) (S : sS) : ∀ k, (wrS P S k).1 = -1 ∨ ∃ i, i < k ∧ (wrS P S k).1 = nI i
  | 0 => Or.inl rfl
  | k + 1 => by
    unfold wrS
    split
    · split
      · exact Or.inr ⟨k, by omega, rfl⟩
      · exact (ws_pl P S k).imp id (fun ⟨i, hi, e⟩ => ⟨i, by omega, e⟩)
    · exact (ws_pl P S k).imp id (fun ⟨i, hi, e⟩ => ⟨i, by omega, e⟩)
theorem B_worst8 (hb : isB b) (h0 : s 0 = some b) (hF : cFF b B s I) (ok : B.ok) (ku : okU B.S B.ps) (w : Int32) (kk : ∀ r I' s', r = exv (qWorst B w) → qS b I I' → lkS s s' → cFF b B s' I' → Q [.int r] (I', L, g_R s', 306)) : pm_W (g_P ys) 179 0 [.ref 0, .int w, .retAddr 0] [] (I, L, g_R s, 306) (0, 0) Q := by
  have bb := isB_b hb
  have p6 := ok.1
  have e0 : (0 : Int32).toInt = 0 := rfl
  have ec1 : (1 : Int32).toInt = 1 := rfl
  have ec2 : (2 : Int32).toInt = 2 := rfl
  have ec3 : (3 : Int32).toInt = 3 := rfl
  have ec5 : (5 : Int32).toInt = 5 := rfl
  have ec7 : (7 : Int32).toInt = 7 := rfl
  have ec20 : (20 : Int32).toInt = 20 := rfl
  have ec99 : (99 : Int32).toInt = 99 := rfl
  have ec500 : (500 : Int32).toInt = 500 := rfl
  have ec65536 : (65536 : Int32).toInt = 65536 := rfl
  have ecm : (-1 : Int32).toInt = -1 := by decide
  have hS5 : ∀ s, ∀ I L, pm_sh (g_P ys) (I, L, g_R s, 306) 255 = some (.inl 10) := fun _ _ _ => rfl
  have no : ¬ (0 ≤ w.toInt ∧ w.toInt ≤ 2) → pm_W (g_P ys) 179 9 [.ref 0, .int w, .retAddr 0] [] (I, L, g_R s, 306) (0, 0) Q := by
    intro z
    refine ps_aload rfl rfl ?_
    refine pw_c rfl ?_
    refine pv_k rfl rfl rfl rfl rfl (by first | exact hS0 _ _ | exact hS1 _ _ | exact hS2 _ _ | exact hS3 _ _ | exact hS4 _ _ | exact hS5 _ _ | exact hS6 _ _ | exact hS7 _ _ | exact hS8 _ _ | exact hS9 _ _ | exact hS10 _ _ | exact hS11 _ _ | exact hS12 _ _ | exact hS13 _ _ | exact hS14 _ _ | exact hS15 _ _ | exact hS16 _ _ | exact hS17 _ _ | exact hS18 _ _ | exact hS19 _ _ | exact hS20 _ _ | exact hS21 _ _ | exact hS22 _ _ | exact hS23 _ _ | assumption | rfl) rfl ⟨Nat.zero_le _, Nat.zero_le _⟩ ?_
    refine B_refuse ?_
    refine ps_iret rfl rfl ?_
    exact kk _ _ s (by unfold qWorst; rw [if_pos z]; rfl) qS_u lkS_r (cF_st hb hF ok)
  have go : (0 ≤ w.toInt ∧ w.toInt ≤ 2) → pm_W (g_P ys) 179 15 [.ref 0, .int w, .retAddr 0] [] (I, L, g_R s, 306) (0, 0) Q := by
    intro hw
    have bad : ∀ (e : Int32) I1 s1, ¬ e = 0 → qWorst B w = .error e → qS b I I1 → lkS s s1 → cFF b B s1 I1 → pm_W (g_P ys) 179 19 [.ref 0, .int w, .retAddr 0] [.int e] (I1, L, g_R s1, 306) (0, 0) Q := by
      intro e I1 s1 he ea q l f
      refine ps_istore rfl rfl ?_
      refine ps_iload rfl rfl ?_
      refine ps_iff rfl (decide_eq_false he) ?_
      refine ps_aload rfl rfl ?_
      refine ps_iload rfl rfl ?_
      refine pv_k rfl rfl rfl rfl rfl (by first | exact hS0 _ _ | exact hS1 _ _ | exact hS2 _ _ | exact hS3 _ _ | exact hS4 _ _ | exact hS5 _ _ | exact hS6 _ _ | exact hS7 _ _ | exact hS8 _ _ | exact hS9 _ _ | exact hS10 _ _ | exact hS11 _ _ | exact hS12 _ _ | exact hS13 _ _ | exact hS14 _ _ | exact hS15 _ _ | exact hS16 _ _ | exact hS17 _ _ | exact hS18 _ _ | exact hS19 _ _ | exact hS20 _ _ | exact hS21 _ _ | exact hS22 _ _ | exact hS23 _ _ | assumption | rfl) rfl ⟨Nat.zero_le _, Nat.zero_le _⟩ ?_
      refine B_refuse ?_
      refine ps_iret rfl rfl ?_
      exact kk _ _ s1 (by rw [ea]; rfl) (qS_t q qS_u) l (cF_st hb f ok)
    refine ps_aload rfl rfl ?_
    refine pv_k rfl rfl rfl rfl rfl rfl rfl ⟨Nat.zero_le _, Nat.zero_le _⟩ ?_
    refine B_lookResX hb h0 hF ok ku (fun z => ?_) (fun u I2 s2 hu eu c q2 l2 k2 => ?_) (fun u I2 s2 hu eu c q2 l2 k2 sk => ?_)
    · exact bad 2 I s (by decide) (by unfold qWorst; rw [if_neg (fun z => z hw), plU_n z]) qS_r lkS_r hF
    · exact bad 5 I2 s2 (by decide) (by unfold qWorst; rw [if_neg (fun z => z hw), plU_s hu eu p6]; exact if_pos c) q2 l2 (cFk_m k2 hu eu)
    · have V := cFk_V hb k2 ok hu
      have hp := V.2.1
      have h13 : g_R s2 255 13 = some (b + 17 + 4 * u) := k2.2.2.2.2.1
      obtain ⟨hS10, hS11, hS12, hS13, hR15, hR16, hR17⟩ := pl_F (ys := ys) (s := s2) hp
      have hP := cBq_p k2.1 hu
      have kn := k2.2.2.2.2.2.2
      have ea : qWorst B w = if (wrS (B.pl u) B.S ((B.pl u).w * (B.pl u).v)).1 = -1 then .error 5 else .ok (if w = 2 then (wrS (B.pl u) B.S ((B.pl u).w * (B.pl u).v)).2 else xyF (B.pl u) (wrS (B.pl u) B.S ((B.pl u).w * (B.pl u).v)).1.toInt.toNat w) := by
        unfold qWorst
        rw [if_neg (fun z => z hw), plU_s hu eu p6]
        exact if_neg (fun z => z c)
      refine ps_istore rfl rfl ?_
      refine ps_iload rfl rfl ?_
      refine ps_ift rfl (by decide) ?_
      refine ps_aload rfl rfl ?_
      refine ps_gfr 0 8 rfl rfl rfl (by first | exact hS0 _ _ | exact hS1 _ _ | exact hS2 _ _ | exact hS3 _ _ | exact hS4 _ _ | exact hS5 _ _ | exact hS6 _ _ | exact hS7 _ _ | exact hS8 _ _ | exact hS9 _ _ | exact hS10 _ _ | exact hS11 _ _ | exact hS12 _ _ | exact hS13 _ _ | exact hS14 _ _ | exact hS15 _ _ | exact hS16 _ _ | exact hS17 _ _ | exact hS18 _ _ | exact hS19 _ _ | exact hS20 _ _ | exact hS21 _ _ | exact hS22 _ _ | exact hS23 _ _ | assumption | rfl) rfl ( rfl) ?_
      refine pv_k rfl rfl rfl rfl rfl (hS5 _ _ _) rfl ⟨Nat.zero_le _, Nat.zero_le _⟩ ?_
      refine B_seekWorstX V sk kn.1 kn.2.1 kn.2.2.2 (fun I3 r3 w3 d3 => ?_)
      have ko := kn_w kn r3 w3 d3
      have V3 := cV_k V ko
      obtain ⟨f3, q3⟩ := cFk_o hb k2 ok ko
      have hP3 := cBq_p f3.1 hu
      have n9 := hP3.1.2.2.2.2.2
      obtain ⟨_, wp, we⟩ := w3
      have wl := ws_pl (B.pl u) B.S ((B.pl u).w * (B.pl u).v)
      generalize wrS (B.pl u) B.S ((B.pl u).w * (B.pl u).v) = W at wp we wl ea
      by_cases c1 : W.1 = -1
      · rw [if_pos c1] at ea
        refine ps_aload rfl rfl ?_
        refine ps_gfr 0 8 rfl rfl rfl (by first | exact hS0 _ _ | exact hS1 _ _ | exact hS2 _ _ | exact hS3 _ _ | exact hS4 _ _ | exact hS5 _ _ | exact hS6 _ _ | exact hS7 _ _ | exact hS8 _ _ | exact hS9 _ _ | exact hS10 _ _ | exact hS11 _ _ | exact hS12 _ _ | exact hS13 _ _ | exact hS14 _ _ | exact hS15 _ _ | exact hS16 _ _ | exact hS17 _ _ | exact hS18 _ _ | exact hS19 _ _ | exact hS20 _ _ | exact hS21 _ _ | exact hS22 _ _ | exact hS23 _ _ | assumption | rfl) rfl ( rfl) ?_
        refine ps_gfi 10 10 rfl rfl rfl (by first | exact hS0 _ _ | exact hS1 _ _ | exact hS2 _ _ | exact hS3 _ _ | exact hS4 _ _ | exact hS5 _ _ | exact hS6 _ _ | exact hS7 _ _ | exact hS8 _ _ | exact hS9 _ _ | exact hS10 _ _ | exact hS11 _ _ | exact hS12 _ _ | exact hS13 _ _ | exact hS14 _ _ | exact hS15 _ _ | exact hS16 _ _ | exact hS17 _ _ | exact hS18 _ _ | exact hS19 _ _ | exact hS20 _ _ | exact hS21 _ _ | exact hS22 _ _ | exact hS23 _ _ | assumption | rfl) rfl ?_
        rw [show ((I3, L, g_R s2, 306) : pm_H).1 255 10 = W.1 from wp]
        refine pw_c rfl ?_
        refine ps_icmpf rfl (decide_eq_false (fun z => z c1)) ?_
        refine ps_aload rfl rfl ?_
        refine pw_c rfl ?_
        refine pv_k rfl rfl rfl rfl rfl (by first | exact hS0 _ _ | exact hS1 _ _ | exact hS2 _ _ | exact hS3 _ _ | exact hS4 _ _ | exact hS5 _ _ | exact hS6 _ _ | exact hS7 _ _ | exact hS8 _ _ | exact hS9 _ _ | exact hS10 _ _ | exact hS11 _ _ | exact hS12 _ _ | exact hS13 _ _ | exact hS14 _ _ | exact hS15 _ _ | exact hS16 _ _ | exact hS17 _ _ | exact hS18 _ _ | exact hS19 _ _ | exact hS20 _ _ | exact hS21 _ _ | exact hS22 _ _ | exact hS23 _ _ | assumption | rfl) rfl ⟨Nat.zero_le _, Nat.zero_le _⟩ ?_
        refine B_refuse ?_
        refine ps_iret rfl rfl ?_
        exact kk _ _ s2 (by rw [ea]; rfl) (qS_t (qS_t q2 q3) qS_u) l2 (cF_st hb (cFk_m f3 hu eu) ok)
      · rw [if_neg c1] at ea
        obtain ⟨i, il, ei⟩ : ∃ i, i < (B.pl u).w * (B.pl u).v ∧ W.1 = nI i := wl.resolve_left c1
        refine ps_aload rfl rfl ?_
        refine ps_gfr 0 8 rfl rfl rfl (by first | exact hS0 _ _ | exact hS1 _ _ | exact hS2 _ _ | exact hS3 _ _ | exact hS4 _ _ | exact hS5 _ _ | exact hS6 _ _ | exact hS7 _ _ | exact hS8 _ _ | exact hS9 _ _ | exact hS10 _ _ | exact hS11 _ _ | exact hS12 _ _ | exact hS13 _ _ | exact hS14 _ _ | exact hS15 _ _ | exact hS16 _ _ | exact hS17 _ _ | exact hS18 _ _ | exact hS19 _ _ | exact hS20 _ _ | exact hS21 _ _ | exact hS22 _ _ | exact hS23 _ _ | assumption | rfl) rfl ( rfl) ?_
        refine ps_gfi 10 10 rfl rfl rfl (by first | exact hS0 _ _ | exact hS1 _ _ | exact hS2 _ _ | exact hS3 _ _ | exact hS4 _ _ | exact hS5 _ _ | exact hS6 _ _ | exact hS7 _ _ | exact hS8 _ _ | exact hS9 _ _ | exact hS10 _ _ | exact hS11 _ _ | exact hS12 _ _ | exact hS13 _ _ | exact hS14 _ _ | exact hS15 _ _ | exact hS16 _ _ | exact hS17 _ _ | exact hS18 _ _ | exact hS19 _ _ | exact hS20 _ _ | exact hS21 _ _ | exact hS22 _ _ | exact hS23 _ _ | assumption | rfl) rfl ?_
        rw [show ((I3, L, g_R s2, 306) : pm_H).1 255 10 = W.1 from wp]
        by_cases w2 : w = 2
        · rw [if_pos w2] at ea
          refine pw_c rfl ?_
          refine ps_icmpt rfl (decide_eq_true c1) ?_
          refine ps_iload rfl rfl ?_
          refine pw_c rfl ?_
          refine ps_icmpf rfl (decide_eq_false (fun z => z w2)) ?_
          refine ps_aload rfl rfl ?_
          refine ps_aload rfl rfl ?_
          refine ps_gfr 0 8 rfl rfl rfl (by first | exact hS0 _ _ | exact hS1 _ _ | exact hS2 _ _ | exact hS3 _ _ | exact hS4 _ _ | exact hS5 _ _ | exact hS6 _ _ | exact hS7 _ _ | exact hS8 _ _ | exact hS9 _ _ | exact hS10 _ _ | exact hS11 _ _ | exact hS12 _ _ | exact hS13 _ _ | exact hS14 _ _ | exact hS15 _ _ | exact hS16 _ _ | exact hS17 _ _ | exact hS18 _ _ | exact hS19 _ _ | exact hS20 _ _ | exact hS21 _ _ | exact hS22 _ _ | exact hS23 _ _ | assumption | rfl) rfl ( rfl) ?_
          refine ps_gfi 10 11 rfl rfl rfl (by first | exact hS0 _ _ | exact hS1 _ _ | exact hS2 _ _ | exact hS3 _ _ | exact hS4 _ _ | exact hS5 _ _ | exact hS6 _ _ | exact hS7 _ _ | exact hS8 _ _ | exact hS9 _ _ | exact hS10 _ _ | exact hS11 _ _ | exact hS12 _ _ | exact hS13 _ _ | exact hS14 _ _ | exact hS15 _ _ | exact hS16 _ _ | exact hS17 _ _ | exact hS18 _ _ | exact hS19 _ _ | exact hS20 _ _ | exact hS21 _ _ | exact hS22 _ _ | exact hS23 _ _ | assumption | rfl) rfl ?_
          rw [show ((I3, L, g_R s2, 306) : pm_H).1 255 11 = W.2 from we]
          refine pv_k rfl rfl rfl rfl rfl (by first | exact hS0 _ _ | exact hS1 _ _ | exact hS2 _ _ | exact hS3 _ _ | exact hS4 _ _ | exact hS5 _ _ | exact hS6 _ _ | exact hS7 _ _ | exact hS8 _ _ | exact hS9 _ _ | exact hS10 _ _ | exact hS11 _ _ | exact hS12 _ _ | exact hS13 _ _ | exact hS14 _ _ | exact hS15 _ _ | exact hS16 _ _ | exact hS17 _ _ | exact hS18 _ _ | exact hS19 _ _ | exact hS20 _ _ | exact hS21 _ _ | exact hS22 _ _ | exact hS23 _ _ | assumption | rfl) rfl ⟨Nat.zero_le _, Nat.zero_le _⟩ ?_
          refine B_answer ?_
          refine ps_iret rfl rfl ?_
          exact kk _ _ s2 (by rw [ea]; rfl) (qS_t (qS_t q2 q3) qS_u) l2 (cF_st hb (cFk_m f3 hu eu) ok)
        · rw [if_neg w2, ei, nI_toInt (by omega), Int.toNat_natCast] at ea
          refine pw_c rfl ?_
          refine ps_icmpt rfl (decide_eq_true c1) ?_
          refine ps_iload rfl rfl ?_
          refine pw_c rfl ?_
          refine ps_icmpt rfl (decide_eq_true w2) ?_
          refine ps_aload rfl rfl ?_
          refine ps_aload rfl rfl ?_
          refine ps_gfr 0 8 rfl rfl rfl (by first | exact hS0 _ _ | exact hS1 _ _ | exact hS2 _ _ | exact hS3 _ _ | exact hS4 _ _ | exact hS5 _ _ | exact hS6 _ _ | exact hS7 _ _ | exact hS8 _ _ | exact hS9 _ _ | exact hS10 _ _ | exact hS11 _ _ | exact hS12 _ _ | exact hS13 _ _ | exact hS14 _ _ | exact hS15 _ _ | exact hS16 _ _ | exact hS17 _ _ | exact hS18 _ _ | exact hS19 _ _ | exact hS20 _ _ | exact hS21 _ _ | exact hS22 _ _ | exact hS23 _ _ | assumption | rfl) rfl ( rfl) ?_
          refine ps_gfr 10 13 rfl rfl rfl (by first | exact hS0 _ _ | exact hS1 _ _ | exact hS2 _ _ | exact hS3 _ _ | exact hS4 _ _ | exact hS5 _ _ | exact hS6 _ _ | exact hS7 _ _ | exact hS8 _ _ | exact hS9 _ _ | exact hS10 _ _ | exact hS11 _ _ | exact hS12 _ _ | exact hS13 _ _ | exact hS14 _ _ | exact hS15 _ _ | exact hS16 _ _ | exact hS17 _ _ | exact hS18 _ _ | exact hS19 _ _ | exact hS20 _ _ | exact hS21 _ _ | exact hS22 _ _ | exact hS23 _ _ | assumption | rfl) rfl ( h13) ?_
          refine ps_aload rfl rfl ?_
          refine ps_gfr 0 8 rfl rfl rfl (by first | exact hS0 _ _ | exact hS1 _ _ | exact hS2 _ _ | exact hS3 _ _ | exact hS4 _ _ | exact hS5 _ _ | exact hS6 _ _ | exact hS7 _ _ | exact hS8 _ _ | exact hS9 _ _ | exact hS10 _ _ | exact hS11 _ _ | exact hS12 _ _ | exact hS13 _ _ | exact hS14 _ _ | exact hS15 _ _ | exact hS16 _ _ | exact hS17 _ _ | exact hS18 _ _ | exact hS19 _ _ | exact hS20 _ _ | exact hS21 _ _ | exact hS22 _ _ | exact hS23 _ _ | assumption | rfl) rfl ( rfl) ?_
          refine ps_gfi 10 10 rfl rfl rfl (by first | exact hS0 _ _ | exact hS1 _ _ | exact hS2 _ _ | exact hS3 _ _ | exact hS4 _ _ | exact hS5 _ _ | exact hS6 _ _ | exact hS7 _ _ | exact hS8 _ _ | exact hS9 _ _ | exact hS10 _ _ | exact hS11 _ _ | exact hS12 _ _ | exact hS13 _ _ | exact hS14 _ _ | exact hS15 _ _ | exact hS16 _ _ | exact hS17 _ _ | exact hS18 _ _ | exact hS19 _ _ | exact hS20 _ _ | exact hS21 _ _ | exact hS22 _ _ | exact hS23 _ _ | assumption | rfl) rfl ?_
          rw [show ((I3, L, g_R s2, 306) : pm_H).1 255 10 = nI i from wp.trans ei]
          refine ps_iload rfl rfl ?_
          refine pv_k rfl rfl rfl rfl rfl (hS10 _ _) rfl ⟨Nat.zero_le _, Nat.zero_le _⟩ ?_
          refine B_xOrYX hp hP3.1 (by omega) w ?_
          refine pv_k rfl rfl rfl rfl rfl (by first | exact hS0 _ _ | exact hS1 _ _ | exact hS2 _ _ | exact hS3 _ _ | exact hS4 _ _ | exact hS5 _ _ | exact hS6 _ _ | exact hS7 _ _ | exact hS8 _ _ | exact hS9 _ _ | exact hS10 _ _ | exact hS11 _ _ | exact hS12 _ _ | exact hS13 _ _ | exact hS14 _ _ | exact hS15 _ _ | exact hS16 _ _ | exact hS17 _ _ | exact hS18 _ _ | exact hS19 _ _ | exact hS20 _ _ | exact hS21 _ _ | exact hS22 _ _ | exact hS23 _ _ | assumption | rfl) rfl ⟨Nat.zero_le _, Nat.zero_le _⟩ ?_
          refine B_answer ?_
          refine ps_iret rfl rfl ?_
          exact kk _ _ s2 (by rw [ea]; rfl) (qS_t (qS_t q2 q3) qS_u) l2 (cF_st hb (cFk_m f3 hu eu) ok)
  by_cases hw1 : w.toInt < 0
  · refine ps_iload rfl rfl ?_
    refine ps_ift rfl (decide_eq_true ((i_lt _ _).mpr (by omega))) ?_
    exact no (by omega)
  · by_cases hw2 : 2 < w.toInt
    · refine ps_iload rfl rfl ?_
      refine ps_iff rfl (decide_eq_false (fun z => by have := (i_lt _ _).mp z; omega)) ?_
      refine ps_iload rfl rfl ?_
      refine pw_c rfl ?_
      refine ps_icmpf rfl (decide_eq_false (fun z => by have := (i_le _ _).mp z; omega)) ?_
      exact no (by omega)
    · refine ps_iload rfl rfl ?_
      refine ps_iff rfl (decide_eq_false (fun z => by have := (i_lt _ _).mp z; omega)) ?_
      refine ps_iload rfl rfl ?_
      refine pw_c rfl ?_
      refine ps_icmpt rfl (decide_eq_true ((i_le _ _).mpr (by omega))) ?_
      exact go (by omega)

theorem B_pfigX {w : Int32} (hp : isP p) (hP : cPq I p P) (hs : cSd I p P) (hw : 0 ≤ w.toInt ∧ w.toInt ≤ 7) (kk : ∀ I', (skA p I I' ∧ cSk I' p P) ∨ I' = I → Q [.int (fgP P w)] (I', L, g_R s, 306)) : pm_W (g_P ys) 84 0 [.ref p, .int w] [] (I, L, g_R s, 306) (0, 0) Q := by
  obtain ⟨hS0, hS1, hS2, hS3, hR0, hR1, hR2⟩ := pl_F (ys := ys) (s := s) hp
  have e4 : (4 : Int32).toInt = 4 := rfl
  have w0 := hP.1.2.2.2.1
  have v0 := hP.1.2.2.2.2.1
  have n0 : 0 < P.w * P.v := Nat.mul_pos w0 v0
  by_cases h4 : w.toInt < 4
  · refine ps_iload rfl rfl ?_
    refine pw_c rfl ?_
    refine ps_icmpt rfl (decide_eq_true ((i_lt _ _).mpr (by omega))) ?_
    refine ps_iload rfl rfl ?_
    rcases (show w.toInt = 0 ∨ w.toInt = 1 ∨ w.toInt = 2 ∨ w.toInt = 3 by omega) with q | q | q | q
    · have q := w_is 0 q rfl
      subst q
      refine ps_brr rfl rfl rfl rfl rfl rfl ?_
      refine ps_aload rfl rfl ?_
      refine ps_gfi 9 4 rfl rfl rfl (by first | exact hS0 _ _ | exact hS1 _ _ | exact hS2 _ _ | exact hS3 _ _ | exact hS4 _ _ | exact hS5 _ _ | exact hS6 _ _ | exact hS7 _ _ | exact hS8 _ _ | exact hS9 _ _ | exact hS10 _ _ | exact hS11 _ _ | exact hS12 _ _ | exact hS13 _ _ | exact hS14 _ _ | exact hS15 _ _ | exact hS16 _ _ | exact hS17 _ _ | exact hS18 _ _ | exact hS19 _ _ | exact hS20 _ _ | exact hS21 _ _ | exact hS22 _ _ | exact hS23 _ _ | assumption | rfl) rfl ?_
      rw [show ((I, L, g_R s, 306) : pm_H).1 p 4 = nI P.w from hP.1.1]
      refine ps_iret rfl rfl ?_
      exact kk I (Or.inr rfl)
    · have q := w_is 1 q rfl
      subst q
      refine ps_brr rfl rfl rfl rfl rfl rfl ?_
      refine ps_aload rfl rfl ?_
      refine ps_gfi 9 5 rfl rfl rfl (by first | exact hS0 _ _ | exact hS1 _ _ | exact hS2 _ _ | exact hS3 _ _ | exact hS4 _ _ | exact hS5 _ _ | exact hS6 _ _ | exact hS7 _ _ | exact hS8 _ _ | exact hS9 _ _ | exact hS10 _ _ | exact hS11 _ _ | exact hS12 _ _ | exact hS13 _ _ | exact hS14 _ _ | exact hS15 _ _ | exact hS16 _ _ | exact hS17 _ _ | exact hS18 _ _ | exact hS19 _ _ | exact hS20 _ _ | exact hS21 _ _ | exact hS22 _ _ | exact hS23 _ _ | assumption | rfl) rfl ?_
      rw [show ((I, L, g_R s, 306) : pm_H).1 p 5 = nI P.v from hP.1.2.1]
      refine ps_iret rfl rfl ?_
      exact kk I (Or.inr rfl)
    · have q := w_is 2 q rfl
      subst q
      refine ps_brr rfl rfl rfl rfl rfl rfl ?_
      refine ps_aload rfl rfl ?_
      refine ps_gfi 9 7 rfl rfl rfl (by first | exact hS0 _ _ | exact hS1 _ _ | exact hS2 _ _ | exact hS3 _ _ | exact hS4 _ _ | exact hS5 _ _ | exact hS6 _ _ | exact hS7 _ _ | exact hS8 _ _ | exact hS9 _ _ | exact hS10 _ _ | exact hS11 _ _ | exact hS12 _ _ | exact hS13 _ _ | exact hS14 _ _ | exact hS15 _ _ | exact hS16 _ _ | exact hS17 _ _ | exact hS18 _ _ | exact hS19 _ _ | exact hS20 _ _ | exact hS21 _ _ | exact hS22 _ _ | exact hS23 _ _ | assumption | rfl) rfl ?_
      rw [show ((I, L, g_R s, 306) : pm_H).1 p 7 = hoP P from hP.2.2.1]
      refine ps_iret rfl rfl ?_
      exact kk I (Or.inr rfl)
    · have q := w_is 3 q rfl
      subst q
      refine ps_brr rfl rfl rfl rfl rfl rfl ?_
      refine ps_aload rfl rfl ?_
      refine ps_gfi 9 8 rfl rfl rfl (by first | exact hS0 _ _ | exact hS1 _ _ | exact hS2 _ _ | exact hS3 _ _ | exact hS4 _ _ | exact hS5 _ _ | exact hS6 _ _ | exact hS7 _ _ | exact hS8 _ _ | exact hS9 _ _ | exact hS10 _ _ | exact hS11 _ _ | exact hS12 _ _ | exact hS13 _ _ | exact hS14 _ _ | exact hS15 _ _ | exact hS16 _ _ | exact hS17 _ _ | exact hS18 _ _ | exact hS19 _ _ | exact hS20 _ _ | exact hS21 _ _ | exact hS22 _ _ | exact hS23 _ _ | assumption | rfl) rfl ?_
      rw [show ((I, L, g_R s, 306) : pm_H).1 p 8 = weP P from hP.2.2.2.1]
      refine ps_iret rfl rfl ?_
      exact kk I (Or.inr rfl)
  · refine ps_iload rfl rfl ?_
    refine pw_c rfl ?_
    refine ps_icmpf rfl (decide_eq_false (fun z => by have z := (i_lt _ _).mp z; omega)) ?_
    refine ps_aload rfl rfl ?_
    refine pv_k rfl rfl rfl rfl rfl (hS0 _ _) rfl ⟨Nat.zero_le _, Nat.zero_le _⟩ ?_
    refine B_knowSidesX hp hP hs (fun I1 a1 s1 => ?_)
    refine ps_iload rfl rfl ?_
    rcases (show w.toInt = 4 ∨ w.toInt = 5 ∨ w.toInt = 6 ∨ w.toInt = 7 by omega) with q | q | q | q
    · have q := w_is 4 q rfl
      subst q
      refine ps_brr rfl rfl rfl rfl rfl rfl ?_
      refine ps_aload rfl rfl ?_
      refine ps_gfr 9 2 rfl rfl rfl (by first | exact hS0 _ _ | exact hS1 _ _ | exact hS2 _ _ | exact hS3 _ _ | exact hS4 _ _ | exact hS5 _ _ | exact hS6 _ _ | exact hS7 _ _ | exact hS8 _ _ | exact hS9 _ _ | exact hS10 _ _ | exact hS11 _ _ | exact hS12 _ _ | exact hS13 _ _ | exact hS14 _ _ | exact hS15 _ _ | exact hS16 _ _ | exact hS17 _ _ | exact hS18 _ _ | exact hS19 _ _ | exact hS20 _ _ | exact hS21 _ _ | exact hS22 _ _ | exact hS23 _ _ | assumption | rfl) rfl (by first | assumption | rfl) ?_
      refine pw_c rfl ?_
      refine ps_iald (0) rfl (by first | exact hS0 _ _ | exact hS1 _ _ | exact hS2 _ _ | exact hS3 _ _ | exact hS4 _ _ | exact hS5 _ _ | exact hS6 _ _ | exact hS7 _ _ | exact hS8 _ _ | exact hS9 _ _ | exact hS10 _ _ | exact hS11 _ _ | exact hS12 _ _ | exact hS13 _ _ | exact hS14 _ _ | exact hS15 _ _ | exact hS16 _ _ | exact hS17 _ _ | exact hS18 _ _ | exact hS19 _ _ | exact hS20 _ _ | exact hS21 _ _ | exact hS22 _ _ | exact hS23 _ _ | assumption | rfl) rfl (rfl) (by omega) ?_
      rw [show ((I1, L, g_R s, 306) : pm_H).1 (p + 3) 0 = sdF P 0 from s1.2.1 0 n0]
      refine ps_iret rfl rfl ?_
      exact kk I1 (Or.inl ⟨a1, s1⟩)
    · have q := w_is 5 q rfl
      subst q
      refine ps_brr rfl rfl rfl rfl rfl rfl ?_
      refine ps_aload rfl rfl ?_
      refine ps_gfi 9 10 rfl rfl rfl (by first | exact hS0 _ _ | exact hS1 _ _ | exact hS2 _ _ | exact hS3 _ _ | exact hS4 _ _ | exact hS5 _ _ | exact hS6 _ _ | exact hS7 _ _ | exact hS8 _ _ | exact hS9 _ _ | exact hS10 _ _ | exact hS11 _ _ | exact hS12 _ _ | exact hS13 _ _ | exact hS14 _ _ | exact hS15 _ _ | exact hS16 _ _ | exact hS17 _ _ | exact hS18 _ _ | exact hS19 _ _ | exact hS20 _ _ | exact hS21 _ _ | exact hS22 _ _ | exact hS23 _ _ | assumption | rfl) rfl ?_
      rw [show ((I1, L, g_R s, 306) : pm_H).1 p 10 = lsS P from s1.2.2.1]
      refine ps_aload rfl rfl ?_
      refine ps_gfi 9 11 rfl rfl rfl (by first | exact hS0 _ _ | exact hS1 _ _ | exact hS2 _ _ | exact hS3 _ _ | exact hS4 _ _ | exact hS5 _ _ | exact hS6 _ _ | exact hS7 _ _ | exact hS8 _ _ | exact hS9 _ _ | exact hS10 _ _ | exact hS11 _ _ | exact hS12 _ _ | exact hS13 _ _ | exact hS14 _ _ | exact hS15 _ _ | exact hS16 _ _ | exact hS17 _ _ | exact hS18 _ _ | exact hS19 _ _ | exact hS20 _ _ | exact hS21 _ _ | exact hS22 _ _ | exact hS23 _ _ | assumption | rfl) rfl ?_
      rw [show ((I1, L, g_R s, 306) : pm_H).1 p 11 = gsS P from s1.2.2.2]
      have kk := kk I1 (Or.inl ⟨a1, s1⟩)
      rw [show fgP P 5 = bI (decide (lsS P = gsS P)) from rfl] at kk
      by_cases e1 : lsS P = gsS P
      · rw [decide_eq_true e1] at kk
        refine ps_icmpf rfl (decide_eq_false (fun z => z e1)) ?_
        refine pw_c rfl ?_
        refine ps_goto rfl ?_
        refine ps_iret rfl rfl ?_
        exact kk
      · rw [decide_eq_false e1] at kk
        refine ps_icmpt rfl (decide_eq_true e1) ?_
        refine pw_c rfl ?_
        refine ps_iret rfl rfl ?_
        exact kk
    · have q := w_is 6 q rfl
      subst q
      refine ps_brr rfl rfl rfl rfl rfl rfl ?_
      refine ps_aload rfl rfl ?_
      refine ps_gfi 9 10 rfl rfl rfl (by first | exact hS0 _ _ | exact hS1 _ _ | exact hS2 _ _ | exact hS3 _ _ | exact hS4 _ _ | exact hS5 _ _ | exact hS6 _ _ | exact hS7 _ _ | exact hS8 _ _ | exact hS9 _ _ | exact hS10 _ _ | exact hS11 _ _ | exact hS12 _ _ | exact hS13 _ _ | exact hS14 _ _ | exact hS15 _ _ | exact hS16 _ _ | exact hS17 _ _ | exact hS18 _ _ | exact hS19 _ _ | exact hS20 _ _ | exact hS21 _ _ | exact hS22 _ _ | exact hS23 _ _ | assumption | rfl) rfl ?_
      rw [show ((I1, L, g_R s, 306) : pm_H).1 p 10 = lsS P from s1.2.2.1]
      refine ps_iret rfl rfl ?_
      exact kk I1 (Or.inl ⟨a1, s1⟩)
    · have q := w_is 7 q rfl
      subst q
      refine ps_brr rfl rfl rfl rfl rfl rfl ?_
      refine ps_aload rfl rfl ?_
      refine ps_gfi 9 11 rfl rfl rfl (by first | exact hS0 _ _ | exact hS1 _ _ | exact hS2 _ _ | exact hS3 _ _ | exact hS4 _ _ | exact hS5 _ _ | exact hS6 _ _ | exact hS7 _ _ | exact hS8 _ _ | exact hS9 _ _ | exact hS10 _ _ | exact hS11 _ _ | exact hS12 _ _ | exact hS13 _ _ | exact hS14 _ _ | exact hS15 _ _ | exact hS16 _ _ | exact hS17 _ _ | exact hS18 _ _ | exact hS19 _ _ | exact hS20 _ _ | exact hS21 _ _ | exact hS22 _ _ | exact hS23 _ _ | assumption | rfl) rfl ?_
      rw [show ((I1, L, g_R s, 306) : pm_H).1 p 11 = gsS P from s1.2.2.2]
      refine ps_iret rfl rfl ?_
      exact kk I1 (Or.inl ⟨a1, s1⟩)
/-- behind SIDES that became known -/
theorem cF_sk (hb : isB b) (h : cFF b B s I) (ok : B.ok) (hu : u < B.ps) (k : (skA (b + 17 + 4 * u) I I' ∧ cSk I' (b + 17 + 4 * u) (B.pl u)) ∨ I' = I) : cFF b B s I' ∧ qS b I I' := by
  rcases k with ⟨a, s2⟩ | rfl
  · have bb := isB_b hb
    have p6 := ok.1
    have q2 := qS_sk hb (show u < 6 by omega) a
    exact ⟨⟨cBq_q hb h.1 ok q2, cSc_q hb h.2.1 q2, cSds_k hb h.2.2.1 ok hu a s2, cCm_c h.2.2.2 (fun x j z1 z2 => a x j (by omega) (by omega))⟩, q2⟩
  · exact ⟨h, qS_r⟩
theorem B_plate8 (hb : isB b) (h0 : s 0 = some b) (hF : cFF b B s I) (ok : B.ok) (ku : okU B.S B.ps) (k w : Int32) (kk : ∀ r I' s', r = exv (qPlate B k w) → qS b I I' → lkS s s' → cFF b B s' I' → Q [.int r] (I', L, g_R s', 306)) : pm_W (g_P ys) 83 0 [.ref 0, .int k, .int w, .retAddr 0] [] (I, L, g_R s, 306) (0, 0) Q := by
  have bb := isB_b hb
  have p6 := ok.1
  have e0 : (0 : Int32).toInt = 0 := rfl
  have ec1 : (1 : Int32).toInt = 1 := rfl
  have ec2 : (2 : Int32).toInt = 2 := rfl
  have ec3 : (3 : Int32).toInt = 3 := rfl
  have ec5 : (5 : Int32).toInt = 5 := rfl
  have ec7 : (7 : Int32).toInt = 7 := rfl
  have ec20 : (20 : Int32).toInt = 20 := rfl
  have ec99 : (99 : Int32).toInt = 99 := rfl
  have ec500 : (500 : Int32).toInt = 500 := rfl
  have ec65536 : (65536 : Int32).toInt = 65536 := rfl
  have ecm : (-1 : Int32).toInt = -1 := by decide
  have hS5 : ∀ s, ∀ I L, pm_sh (g_P ys) (I, L, g_R s, 306) 255 = some (.inl 10) := fun _ _ _ => rfl
  have e6 : (6 : Int32).toInt = 6 := rfl
  have no : ¬ (0 ≤ w.toInt ∧ w.toInt ≤ 7) → pm_W (g_P ys) 83 10 [.ref 0, .int k, .int w, .retAddr 0] [] (I, L, g_R s, 306) (0, 0) Q := by
    intro z
    refine ps_aload rfl rfl ?_
    refine pw_c rfl ?_
    refine pv_k rfl rfl rfl rfl rfl (by first | exact hS0 _ _ | exact hS1 _ _ | exact hS2 _ _ | exact hS3 _ _ | exact hS4 _ _ | exact hS5 _ _ | exact hS6 _ _ | exact hS7 _ _ | exact hS8 _ _ | exact hS9 _ _ | exact hS10 _ _ | exact hS11 _ _ | exact hS12 _ _ | exact hS13 _ _ | exact hS14 _ _ | exact hS15 _ _ | exact hS16 _ _ | exact hS17 _ _ | exact hS18 _ _ | exact hS19 _ _ | exact hS20 _ _ | exact hS21 _ _ | exact hS22 _ _ | exact hS23 _ _ | assumption | rfl) rfl ⟨Nat.zero_le _, Nat.zero_le _⟩ ?_
    refine B_refuse ?_
    refine ps_iret rfl rfl ?_
    exact kk _ _ s (by unfold qPlate; rw [if_pos z]; rfl) qS_u lkS_r (cF_st hb hF ok)
  have go : (0 ≤ w.toInt ∧ w.toInt ≤ 7) → pm_W (g_P ys) 83 16 [.ref 0, .int k, .int w, .retAddr 0] [] (I, L, g_R s, 306) (0, 0) Q := by
    intro hw
    obtain ⟨hS0, _⟩ := bn_F (ys := ys) (s := s) hb
    refine ps_aload rfl rfl ?_
    refine ps_gfr 0 6 rfl rfl rfl (by first | exact hS0 _ _ | exact hS1 _ _ | exact hS2 _ _ | exact hS3 _ _ | exact hS4 _ _ | exact hS5 _ _ | exact hS6 _ _ | exact hS7 _ _ | exact hS8 _ _ | exact hS9 _ _ | exact hS10 _ _ | exact hS11 _ _ | exact hS12 _ _ | exact hS13 _ _ | exact hS14 _ _ | exact hS15 _ _ | exact hS16 _ _ | exact hS17 _ _ | exact hS18 _ _ | exact hS19 _ _ | exact hS20 _ _ | exact hS21 _ _ | exact hS22 _ _ | exact hS23 _ _ | assumption | rfl) rfl ( h0) ?_
    refine ps_iload rfl rfl ?_
    refine pv_k rfl rfl rfl rfl rfl (hS0 _ _) rfl ⟨Nat.zero_le _, Nat.zero_le _⟩ ?_
    refine B_plate6 hb hF.1 ok.1 k (fun i hi ei => ?_) (fun hn => ?_)
    · have hp := isP_6 hb ok hi
      have hP := cBq_p hF.1 hi
      obtain ⟨hS10, _⟩ := pl_F (ys := ys) (s := s) hp
      have n9 := hP.1.2.2.2.2.2
      have ea : qPlate B k w = if 6 ≤ w.toInt ∧ (B.pl i).w * (B.pl i).v = 1 then .error 5 else .ok (fgP (B.pl i) w) := by
        unfold qPlate
        rw [if_neg (fun z => z hw), plN_y hi ok.1 ei]
      have good : ¬ (6 ≤ w.toInt ∧ (B.pl i).w * (B.pl i).v = 1) → pm_W (g_P ys) 83 55 [.ref 0, .int k, .int w, .ref (b + 17 + 4 * i)] [] (I, L, g_R s, 306) (0, 0) Q := by
        intro z
        rw [if_neg z] at ea
        refine ps_aload rfl rfl ?_
        refine ps_aload rfl rfl ?_
        refine ps_iload rfl rfl ?_
        refine pv_k rfl rfl rfl rfl rfl (hS10 _ _) rfl ⟨Nat.zero_le _, Nat.zero_le _⟩ ?_
        refine B_pfigX hp hP (hF.2.2.1 i hi) hw (fun I1 k1 => ?_)
        obtain ⟨f1, q1⟩ := cF_sk hb hF ok hi k1
        refine pv_k rfl rfl rfl rfl rfl (by first | exact hS0 _ _ | exact hS1 _ _ | exact hS2 _ _ | exact hS3 _ _ | exact hS4 _ _ | exact hS5 _ _ | exact hS6 _ _ | exact hS7 _ _ | exact hS8 _ _ | exact hS9 _ _ | exact hS10 _ _ | exact hS11 _ _ | exact hS12 _ _ | exact hS13 _ _ | exact hS14 _ _ | exact hS15 _ _ | exact hS16 _ _ | exact hS17 _ _ | exact hS18 _ _ | exact hS19 _ _ | exact hS20 _ _ | exact hS21 _ _ | exact hS22 _ _ | exact hS23 _ _ | assumption | rfl) rfl ⟨Nat.zero_le _, Nat.zero_le _⟩ ?_
        refine B_answer ?_
        refine ps_iret rfl rfl ?_
        exact kk _ _ s (by rw [ea]; rfl) (qS_t q1 qS_u) lkS_r (cF_st hb f1 ok)
      refine ps_astore rfl rfl ?_
      refine ps_aload rfl rfl ?_
      refine ps_brr rfl rfl rfl rfl rfl rfl ?_
      by_cases w6 : w.toInt < 6
      · refine ps_iload rfl rfl ?_
        refine pw_c rfl ?_
        refine ps_icmpt rfl (decide_eq_true ((i_lt _ _).mpr (by omega))) ?_
        exact good (by omega)
      · refine ps_iload rfl rfl ?_
        refine pw_c rfl ?_
        refine ps_icmpf rfl (decide_eq_false (fun z => by have z := (i_lt _ _).mp z; omega)) ?_
        refine ps_aload rfl rfl ?_
        refine ps_gfi 9 6 rfl rfl rfl (by first | exact hS0 _ _ | exact hS1 _ _ | exact hS2 _ _ | exact hS3 _ _ | exact hS4 _ _ | exact hS5 _ _ | exact hS6 _ _ | exact hS7 _ _ | exact hS8 _ _ | exact hS9 _ _ | exact hS10 _ _ | exact hS11 _ _ | exact hS12 _ _ | exact hS13 _ _ | exact hS14 _ _ | exact hS15 _ _ | exact hS16 _ _ | exact hS17 _ _ | exact hS18 _ _ | exact hS19 _ _ | exact hS20 _ _ | exact hS21 _ _ | exact hS22 _ _ | exact hS23 _ _ | assumption | rfl) rfl ?_
        rw [show ((I, L, g_R s, 306) : pm_H).1 (b + 17 + 4 * i) 6 = nI ((B.pl i).w * (B.pl i).v) from hP.1.2.2.1]
        by_cases c1 : (B.pl i).w * (B.pl i).v = 1
        · rw [if_pos ⟨by omega, c1⟩] at ea
          refine pw_c rfl ?_
          refine ps_icmpf rfl (decide_eq_false (fun z => z (by rw [c1]; rfl))) ?_
          refine ps_aload rfl rfl ?_
          refine pw_c rfl ?_
          refine pv_k rfl rfl rfl rfl rfl (by first | exact hS0 _ _ | exact hS1 _ _ | exact hS2 _ _ | exact hS3 _ _ | exact hS4 _ _ | exact hS5 _ _ | exact hS6 _ _ | exact hS7 _ _ | exact hS8 _ _ | exact hS9 _ _ | exact hS10 _ _ | exact hS11 _ _ | exact hS12 _ _ | exact hS13 _ _ | exact hS14 _ _ | exact hS15 _ _ | exact hS16 _ _ | exact hS17 _ _ | exact hS18 _ _ | exact hS19 _ _ | exact hS20 _ _ | exact hS21 _ _ | exact hS22 _ _ | exact hS23 _ _ | assumption | rfl) rfl ⟨Nat.zero_le _, Nat.zero_le _⟩ ?_
          refine B_refuse ?_
          refine ps_iret rfl rfl ?_
          exact kk _ _ s (by rw [ea]; rfl) qS_u lkS_r (cF_st hb hF ok)
        · refine pw_c rfl ?_
          refine ps_icmpt rfl (decide_eq_true (fun z => c1 (nI_eqv (b := 1) (by omega) (by omega) z))) ?_
          exact good (fun z => c1 z.2)
    · have ea : qPlate B k w = .error 2 := by
        unfold qPlate
        rw [if_neg (fun z => z hw), plN_n hn]
      refine ps_astoreN rfl rfl ?_
      refine ps_aloadN rfl rfl ?_
      refine ps_brr rfl rfl rfl rfl rfl rfl ?_
      refine ps_aload rfl rfl ?_
      refine pw_c rfl ?_
      refine pv_k rfl rfl rfl rfl rfl (by first | exact hS0 _ _ | exact hS1 _ _ | exact hS2 _ _ | exact hS3 _ _ | exact hS4 _ _ | exact hS5 _ _ | exact hS6 _ _ | exact hS7 _ _ | exact hS8 _ _ | exact hS9 _ _ | exact hS10 _ _ | exact hS11 _ _ | exact hS12 _ _ | exact hS13 _ _ | exact hS14 _ _ | exact hS15 _ _ | exact hS16 _ _ | exact hS17 _ _ | exact hS18 _ _ | exact hS19 _ _ | exact hS20 _ _ | exact hS21 _ _ | exact hS22 _ _ | exact hS23 _ _ | assumption | rfl) rfl ⟨Nat.zero_le _, Nat.zero_le _⟩ ?_
      refine B_refuse ?_
      refine ps_iret rfl rfl ?_
      exact kk _ _ s (by rw [ea]; rfl) qS_u lkS_r (cF_st hb hF ok)
  by_cases hw1 : w.toInt < 0
  · refine ps_iload rfl rfl ?_
    refine ps_ift rfl (decide_eq_true ((i_lt _ _).mpr (by omega))) ?_
    exact no (by omega)
  · by_cases hw2 : 7 < w.toInt
    · refine ps_iload rfl rfl ?_
      refine ps_iff rfl (decide_eq_false (fun z => by have := (i_lt _ _).mp z; omega)) ?_
      refine ps_iload rfl rfl ?_
      refine pw_c rfl ?_
      refine ps_icmpf rfl (decide_eq_false (fun z => by have := (i_le _ _).mp z; omega)) ?_
      exact no (by omega)
    · refine ps_iload rfl rfl ?_
      refine ps_iff rfl (decide_eq_false (fun z => by have := (i_lt _ _).mp z; omega)) ?_
      refine ps_iload rfl rfl ?_
      refine pw_c rfl ?_
      refine ps_icmpt rfl (decide_eq_true ((i_le _ _).mpr (by omega))) ?_
      exact go (by omega)

theorem B_cell8 (hb : isB b) (h0 : s 0 = some b) (hF : cFF b B s I) (ok : B.ok) (ku : okU B.S B.ps) (k x y w : Int32) (kk : ∀ r I' s', r = exv (qCell B k x y w) → qS b I I' → lkS s s' → cFF b B s' I' → Q [.int r] (I', L, g_R s', 306)) : pm_W (g_P ys) 89 0 [.ref 0, .int k, .int x, .int y, .int w, .retAddr 0, .retAddr 0] [] (I, L, g_R s, 306) (0, 0) Q := by
  have bb := isB_b hb
  have p6 := ok.1
  have e0 : (0 : Int32).toInt = 0 := rfl
  have ec1 : (1 : Int32).toInt = 1 := rfl
  have ec2 : (2 : Int32).toInt = 2 := rfl
  have ec3 : (3 : Int32).toInt = 3 := rfl
  have ec5 : (5 : Int32).toInt = 5 := rfl
  have ec7 : (7 : Int32).toInt = 7 := rfl
  have ec20 : (20 : Int32).toInt = 20 := rfl
  have ec99 : (99 : Int32).toInt = 99 := rfl
  have ec500 : (500 : Int32).toInt = 500 := rfl
  have ec65536 : (65536 : Int32).toInt = 65536 := rfl
  have ecm : (-1 : Int32).toInt = -1 := by decide
  have hS5 : ∀ s, ∀ I L, pm_sh (g_P ys) (I, L, g_R s, 306) 255 = some (.inl 10) := fun _ _ _ => rfl
  have no : ¬ (0 ≤ w.toInt ∧ w.toInt ≤ 2) → pm_W (g_P ys) 89 11 [.ref 0, .int k, .int x, .int y, .int w, .retAddr 0, .retAddr 0] [] (I, L, g_R s, 306) (0, 0) Q := by
    intro z
    refine ps_aload rfl rfl ?_
    refine pw_c rfl ?_
    refine pv_k rfl rfl rfl rfl rfl (by first | exact hS0 _ _ | exact hS1 _ _ | exact hS2 _ _ | exact hS3 _ _ | exact hS4 _ _ | exact hS5 _ _ | exact hS6 _ _ | exact hS7 _ _ | exact hS8 _ _ | exact hS9 _ _ | exact hS10 _ _ | exact hS11 _ _ | exact hS12 _ _ | exact hS13 _ _ | exact hS14 _ _ | exact hS15 _ _ | exact hS16 _ _ | exact hS17 _ _ | exact hS18 _ _ | exact hS19 _ _ | exact hS20 _ _ | exact hS21 _ _ | exact hS22 _ _ | exact hS23 _ _ | assumption | rfl) rfl ⟨Nat.zero_le _, Nat.zero_le _⟩ ?_
    refine B_refuse ?_
    refine ps_iret rfl rfl ?_
    exact kk _ _ s (by unfold qCell; rw [if_pos z]; rfl) qS_u lkS_r (cF_st hb hF ok)
  have go : (0 ≤ w.toInt ∧ w.toInt ≤ 2) → pm_W (g_P ys) 89 17 [.ref 0, .int k, .int x, .int y, .int w, .retAddr 0, .retAddr 0] [] (I, L, g_R s, 306) (0, 0) Q := by
    intro hw
    obtain ⟨hS0, _⟩ := bn_F (ys := ys) (s := s) hb
    have bad : qCell B k x y w = .error 2 → ∀ v : Value, pm_W (g_P ys) 89 42 [.ref 0, .int k, .int x, .int y, .int w, v, .retAddr 0] [] (I, L, g_R s, 306) (0, 0) Q := by
      intro ea v
      refine ps_aload rfl rfl ?_
      refine pw_c rfl ?_
      refine pv_k rfl rfl rfl rfl rfl (by first | exact hS0 _ _ | exact hS1 _ _ | exact hS2 _ _ | exact hS3 _ _ | exact hS4 _ _ | exact hS5 _ _ | exact hS6 _ _ | exact hS7 _ _ | exact hS8 _ _ | exact hS9 _ _ | exact hS10 _ _ | exact hS11 _ _ | exact hS12 _ _ | exact hS13 _ _ | exact hS14 _ _ | exact hS15 _ _ | exact hS16 _ _ | exact hS17 _ _ | exact hS18 _ _ | exact hS19 _ _ | exact hS20 _ _ | exact hS21 _ _ | exact hS22 _ _ | exact hS23 _ _ | assumption | rfl) rfl ⟨Nat.zero_le _, Nat.zero_le _⟩ ?_
      refine B_refuse ?_
      refine ps_iret rfl rfl ?_
      exact kk _ _ s (by rw [ea]; rfl) qS_u lkS_r (cF_st hb hF ok)
    refine ps_aload rfl rfl ?_
    refine ps_gfr 0 6 rfl rfl rfl (by first | exact hS0 _ _ | exact hS1 _ _ | exact hS2 _ _ | exact hS3 _ _ | exact hS4 _ _ | exact hS5 _ _ | exact hS6 _ _ | exact hS7 _ _ | exact hS8 _ _ | exact hS9 _ _ | exact hS10 _ _ | exact hS11 _ _ | exact hS12 _ _ | exact hS13 _ _ | exact hS14 _ _ | exact hS15 _ _ | exact hS16 _ _ | exact hS17 _ _ | exact hS18 _ _ | exact hS19 _ _ | exact hS20 _ _ | exact hS21 _ _ | exact hS22 _ _ | exact hS23 _ _ | assumption | rfl) rfl ( h0) ?_
    refine ps_iload rfl rfl ?_
    refine pv_k rfl rfl rfl rfl rfl (hS0 _ _) rfl ⟨Nat.zero_le _, Nat.zero_le _⟩ ?_
    refine B_plate6 hb hF.1 ok.1 k (fun i hi ei => ?_) (fun hn => ?_)
    · have hp := isP_6 hb ok hi
      have hP := cBq_p hF.1 hi
      obtain ⟨hS10, hS11, hS12, hS13, hR15, hR16, hR17⟩ := pl_F (ys := ys) (s := s) hp
      have n9 := hP.1.2.2.2.2.2
      obtain ⟨wb, vb⟩ := cP_b hP.1
      refine ps_astore rfl rfl ?_
      refine ps_aload rfl rfl ?_
      refine ps_brr rfl rfl rfl rfl rfl rfl ?_
      refine ps_aload rfl rfl ?_
      refine ps_iload rfl rfl ?_
      refine ps_iload rfl rfl ?_
      refine pv_k rfl rfl rfl rfl rfl (hS10 _ _) rfl ⟨Nat.zero_le _, Nat.zero_le _⟩ ?_
      refine B_hasX hp hP.1 x y ?_
      by_cases on : onQ (B.pl i) x y
      · rw [decide_eq_true on]
        have ea : qCell B k x y w = .ok (if w = 0 then (B.pl i).ho (y.toInt.toNat * (B.pl i).w + x.toInt.toNat) else if w = 1 then (B.pl i).we (y.toInt.toNat * (B.pl i).w + x.toInt.toNat) else sdF (B.pl i) (y.toInt.toNat * (B.pl i).w + x.toInt.toNat)) := by
          unfold qCell
          rw [if_neg (fun z => z hw), plN_y hi ok.1 ei]
          exact if_neg (fun z => z on)
        obtain ⟨X, hX⟩ : ∃ X, X = x.toInt.toNat := ⟨_, rfl⟩
        obtain ⟨Y, hY⟩ : ∃ Y, Y = y.toInt.toNat := ⟨_, rfl⟩
        have ex := nI_oz hX (by omega)
        have ey := nI_oz hY (by omega)
        rw [← hX, ← hY] at ea
        have xl : X < (B.pl i).w := by omega
        have yl : Y < (B.pl i).v := by omega
        have b2 := (row_in (w := (B.pl i).w) (v := (B.pl i).v) (y := Y) (x := X) yl xl).2
        clear hX hY on bad
        subst ex ey
        refine ps_ift rfl (by decide) ?_
        refine ps_iload rfl rfl ?_
        refine ps_aload rfl rfl ?_
        refine ps_gfi 9 4 rfl rfl rfl (by first | exact hS0 _ _ | exact hS1 _ _ | exact hS2 _ _ | exact hS3 _ _ | exact hS4 _ _ | exact hS5 _ _ | exact hS6 _ _ | exact hS7 _ _ | exact hS8 _ _ | exact hS9 _ _ | exact hS10 _ _ | exact hS11 _ _ | exact hS12 _ _ | exact hS13 _ _ | exact hS14 _ _ | exact hS15 _ _ | exact hS16 _ _ | exact hS17 _ _ | exact hS18 _ _ | exact hS19 _ _ | exact hS20 _ _ | exact hS21 _ _ | exact hS22 _ _ | exact hS23 _ _ | assumption | rfl) rfl ?_
        rw [show ((I, L, g_R s, 306) : pm_H).1 (b + 17 + 4 * i) 4 = nI (B.pl i).w from hP.1.1]
        refine ps_ar rfl rfl rfl rfl rfl ?_
        rw [pk_mul]
        refine ps_iload rfl rfl ?_
        refine ps_ar rfl rfl rfl rfl rfl ?_
        rw [nI_add]
        by_cases w0 : w = 0
        · rw [if_pos w0] at ea
          refine ps_istore rfl rfl ?_
          refine ps_iload rfl rfl ?_
          refine ps_iff rfl (decide_eq_false (fun z => z w0)) ?_
          refine ps_aload rfl rfl ?_
          refine ps_aload rfl rfl ?_
          refine ps_gfr 9 0 rfl rfl rfl (by first | exact hS0 _ _ | exact hS1 _ _ | exact hS2 _ _ | exact hS3 _ _ | exact hS4 _ _ | exact hS5 _ _ | exact hS6 _ _ | exact hS7 _ _ | exact hS8 _ _ | exact hS9 _ _ | exact hS10 _ _ | exact hS11 _ _ | exact hS12 _ _ | exact hS13 _ _ | exact hS14 _ _ | exact hS15 _ _ | exact hS16 _ _ | exact hS17 _ _ | exact hS18 _ _ | exact hS19 _ _ | exact hS20 _ _ | exact hS21 _ _ | exact hS22 _ _ | exact hS23 _ _ | assumption | rfl) rfl (by first | assumption | rfl) ?_
          refine ps_iload rfl rfl ?_
          refine ps_iald (Y * (B.pl i).w + X) rfl (by first | exact hS0 _ _ | exact hS1 _ _ | exact hS2 _ _ | exact hS3 _ _ | exact hS4 _ _ | exact hS5 _ _ | exact hS6 _ _ | exact hS7 _ _ | exact hS8 _ _ | exact hS9 _ _ | exact hS10 _ _ | exact hS11 _ _ | exact hS12 _ _ | exact hS13 _ _ | exact hS14 _ _ | exact hS15 _ _ | exact hS16 _ _ | exact hS17 _ _ | exact hS18 _ _ | exact hS19 _ _ | exact hS20 _ _ | exact hS21 _ _ | exact hS22 _ _ | exact hS23 _ _ | assumption | rfl) rfl (rfl) (by omega) ?_
          rw [show ((I, L, g_R s, 306) : pm_H).1 (b + 17 + 4 * i + 1) (Y * (B.pl i).w + X) = (B.pl i).ho (Y * (B.pl i).w + X) from (hP.2.2.2.2 _ b2).1]
          refine pv_k rfl rfl rfl rfl rfl (by first | exact hS0 _ _ | exact hS1 _ _ | exact hS2 _ _ | exact hS3 _ _ | exact hS4 _ _ | exact hS5 _ _ | exact hS6 _ _ | exact hS7 _ _ | exact hS8 _ _ | exact hS9 _ _ | exact hS10 _ _ | exact hS11 _ _ | exact hS12 _ _ | exact hS13 _ _ | exact hS14 _ _ | exact hS15 _ _ | exact hS16 _ _ | exact hS17 _ _ | exact hS18 _ _ | exact hS19 _ _ | exact hS20 _ _ | exact hS21 _ _ | exact hS22 _ _ | exact hS23 _ _ | assumption | rfl) rfl ⟨Nat.zero_le _, Nat.zero_le _⟩ ?_
          refine B_answer ?_
          refine ps_iret rfl rfl ?_
          exact kk _ _ s (by rw [ea]; rfl) qS_u lkS_r (cF_st hb hF ok)
        · rw [if_neg w0] at ea
          by_cases w1 : w = 1
          · rw [if_pos w1] at ea
            refine ps_istore rfl rfl ?_
            refine ps_iload rfl rfl ?_
            refine ps_ift rfl (decide_eq_true w0) ?_
            refine ps_iload rfl rfl ?_
            refine pw_c rfl ?_
            refine ps_icmpf rfl (decide_eq_false (fun z => z w1)) ?_
            refine ps_aload rfl rfl ?_
            refine ps_aload rfl rfl ?_
            refine ps_gfr 9 1 rfl rfl rfl (by first | exact hS0 _ _ | exact hS1 _ _ | exact hS2 _ _ | exact hS3 _ _ | exact hS4 _ _ | exact hS5 _ _ | exact hS6 _ _ | exact hS7 _ _ | exact hS8 _ _ | exact hS9 _ _ | exact hS10 _ _ | exact hS11 _ _ | exact hS12 _ _ | exact hS13 _ _ | exact hS14 _ _ | exact hS15 _ _ | exact hS16 _ _ | exact hS17 _ _ | exact hS18 _ _ | exact hS19 _ _ | exact hS20 _ _ | exact hS21 _ _ | exact hS22 _ _ | exact hS23 _ _ | assumption | rfl) rfl (by first | assumption | rfl) ?_
            refine ps_iload rfl rfl ?_
            refine ps_iald (Y * (B.pl i).w + X) rfl (by first | exact hS0 _ _ | exact hS1 _ _ | exact hS2 _ _ | exact hS3 _ _ | exact hS4 _ _ | exact hS5 _ _ | exact hS6 _ _ | exact hS7 _ _ | exact hS8 _ _ | exact hS9 _ _ | exact hS10 _ _ | exact hS11 _ _ | exact hS12 _ _ | exact hS13 _ _ | exact hS14 _ _ | exact hS15 _ _ | exact hS16 _ _ | exact hS17 _ _ | exact hS18 _ _ | exact hS19 _ _ | exact hS20 _ _ | exact hS21 _ _ | exact hS22 _ _ | exact hS23 _ _ | assumption | rfl) rfl (rfl) (by omega) ?_
            rw [show ((I, L, g_R s, 306) : pm_H).1 (b + 17 + 4 * i + 2) (Y * (B.pl i).w + X) = (B.pl i).we (Y * (B.pl i).w + X) from (hP.2.2.2.2 _ b2).2]
            refine pv_k rfl rfl rfl rfl rfl (by first | exact hS0 _ _ | exact hS1 _ _ | exact hS2 _ _ | exact hS3 _ _ | exact hS4 _ _ | exact hS5 _ _ | exact hS6 _ _ | exact hS7 _ _ | exact hS8 _ _ | exact hS9 _ _ | exact hS10 _ _ | exact hS11 _ _ | exact hS12 _ _ | exact hS13 _ _ | exact hS14 _ _ | exact hS15 _ _ | exact hS16 _ _ | exact hS17 _ _ | exact hS18 _ _ | exact hS19 _ _ | exact hS20 _ _ | exact hS21 _ _ | exact hS22 _ _ | exact hS23 _ _ | assumption | rfl) rfl ⟨Nat.zero_le _, Nat.zero_le _⟩ ?_
            refine B_answer ?_
            refine ps_iret rfl rfl ?_
            exact kk _ _ s (by rw [ea]; rfl) qS_u lkS_r (cF_st hb hF ok)
          · rw [if_neg w1] at ea
            refine ps_istore rfl rfl ?_
            refine ps_iload rfl rfl ?_
            refine ps_ift rfl (decide_eq_true w0) ?_
            refine ps_iload rfl rfl ?_
            refine pw_c rfl ?_
            refine ps_icmpt rfl (decide_eq_true w1) ?_
            refine ps_aload rfl rfl ?_
            refine pv_k rfl rfl rfl rfl rfl (hS10 _ _) rfl ⟨Nat.zero_le _, Nat.zero_le _⟩ ?_
            refine B_knowSidesX hp hP (hF.2.2.1 i hi) (fun I1 a1 s1 => ?_)
            obtain ⟨f1, q1⟩ := cF_sk hb hF ok hi (Or.inl ⟨a1, s1⟩)
            refine ps_aload rfl rfl ?_
            refine ps_aload rfl rfl ?_
            refine ps_gfr 9 2 rfl rfl rfl (by first | exact hS0 _ _ | exact hS1 _ _ | exact hS2 _ _ | exact hS3 _ _ | exact hS4 _ _ | exact hS5 _ _ | exact hS6 _ _ | exact hS7 _ _ | exact hS8 _ _ | exact hS9 _ _ | exact hS10 _ _ | exact hS11 _ _ | exact hS12 _ _ | exact hS13 _ _ | exact hS14 _ _ | exact hS15 _ _ | exact hS16 _ _ | exact hS17 _ _ | exact hS18 _ _ | exact hS19 _ _ | exact hS20 _ _ | exact hS21 _ _ | exact hS22 _ _ | exact hS23 _ _ | assumption | rfl) rfl (by first | assumption | rfl) ?_
            refine ps_iload rfl rfl ?_
            refine ps_iald (Y * (B.pl i).w + X) rfl (by first | exact hS0 _ _ | exact hS1 _ _ | exact hS2 _ _ | exact hS3 _ _ | exact hS4 _ _ | exact hS5 _ _ | exact hS6 _ _ | exact hS7 _ _ | exact hS8 _ _ | exact hS9 _ _ | exact hS10 _ _ | exact hS11 _ _ | exact hS12 _ _ | exact hS13 _ _ | exact hS14 _ _ | exact hS15 _ _ | exact hS16 _ _ | exact hS17 _ _ | exact hS18 _ _ | exact hS19 _ _ | exact hS20 _ _ | exact hS21 _ _ | exact hS22 _ _ | exact hS23 _ _ | assumption | rfl) rfl (rfl) (by omega) ?_
            rw [show ((I1, L, g_R s, 306) : pm_H).1 (b + 17 + 4 * i + 3) (Y * (B.pl i).w + X) = sdF (B.pl i) (Y * (B.pl i).w + X) from s1.2.1 _ b2]
            refine pv_k rfl rfl rfl rfl rfl (by first | exact hS0 _ _ | exact hS1 _ _ | exact hS2 _ _ | exact hS3 _ _ | exact hS4 _ _ | exact hS5 _ _ | exact hS6 _ _ | exact hS7 _ _ | exact hS8 _ _ | exact hS9 _ _ | exact hS10 _ _ | exact hS11 _ _ | exact hS12 _ _ | exact hS13 _ _ | exact hS14 _ _ | exact hS15 _ _ | exact hS16 _ _ | exact hS17 _ _ | exact hS18 _ _ | exact hS19 _ _ | exact hS20 _ _ | exact hS21 _ _ | exact hS22 _ _ | exact hS23 _ _ | assumption | rfl) rfl ⟨Nat.zero_le _, Nat.zero_le _⟩ ?_
            refine B_answer ?_
            refine ps_iret rfl rfl ?_
            exact kk _ _ s (by rw [ea]; rfl) (qS_t q1 qS_u) lkS_r (cF_st hb f1 ok)
      · rw [decide_eq_false on]
        refine ps_iff rfl (by decide) ?_
        refine bad ?_ _
        unfold qCell
        rw [if_neg (fun z => z hw), plN_y hi ok.1 ei]
        exact if_pos on
    · refine ps_astoreN rfl rfl ?_
      refine ps_aloadN rfl rfl ?_
      refine ps_brr rfl rfl rfl rfl rfl rfl ?_
      refine bad ?_ _
      unfold qCell
      rw [if_neg (fun z => z hw), plN_n hn]
  by_cases hw1 : w.toInt < 0
  · refine ps_iload rfl rfl ?_
    refine ps_ift rfl (decide_eq_true ((i_lt _ _).mpr (by omega))) ?_
    exact no (by omega)
  · by_cases hw2 : 2 < w.toInt
    · refine ps_iload rfl rfl ?_
      refine ps_iff rfl (decide_eq_false (fun z => by have := (i_lt _ _).mp z; omega)) ?_
      refine ps_iload rfl rfl ?_
      refine pw_c rfl ?_
      refine ps_icmpf rfl (decide_eq_false (fun z => by have := (i_le _ _).mp z; omega)) ?_
      exact no (by omega)
    · refine ps_iload rfl rfl ?_
      refine ps_iff rfl (decide_eq_false (fun z => by have := (i_lt _ _).mp z; omega)) ?_
      refine ps_iload rfl rfl ?_
      refine pw_c rfl ?_
      refine ps_icmpt rfl (decide_eq_true ((i_le _ _).mpr (by omega))) ?_
      exact go (by omega)

end TU
