/-! BY HAND: the class's camera, exactly, fourth: what is found, filled (printed by wip/src/gen97zzl.py) -/
section TN
theorem ps_acpy {P : pm_P} {m pc nx : Nat} {lv r : List Value} {h : pm_H} {cs : Nat × Nat} {Q : List Value → pm_H → Prop} {a b c n0 n1 : Nat} (hc : pm_cod P m pc = some (.inr (.invokestatic 9000), nx)) (ha : pm_sh P h a = some (.inr (0, n0))) (hb : pm_sh P h b = some (.inr (0, n1))) (h0 : c ≤ n0) (h1 : c ≤ n1) (hb31 : c < 2147483648) (hr : (r.map Value.category).sum ≤ 8) (kk : pm_W P m nx lv r (pm_sA h b (va_cpy (h.1 a) (h.1 b) 0 0 c)) cs Q) : pm_W P m pc lv (.int (nI c) :: .int 0 :: .ref b :: .int 0 :: .ref a :: r) h cs Q := by
  have e1 : ¬ (nI c : Int32) < 0 := fun z => by
    have z := (i_lt _ _).mp z
    rw [nI_toInt (by omega)] at z
    have : (0 : Int32).toInt = 0 := rfl
    omega
  have e2 : (nI c).toNatClampNeg = c := nI_clamp (by omega)
  have e3 : (0 : Int32).toNatClampNeg = 0 := rfl
  refine ps_he hc rfl rfl rfl rfl rfl ?_ kk
  simp only [pm_he, ha, hb, if_true, e2, e3, Nat.zero_add]
  rw [if_pos ⟨by decide, by decide, e1, h0, h1, hr⟩]
theorem sA_o {I : Nat → Nat → Int32} {b a j : Nat} {f : Nat → Int32} (h : ¬ a = b) : pm_r I b f a j = I a j := by
  unfold pm_r
  rw [if_neg h]
theorem sA_s {I : Nat → Nat → Int32} {b n j : Nat} {f g : Nat → Int32} (h : j < n) : pm_r I b (va_cpy f g 0 0 n) b j = f j := by
  unfold pm_r
  rw [if_pos rfl, sb_cpy0 h]
variable {I I' J : Nat → Nat → Int32} {L : Nat → Nat → Int64} {s s' : Nat → Option Nat} {Q : List Value → pm_H → Prop} {ys : List Int32} {p e m t cm ci r : Nat} {P : sPl} {S : sS} {g : Nat → Int32} {h : pm_H}
/-- what a source at pl throws on the CELL i -/
def onF (P : sPl) (pl i : Nat) : Int32 := P.ho (cxy P.w P.v (((i % P.w : Nat) : Int) - ((pl % P.w : Nat) : Int)) (((i / P.w : Nat) : Int) - ((pl / P.w : Nat) : Int)))
theorem B_throwsOnX {a i : Nat} (hV : cV cm ci p e s P S I) (ha : a < 1000) (hi : i < 1000) (kk : Q [.int (onF P a i)] (I, L, g_R s, 306)) : pm_W (g_P ys) 154 0 [.ref cm, .int (nI a), .int (nI i), .retAddr 0, .retAddr 0] [] (I, L, g_R s, 306) (0, 0) Q := by
  obtain ⟨hc, hp, he, h1, h2, hP, hS, ok⟩ := hV
  have cg := isC_ge hc
  have el := isE_lt he
  have pl := isP_lt hp
  have w0 := hP.1.2.2.2.1
  have v0 := hP.1.2.2.2.2.1
  have n9 := hP.1.2.2.2.2.2
  have n0 : 0 < P.w * P.v := Nat.mul_pos w0 v0
  obtain ⟨hS0, hS1, hS2, hS3, hS4, hS5, hS6, hS7, hS8, hS9⟩ := cam_F (ys := ys) (s := s) hc
  obtain ⟨hR0, hR1, hR2, hR3, hR4, hR5, hR6, hR7, hR8, hR13, hR14⟩ := cam_R (s := s) hc
  rw [h1] at hR13
  rw [h2] at hR14
  obtain ⟨hS10, hS11, hS12, hS13, hR15, hR16, hR17⟩ := pl_F (ys := ys) (s := s) hp
  obtain ⟨hS14, hR18, hR19, hR20⟩ := en_F (ys := ys) (s := s) he
  have x1 := Nat.mod_lt i w0
  have x2 := Nat.mod_lt a w0
  have y1 : i / P.w ≤ i := Nat.div_le_self _ _
  have y2 : a / P.w ≤ a := Nat.div_le_self _ _
  obtain ⟨wb, vb⟩ := cP_b hP.1
  have x7 := Int.natCast_nonneg (i % P.w)
  have y7 := Int.natCast_nonneg (i / P.w)
  have x8 := Int.natCast_nonneg (a % P.w)
  have y8 := Int.natCast_nonneg (a / P.w)
  have t1 : (nI (i % P.w) - nI (a % P.w)).toInt = ((i % P.w : Nat) : Int) - ((a % P.w : Nat) : Int) := by
    rw [← iI_nat, ← iI_nat (a % P.w), iI_sub, iI_toInt (by omega) (by omega)]
  have t2 : (nI (i / P.w) - nI (a / P.w)).toInt = ((i / P.w : Nat) : Int) - ((a / P.w : Nat) : Int) := by
    rw [← iI_nat, ← iI_nat (a / P.w), iI_sub, iI_toInt (by omega) (by omega)]
  have cl := cxy_lt w0 v0 (((i % P.w : Nat) : Int) - ((a % P.w : Nat) : Int)) (((i / P.w : Nat) : Int) - ((a / P.w : Nat) : Int))
  refine ps_aload rfl rfl ?_
  refine ps_gfr 10 13 rfl rfl rfl (by first | exact hS0 _ _ | exact hS1 _ _ | exact hS2 _ _ | exact hS3 _ _ | exact hS4 _ _ | exact hS5 _ _ | exact hS6 _ _ | exact hS7 _ _ | exact hS8 _ _ | exact hS9 _ _ | exact hS10 _ _ | exact hS11 _ _ | exact hS12 _ _ | exact hS13 _ _ | exact hS14 _ _ | exact hS15 _ _ | exact hS16 _ _ | exact hS17 _ _ | exact hS18 _ _ | exact hS19 _ _ | exact hS20 _ _ | exact hS21 _ _ | exact hS22 _ _ | exact hS23 _ _ | assumption | rfl) rfl (by first | assumption | rfl) ?_
  refine ps_iload rfl rfl ?_
  refine pv_k rfl rfl rfl rfl rfl (hS10 _ _) rfl ⟨Nat.zero_le _, Nat.zero_le _⟩ ?_
  refine B_xOfX hp hP.1 (by omega) ?_
  refine ps_aload rfl rfl ?_
  refine ps_gfr 10 13 rfl rfl rfl (by first | exact hS0 _ _ | exact hS1 _ _ | exact hS2 _ _ | exact hS3 _ _ | exact hS4 _ _ | exact hS5 _ _ | exact hS6 _ _ | exact hS7 _ _ | exact hS8 _ _ | exact hS9 _ _ | exact hS10 _ _ | exact hS11 _ _ | exact hS12 _ _ | exact hS13 _ _ | exact hS14 _ _ | exact hS15 _ _ | exact hS16 _ _ | exact hS17 _ _ | exact hS18 _ _ | exact hS19 _ _ | exact hS20 _ _ | exact hS21 _ _ | exact hS22 _ _ | exact hS23 _ _ | assumption | rfl) rfl (by first | assumption | rfl) ?_
  refine ps_iload rfl rfl ?_
  refine pv_k rfl rfl rfl rfl rfl (hS10 _ _) rfl ⟨Nat.zero_le _, Nat.zero_le _⟩ ?_
  refine B_xOfX hp hP.1 (by omega) ?_
  refine ps_ar rfl rfl rfl rfl rfl ?_
  refine ps_istore rfl rfl ?_
  refine ps_aload rfl rfl ?_
  refine ps_gfr 10 13 rfl rfl rfl (by first | exact hS0 _ _ | exact hS1 _ _ | exact hS2 _ _ | exact hS3 _ _ | exact hS4 _ _ | exact hS5 _ _ | exact hS6 _ _ | exact hS7 _ _ | exact hS8 _ _ | exact hS9 _ _ | exact hS10 _ _ | exact hS11 _ _ | exact hS12 _ _ | exact hS13 _ _ | exact hS14 _ _ | exact hS15 _ _ | exact hS16 _ _ | exact hS17 _ _ | exact hS18 _ _ | exact hS19 _ _ | exact hS20 _ _ | exact hS21 _ _ | exact hS22 _ _ | exact hS23 _ _ | assumption | rfl) rfl (by first | assumption | rfl) ?_
  refine ps_iload rfl rfl ?_
  refine pv_k rfl rfl rfl rfl rfl (hS10 _ _) rfl ⟨Nat.zero_le _, Nat.zero_le _⟩ ?_
  refine B_yOfX hp hP.1 (by omega) ?_
  refine ps_aload rfl rfl ?_
  refine ps_gfr 10 13 rfl rfl rfl (by first | exact hS0 _ _ | exact hS1 _ _ | exact hS2 _ _ | exact hS3 _ _ | exact hS4 _ _ | exact hS5 _ _ | exact hS6 _ _ | exact hS7 _ _ | exact hS8 _ _ | exact hS9 _ _ | exact hS10 _ _ | exact hS11 _ _ | exact hS12 _ _ | exact hS13 _ _ | exact hS14 _ _ | exact hS15 _ _ | exact hS16 _ _ | exact hS17 _ _ | exact hS18 _ _ | exact hS19 _ _ | exact hS20 _ _ | exact hS21 _ _ | exact hS22 _ _ | exact hS23 _ _ | assumption | rfl) rfl (by first | assumption | rfl) ?_
  refine ps_iload rfl rfl ?_
  refine pv_k rfl rfl rfl rfl rfl (hS10 _ _) rfl ⟨Nat.zero_le _, Nat.zero_le _⟩ ?_
  refine B_yOfX hp hP.1 (by omega) ?_
  refine ps_ar rfl rfl rfl rfl rfl ?_
  refine ps_istore rfl rfl ?_
  refine ps_aload rfl rfl ?_
  refine ps_gfr 10 13 rfl rfl rfl (by first | exact hS0 _ _ | exact hS1 _ _ | exact hS2 _ _ | exact hS3 _ _ | exact hS4 _ _ | exact hS5 _ _ | exact hS6 _ _ | exact hS7 _ _ | exact hS8 _ _ | exact hS9 _ _ | exact hS10 _ _ | exact hS11 _ _ | exact hS12 _ _ | exact hS13 _ _ | exact hS14 _ _ | exact hS15 _ _ | exact hS16 _ _ | exact hS17 _ _ | exact hS18 _ _ | exact hS19 _ _ | exact hS20 _ _ | exact hS21 _ _ | exact hS22 _ _ | exact hS23 _ _ | assumption | rfl) rfl (by first | assumption | rfl) ?_
  refine ps_gfr 9 0 rfl rfl rfl (by first | exact hS0 _ _ | exact hS1 _ _ | exact hS2 _ _ | exact hS3 _ _ | exact hS4 _ _ | exact hS5 _ _ | exact hS6 _ _ | exact hS7 _ _ | exact hS8 _ _ | exact hS9 _ _ | exact hS10 _ _ | exact hS11 _ _ | exact hS12 _ _ | exact hS13 _ _ | exact hS14 _ _ | exact hS15 _ _ | exact hS16 _ _ | exact hS17 _ _ | exact hS18 _ _ | exact hS19 _ _ | exact hS20 _ _ | exact hS21 _ _ | exact hS22 _ _ | exact hS23 _ _ | assumption | rfl) rfl (by first | assumption | rfl) ?_
  refine ps_aload rfl rfl ?_
  refine ps_gfr 10 13 rfl rfl rfl (by first | exact hS0 _ _ | exact hS1 _ _ | exact hS2 _ _ | exact hS3 _ _ | exact hS4 _ _ | exact hS5 _ _ | exact hS6 _ _ | exact hS7 _ _ | exact hS8 _ _ | exact hS9 _ _ | exact hS10 _ _ | exact hS11 _ _ | exact hS12 _ _ | exact hS13 _ _ | exact hS14 _ _ | exact hS15 _ _ | exact hS16 _ _ | exact hS17 _ _ | exact hS18 _ _ | exact hS19 _ _ | exact hS20 _ _ | exact hS21 _ _ | exact hS22 _ _ | exact hS23 _ _ | assumption | rfl) rfl (by first | assumption | rfl) ?_
  refine ps_iload rfl rfl ?_
  refine ps_iload rfl rfl ?_
  refine pv_k rfl rfl rfl rfl rfl (hS10 _ _) rfl ⟨Nat.zero_le _, Nat.zero_le _⟩ ?_
  refine B_indexOfX hp hP.1 _ _ ?_
  rw [t1, t2]
  refine ps_iald (cxy P.w P.v (((i % P.w : Nat) : Int) - ((a % P.w : Nat) : Int)) (((i / P.w : Nat) : Int) - ((a / P.w : Nat) : Int))) rfl (by first | exact hS0 _ _ | exact hS1 _ _ | exact hS2 _ _ | exact hS3 _ _ | exact hS4 _ _ | exact hS5 _ _ | exact hS6 _ _ | exact hS7 _ _ | exact hS8 _ _ | exact hS9 _ _ | exact hS10 _ _ | exact hS11 _ _ | exact hS12 _ _ | exact hS13 _ _ | exact hS14 _ _ | exact hS15 _ _ | exact hS16 _ _ | exact hS17 _ _ | exact hS18 _ _ | exact hS19 _ _ | exact hS20 _ _ | exact hS21 _ _ | exact hS22 _ _ | exact hS23 _ _ | assumption | rfl) rfl (rfl) (by omega) ?_
  rw [show ((I, L, g_R s, 306) : pm_H).1 (p + 1) (cxy P.w P.v (((i % P.w : Nat) : Int) - ((a % P.w : Nat) : Int)) (((i / P.w : Nat) : Int) - ((a / P.w : Nat) : Int))) = onF P a i from (hP.2.2.2.2 _ cl).1]
  refine ps_iret rfl rfl ?_
  exact kk
/-- a LOST CELL on which a source at pl throws -/
abbrev loP (P : sPl) (S : sS) (pl i : Nat) : Prop := lostF P S i = 1 ∧ onF P pl i = 1
/-- made, behind one that was found -/
def tkF (P : sPl) (S : sS) (pl : Nat) (c : Int32) (f : Nat → Int32) (j : Nat) : Int32 := f j + -c * sdF P (mrF P.w P.v pl j) + suI (fun i => if loP P S pl i then c * P.we (mrF P.w P.v i j) else 0) (P.w * P.v)
def ltF (P : sPl) (S : sS) (pl : Nat) : Int32 := hoP P - suI (fun i => if loP P S pl i then 1 else 0) (P.w * P.v)
theorem B_takeFromMadeX {a : Nat} {c : Int32} (hV : cV cm ci p e s P S I) (hk : cSk I p P) (hl : ∀ i, i < P.w * P.v → I (cm + 1) i = lostF P S i) (hg : ∀ i, i < P.w * P.v → I (cm + 6) i = g i) (ha : a < P.w * P.v) (kk : ∀ I', (∀ a j, ¬ a = cm + 6 → I' a j = I a j) → (∀ i, i < P.w * P.v → I' (cm + 6) i = tkF P S a c g i) → Q [.int (ltF P S a)] (I', L, g_R s, 306)) : pm_W (g_P ys) 153 0 [.ref cm, .int (nI a), .int c, .retAddr 0, .retAddr 0] [] (I, L, g_R s, 306) (0, 0) Q := by
  have hV0 := hV
  obtain ⟨hc, hp, he, h1, h2, hP, hS, ok⟩ := hV
  have cg := isC_ge hc
  have el := isE_lt he
  have pl := isP_lt hp
  have w0 := hP.1.2.2.2.1
  have v0 := hP.1.2.2.2.2.1
  have n9 := hP.1.2.2.2.2.2
  have n0 : 0 < P.w * P.v := Nat.mul_pos w0 v0
  obtain ⟨hS0, hS1, hS2, hS3, hS4, hS5, hS6, hS7, hS8, hS9⟩ := cam_F (ys := ys) (s := s) hc
  obtain ⟨hR0, hR1, hR2, hR3, hR4, hR5, hR6, hR7, hR8, hR13, hR14⟩ := cam_R (s := s) hc
  rw [h1] at hR13
  rw [h2] at hR14
  obtain ⟨hS10, hS11, hS12, hS13, hR15, hR16, hR17⟩ := pl_F (ys := ys) (s := s) hp
  obtain ⟨hS14, hR18, hR19, hR20⟩ := en_F (ys := ys) (s := s) he
  have hh : I p 7 = hoP P := hP.2.2.1
  have loop : ∀ d i, i + d = P.w * P.v → ∀ I', (∀ a j, ¬ a = cm + 6 → I' a j = I a j) → (∀ j, j < P.w * P.v → I' (cm + 6) j = g j + -c * sdF P (mrF P.w P.v a j) + suI (fun i => if loP P S a i then c * P.we (mrF P.w P.v i j) else 0) i) → pm_W (g_P ys) 153 32 [.ref cm, .int (nI a), .int c, .int (hoP P - suI (fun i => if loP P S a i then 1 else 0) i), .int (nI i)] [] (I', L, g_R s, 306) (0, 0) Q := by
    intro d
    induction d with
    | zero =>
      intro i hi I' g1 g2
      refine ps_iload rfl rfl ?_
      refine ps_aload rfl rfl ?_
      refine ps_gfr 10 13 rfl rfl rfl (by first | exact hS0 _ _ | exact hS1 _ _ | exact hS2 _ _ | exact hS3 _ _ | exact hS4 _ _ | exact hS5 _ _ | exact hS6 _ _ | exact hS7 _ _ | exact hS8 _ _ | exact hS9 _ _ | exact hS10 _ _ | exact hS11 _ _ | exact hS12 _ _ | exact hS13 _ _ | exact hS14 _ _ | exact hS15 _ _ | exact hS16 _ _ | exact hS17 _ _ | exact hS18 _ _ | exact hS19 _ _ | exact hS20 _ _ | exact hS21 _ _ | exact hS22 _ _ | exact hS23 _ _ | assumption | rfl) rfl (by first | assumption | rfl) ?_
      refine ps_gfi 9 6 rfl rfl rfl (by first | exact hS0 _ _ | exact hS1 _ _ | exact hS2 _ _ | exact hS3 _ _ | exact hS4 _ _ | exact hS5 _ _ | exact hS6 _ _ | exact hS7 _ _ | exact hS8 _ _ | exact hS9 _ _ | exact hS10 _ _ | exact hS11 _ _ | exact hS12 _ _ | exact hS13 _ _ | exact hS14 _ _ | exact hS15 _ _ | exact hS16 _ _ | exact hS17 _ _ | exact hS18 _ _ | exact hS19 _ _ | exact hS20 _ _ | exact hS21 _ _ | exact hS22 _ _ | exact hS23 _ _ | assumption | rfl) rfl ?_
      rw [show ((I', L, g_R s, 306) : pm_H).1 p 6 = nI (P.w * P.v) from (g1 _ _ (by omega)).trans hP.1.2.2.1]
      refine ps_icmpt rfl (decide_eq_true (nI_le (by omega) (by omega))) ?_
      refine ps_iload rfl rfl ?_
      refine ps_iret rfl rfl ?_
      have hi : i = P.w * P.v := by omega
      subst hi
      exact kk I' g1 g2
    | succ d ih =>
      intro i hi I' g1 g2
      have P' := cP_o hP.1 (fun j => g1 p j (by omega))
      have V' : cV cm ci p e s P S I' := cV_o hV0 (fun a j z => g1 a j (by omega))
      have nx : ¬ loP P S a i → pm_W (g_P ys) 153 90 [.ref cm, .int (nI a), .int c, .int (hoP P - suI (fun i => if loP P S a i then 1 else 0) i), .int (nI i)] [] (I', L, g_R s, 306) (0, 0) Q := by
        intro z
        refine ps_iinc rfl rfl ?_
        refine ps_goto rfl ?_
        rw [show nI i + Int32.ofInt 1 = nI (i + 1) from nI_1 i]
        have y := ih (i + 1) (by omega) I' g1 (fun j hj => by rw [g2 j hj, suI_s, if_neg z, Int32.add_zero])
        rw [suI_s, if_neg z, Int32.add_zero] at y
        exact y
      refine ps_iload rfl rfl ?_
      refine ps_aload rfl rfl ?_
      refine ps_gfr 10 13 rfl rfl rfl (by first | exact hS0 _ _ | exact hS1 _ _ | exact hS2 _ _ | exact hS3 _ _ | exact hS4 _ _ | exact hS5 _ _ | exact hS6 _ _ | exact hS7 _ _ | exact hS8 _ _ | exact hS9 _ _ | exact hS10 _ _ | exact hS11 _ _ | exact hS12 _ _ | exact hS13 _ _ | exact hS14 _ _ | exact hS15 _ _ | exact hS16 _ _ | exact hS17 _ _ | exact hS18 _ _ | exact hS19 _ _ | exact hS20 _ _ | exact hS21 _ _ | exact hS22 _ _ | exact hS23 _ _ | assumption | rfl) rfl (by first | assumption | rfl) ?_
      refine ps_gfi 9 6 rfl rfl rfl (by first | exact hS0 _ _ | exact hS1 _ _ | exact hS2 _ _ | exact hS3 _ _ | exact hS4 _ _ | exact hS5 _ _ | exact hS6 _ _ | exact hS7 _ _ | exact hS8 _ _ | exact hS9 _ _ | exact hS10 _ _ | exact hS11 _ _ | exact hS12 _ _ | exact hS13 _ _ | exact hS14 _ _ | exact hS15 _ _ | exact hS16 _ _ | exact hS17 _ _ | exact hS18 _ _ | exact hS19 _ _ | exact hS20 _ _ | exact hS21 _ _ | exact hS22 _ _ | exact hS23 _ _ | assumption | rfl) rfl ?_
      rw [show ((I', L, g_R s, 306) : pm_H).1 p 6 = nI (P.w * P.v) from P'.2.2.1]
      refine ps_icmpf rfl (decide_eq_false (nI_ge (by omega) (by omega))) ?_
      refine ps_aload rfl rfl ?_
      refine ps_gfr 10 0 rfl rfl rfl (by first | exact hS0 _ _ | exact hS1 _ _ | exact hS2 _ _ | exact hS3 _ _ | exact hS4 _ _ | exact hS5 _ _ | exact hS6 _ _ | exact hS7 _ _ | exact hS8 _ _ | exact hS9 _ _ | exact hS10 _ _ | exact hS11 _ _ | exact hS12 _ _ | exact hS13 _ _ | exact hS14 _ _ | exact hS15 _ _ | exact hS16 _ _ | exact hS17 _ _ | exact hS18 _ _ | exact hS19 _ _ | exact hS20 _ _ | exact hS21 _ _ | exact hS22 _ _ | exact hS23 _ _ | assumption | rfl) rfl (by first | assumption | rfl) ?_
      refine ps_iload rfl rfl ?_
      refine ps_iald (i) rfl (by first | exact hS0 _ _ | exact hS1 _ _ | exact hS2 _ _ | exact hS3 _ _ | exact hS4 _ _ | exact hS5 _ _ | exact hS6 _ _ | exact hS7 _ _ | exact hS8 _ _ | exact hS9 _ _ | exact hS10 _ _ | exact hS11 _ _ | exact hS12 _ _ | exact hS13 _ _ | exact hS14 _ _ | exact hS15 _ _ | exact hS16 _ _ | exact hS17 _ _ | exact hS18 _ _ | exact hS19 _ _ | exact hS20 _ _ | exact hS21 _ _ | exact hS22 _ _ | exact hS23 _ _ | assumption | rfl) rfl (rfl) (by omega) ?_
      rw [show ((I', L, g_R s, 306) : pm_H).1 (cm + 1) i = lostF P S i from (g1 _ _ (by omega)).trans (hl i (by omega))]
      by_cases e1 : lostF P S i = 1
      · refine pw_c rfl ?_
        refine ps_icmpf rfl (decide_eq_false (fun z => z e1)) ?_
        refine ps_aload rfl rfl ?_
        refine ps_iload rfl rfl ?_
        refine ps_iload rfl rfl ?_
        refine pv_k rfl rfl rfl rfl rfl (hS0 _ _) rfl ⟨Nat.zero_le _, Nat.zero_le _⟩ ?_
        refine B_throwsOnX V' (by omega) (by omega) ?_
        by_cases e2 : onF P a i = 1
        · have z : loP P S a i := ⟨e1, e2⟩
          refine pw_c rfl ?_
          refine ps_icmpf rfl (decide_eq_false (fun z => z e2)) ?_
          refine ps_aload rfl rfl ?_
          refine ps_gfr 10 13 rfl rfl rfl (by first | exact hS0 _ _ | exact hS1 _ _ | exact hS2 _ _ | exact hS3 _ _ | exact hS4 _ _ | exact hS5 _ _ | exact hS6 _ _ | exact hS7 _ _ | exact hS8 _ _ | exact hS9 _ _ | exact hS10 _ _ | exact hS11 _ _ | exact hS12 _ _ | exact hS13 _ _ | exact hS14 _ _ | exact hS15 _ _ | exact hS16 _ _ | exact hS17 _ _ | exact hS18 _ _ | exact hS19 _ _ | exact hS20 _ _ | exact hS21 _ _ | exact hS22 _ _ | exact hS23 _ _ | assumption | rfl) rfl (by first | assumption | rfl) ?_
          refine ps_aload rfl rfl ?_
          refine ps_gfr 10 5 rfl rfl rfl (by first | exact hS0 _ _ | exact hS1 _ _ | exact hS2 _ _ | exact hS3 _ _ | exact hS4 _ _ | exact hS5 _ _ | exact hS6 _ _ | exact hS7 _ _ | exact hS8 _ _ | exact hS9 _ _ | exact hS10 _ _ | exact hS11 _ _ | exact hS12 _ _ | exact hS13 _ _ | exact hS14 _ _ | exact hS15 _ _ | exact hS16 _ _ | exact hS17 _ _ | exact hS18 _ _ | exact hS19 _ _ | exact hS20 _ _ | exact hS21 _ _ | exact hS22 _ _ | exact hS23 _ _ | assumption | rfl) rfl (by first | assumption | rfl) ?_
          refine ps_aload rfl rfl ?_
          refine ps_gfr 10 13 rfl rfl rfl (by first | exact hS0 _ _ | exact hS1 _ _ | exact hS2 _ _ | exact hS3 _ _ | exact hS4 _ _ | exact hS5 _ _ | exact hS6 _ _ | exact hS7 _ _ | exact hS8 _ _ | exact hS9 _ _ | exact hS10 _ _ | exact hS11 _ _ | exact hS12 _ _ | exact hS13 _ _ | exact hS14 _ _ | exact hS15 _ _ | exact hS16 _ _ | exact hS17 _ _ | exact hS18 _ _ | exact hS19 _ _ | exact hS20 _ _ | exact hS21 _ _ | exact hS22 _ _ | exact hS23 _ _ | assumption | rfl) rfl (by first | assumption | rfl) ?_
          refine ps_gfr 9 1 rfl rfl rfl (by first | exact hS0 _ _ | exact hS1 _ _ | exact hS2 _ _ | exact hS3 _ _ | exact hS4 _ _ | exact hS5 _ _ | exact hS6 _ _ | exact hS7 _ _ | exact hS8 _ _ | exact hS9 _ _ | exact hS10 _ _ | exact hS11 _ _ | exact hS12 _ _ | exact hS13 _ _ | exact hS14 _ _ | exact hS15 _ _ | exact hS16 _ _ | exact hS17 _ _ | exact hS18 _ _ | exact hS19 _ _ | exact hS20 _ _ | exact hS21 _ _ | exact hS22 _ _ | exact hS23 _ _ | assumption | rfl) rfl (by first | assumption | rfl) ?_
          refine ps_iload rfl rfl ?_
          refine ps_iload rfl rfl ?_
          refine pv_k rfl rfl rfl rfl rfl (hS10 _ _) rfl ⟨Nat.zero_le _, Nat.zero_le _⟩ ?_
          refine B_addMirroredX hp P' hS6 hS12 (by omega) (by omega) (by omega) c (fun I2 k1 k2 => ?_)
          refine ps_iinc rfl rfl ?_
          refine ps_iinc rfl rfl ?_
          refine ps_goto rfl ?_
          rw [show nI i + Int32.ofInt 1 = nI (i + 1) from nI_1 i]
          have y := ih (i + 1) (by omega) I2 (fun a j z => (k1 a j (by omega)).trans (g1 a j z)) (fun j hj => by
            have ml : mrF P.w P.v i j < P.w * P.v := cxy_lt w0 v0 _ _
            rw [k2 j hj, g2 j hj, suI_s, if_pos z, g1 _ _ (by omega), (hP.2.2.2.2 _ ml).2, Int32.add_assoc])
          rw [suI_s, if_pos z] at y
          have em : hoP P - suI (fun i => if loP P S a i then 1 else 0) i + Int32.ofInt (-1) = hoP P - (suI (fun i => if loP P S a i then 1 else 0) i + 1) := by
            have h : ∀ x y : Int32, x - y + Int32.ofInt (-1) = x - (y + 1) := fun x y => by
              rw [iI_of x, iI_of y, show (Int32.ofInt (-1)) = iI (-1) from rfl, show (1 : Int32) = iI 1 from rfl, iI_sub, iI_add, iI_add, iI_sub]
              congr 1
              omega
            exact h _ _
          rw [← em] at y
          exact y
        · refine pw_c rfl ?_
          refine ps_icmpt rfl (decide_eq_true e2) ?_
          exact nx (fun z => e2 z.2)
      · refine pw_c rfl ?_
        refine ps_icmpt rfl (decide_eq_true e1) ?_
        exact nx (fun z => e1 z.1)
  refine ps_aload rfl rfl ?_
  refine ps_gfr 10 13 rfl rfl rfl (by first | exact hS0 _ _ | exact hS1 _ _ | exact hS2 _ _ | exact hS3 _ _ | exact hS4 _ _ | exact hS5 _ _ | exact hS6 _ _ | exact hS7 _ _ | exact hS8 _ _ | exact hS9 _ _ | exact hS10 _ _ | exact hS11 _ _ | exact hS12 _ _ | exact hS13 _ _ | exact hS14 _ _ | exact hS15 _ _ | exact hS16 _ _ | exact hS17 _ _ | exact hS18 _ _ | exact hS19 _ _ | exact hS20 _ _ | exact hS21 _ _ | exact hS22 _ _ | exact hS23 _ _ | assumption | rfl) rfl (by first | assumption | rfl) ?_
  refine ps_gfi 9 7 rfl rfl rfl (by first | exact hS0 _ _ | exact hS1 _ _ | exact hS2 _ _ | exact hS3 _ _ | exact hS4 _ _ | exact hS5 _ _ | exact hS6 _ _ | exact hS7 _ _ | exact hS8 _ _ | exact hS9 _ _ | exact hS10 _ _ | exact hS11 _ _ | exact hS12 _ _ | exact hS13 _ _ | exact hS14 _ _ | exact hS15 _ _ | exact hS16 _ _ | exact hS17 _ _ | exact hS18 _ _ | exact hS19 _ _ | exact hS20 _ _ | exact hS21 _ _ | exact hS22 _ _ | exact hS23 _ _ | assumption | rfl) rfl ?_
  rw [show ((I, L, g_R s, 306) : pm_H).1 p 7 = hoP P from hh]
  refine ps_istore rfl rfl ?_
  refine ps_aload rfl rfl ?_
  refine ps_gfr 10 13 rfl rfl rfl (by first | exact hS0 _ _ | exact hS1 _ _ | exact hS2 _ _ | exact hS3 _ _ | exact hS4 _ _ | exact hS5 _ _ | exact hS6 _ _ | exact hS7 _ _ | exact hS8 _ _ | exact hS9 _ _ | exact hS10 _ _ | exact hS11 _ _ | exact hS12 _ _ | exact hS13 _ _ | exact hS14 _ _ | exact hS15 _ _ | exact hS16 _ _ | exact hS17 _ _ | exact hS18 _ _ | exact hS19 _ _ | exact hS20 _ _ | exact hS21 _ _ | exact hS22 _ _ | exact hS23 _ _ | assumption | rfl) rfl (by first | assumption | rfl) ?_
  refine ps_aload rfl rfl ?_
  refine ps_gfr 10 5 rfl rfl rfl (by first | exact hS0 _ _ | exact hS1 _ _ | exact hS2 _ _ | exact hS3 _ _ | exact hS4 _ _ | exact hS5 _ _ | exact hS6 _ _ | exact hS7 _ _ | exact hS8 _ _ | exact hS9 _ _ | exact hS10 _ _ | exact hS11 _ _ | exact hS12 _ _ | exact hS13 _ _ | exact hS14 _ _ | exact hS15 _ _ | exact hS16 _ _ | exact hS17 _ _ | exact hS18 _ _ | exact hS19 _ _ | exact hS20 _ _ | exact hS21 _ _ | exact hS22 _ _ | exact hS23 _ _ | assumption | rfl) rfl (by first | assumption | rfl) ?_
  refine ps_aload rfl rfl ?_
  refine ps_gfr 10 13 rfl rfl rfl (by first | exact hS0 _ _ | exact hS1 _ _ | exact hS2 _ _ | exact hS3 _ _ | exact hS4 _ _ | exact hS5 _ _ | exact hS6 _ _ | exact hS7 _ _ | exact hS8 _ _ | exact hS9 _ _ | exact hS10 _ _ | exact hS11 _ _ | exact hS12 _ _ | exact hS13 _ _ | exact hS14 _ _ | exact hS15 _ _ | exact hS16 _ _ | exact hS17 _ _ | exact hS18 _ _ | exact hS19 _ _ | exact hS20 _ _ | exact hS21 _ _ | exact hS22 _ _ | exact hS23 _ _ | assumption | rfl) rfl (by first | assumption | rfl) ?_
  refine ps_gfr 9 2 rfl rfl rfl (by first | exact hS0 _ _ | exact hS1 _ _ | exact hS2 _ _ | exact hS3 _ _ | exact hS4 _ _ | exact hS5 _ _ | exact hS6 _ _ | exact hS7 _ _ | exact hS8 _ _ | exact hS9 _ _ | exact hS10 _ _ | exact hS11 _ _ | exact hS12 _ _ | exact hS13 _ _ | exact hS14 _ _ | exact hS15 _ _ | exact hS16 _ _ | exact hS17 _ _ | exact hS18 _ _ | exact hS19 _ _ | exact hS20 _ _ | exact hS21 _ _ | exact hS22 _ _ | exact hS23 _ _ | assumption | rfl) rfl (by first | assumption | rfl) ?_
  refine ps_iload rfl rfl ?_
  refine ps_iload rfl rfl ?_
  refine ps_ar rfl rfl rfl rfl rfl ?_
  refine pv_k rfl rfl rfl rfl rfl (hS10 _ _) rfl ⟨Nat.zero_le _, Nat.zero_le _⟩ ?_
  refine B_addMirroredX hp hP.1 hS6 hS13 (by omega) (by omega) ha (-c) (fun I1 k1 k2 => ?_)
  refine pw_c rfl ?_
  refine ps_istore rfl rfl ?_
  have y := loop (P.w * P.v) 0 (by omega) I1 (fun a j z => k1 a j (by omega)) (fun j hj => by
    have ml : mrF P.w P.v a j < P.w * P.v := cxy_lt w0 v0 _ _
    rw [k2 j hj, hg j hj, hk.2.1 _ ml]
    exact (Int32.add_zero _).symm)
  rw [show hoP P - suI (fun i => if loP P S a i then 1 else 0) 0 = hoP P from Int32.sub_zero _] at y
  exact y
/-- what is found: made, light; place, counts; how many -/
def fnS (P : sPl) (S : sS) : Nat → (Nat → Int32) × Int32
  | 0 => (decF P (shadF P S), liS P S)
  | k + 1 => (tkF P S (pgF (fnS P S k).1 (P.w * P.v)) (rsF P ((fnS P S k).1 (pgF (fnS P S k).1 (P.w * P.v))) (flF P S (fnS P S k).2)) (fnS P S k).1, (fnS P S k).2 - rsF P ((fnS P S k).1 (pgF (fnS P S k).1 (P.w * P.v))) (flF P S (fnS P S k).2) * ltF P S (pgF (fnS P S k).1 (P.w * P.v)))
def fnP (P : sPl) (S : sS) (k : Nat) : Nat := pgF (fnS P S k).1 (P.w * P.v)
def fnC (P : sPl) (S : sS) (k : Nat) : Int32 := rsF P ((fnS P S k).1 (fnP P S k)) (flF P S (fnS P S k).2)
def fnD (P : sPl) (S : sS) : Nat → Nat → Nat
  | 0, k => k
  | d + 1, k => if (fnC P S k).toInt ≤ 0 then k else fnD P S d (k + 1)
def fdN (P : sPl) (S : sS) : Nat := fnD P S 8 0
theorem fnS_s (k : Nat) : fnS P S (k + 1) = (tkF P S (fnP P S k) (fnC P S k) (fnS P S k).1, (fnS P S k).2 - fnC P S k * ltF P S (fnP P S k)) := rfl
theorem tkF_c {f f' : Nat → Int32} {a : Nat} {c : Int32} (h : ∀ i, i < P.w * P.v → f i = f' i) (j : Nat) (hj : j < P.w * P.v) : tkF P S a c f j = tkF P S a c f' j := by
  unfold tkF
  rw [h j hj]
/-- what is sought, if it is -/
def cSg (cm : Nat) (P : sPl) (S : sS) (I : Nat → Nat → Int32) : Prop := I cm 17 = 1 ∧ I cm 9 = nI (fdN P S) ∧ ∀ k, k < fdN P S → I (cm + 8) k = nI (fnP P S k) ∧ I (cm + 9) k = fnC P S k
def cSh (cm : Nat) (P : sPl) (S : sS) (I : Nat → Nat → Int32) : Prop := I cm 17 = 0 ∨ (cSg cm P S I ∧ cDk cm P S I)
theorem fnD_le : ∀ {d k : Nat}, k ≤ fnD P S d k ∧ fnD P S d k ≤ k + d
  | 0, k => ⟨Nat.le_refl _, Nat.le_refl _⟩
  | d + 1, k => by
    rw [fnD]
    have := fnD_le (d := d) (k := k + 1)
    split <;> omega
theorem fdN_le : fdN P S ≤ 8 := by
  have := fnD_le (P := P) (S := S) (d := 8) (k := 0)
  unfold fdN
  omega
/-- where seeking writes -/
def skR (cm : Nat) (I I' : Nat → Nat → Int32) : Prop := ∀ a j : Nat, ¬ a = cm + 5 → ¬ a = cm + 6 → ¬ a = cm + 8 → ¬ a = cm + 9 → ¬ (a = cm ∧ (j = 9 ∨ j = 16 ∨ j = 17)) → I' a j = I a j
theorem B_seekSourcesX (hV : cV cm ci p e s P S I) (hk : cSk I p P) (ha : cAm cm P S I) (hd : cDd cm P S I) (hs : cSh cm P S I) (kk : ∀ I', skR cm I I' → cSg cm P S I' → cDk cm P S I' → Q [] (I', L, g_R s, 306)) : pm_W (g_P ys) 152 0 [.ref cm, .retAddr 0, .retAddr 0, .retAddr 0, .retAddr 0] [] (I, L, g_R s, 306) (0, 0) Q := by
  have hV0 := hV
  obtain ⟨hc, hp, he, h1, h2, hP, hS, ok⟩ := hV
  have cg := isC_ge hc
  have el := isE_lt he
  have pl := isP_lt hp
  have w0 := hP.1.2.2.2.1
  have v0 := hP.1.2.2.2.2.1
  have n9 := hP.1.2.2.2.2.2
  have n0 : 0 < P.w * P.v := Nat.mul_pos w0 v0
  obtain ⟨hS0, hS1, hS2, hS3, hS4, hS5, hS6, hS7, hS8, hS9⟩ := cam_F (ys := ys) (s := s) hc
  obtain ⟨hR0, hR1, hR2, hR3, hR4, hR5, hR6, hR7, hR8, hR13, hR14⟩ := cam_R (s := s) hc
  rw [h1] at hR13
  rw [h2] at hR14
  obtain ⟨hS10, hS11, hS12, hS13, hR15, hR16, hR17⟩ := pl_F (ys := ys) (s := s) hp
  obtain ⟨hS14, hR18, hR19, hR20⟩ := en_F (ys := ys) (s := s) he
  rcases hs with hs | hs
  · refine ps_aload rfl rfl ?_
    refine ps_gfi 10 17 rfl rfl rfl (by first | exact hS0 _ _ | exact hS1 _ _ | exact hS2 _ _ | exact hS3 _ _ | exact hS4 _ _ | exact hS5 _ _ | exact hS6 _ _ | exact hS7 _ _ | exact hS8 _ _ | exact hS9 _ _ | exact hS10 _ _ | exact hS11 _ _ | exact hS12 _ _ | exact hS13 _ _ | exact hS14 _ _ | exact hS15 _ _ | exact hS16 _ _ | exact hS17 _ _ | exact hS18 _ _ | exact hS19 _ _ | exact hS20 _ _ | exact hS21 _ _ | exact hS22 _ _ | exact hS23 _ _ | assumption | rfl) rfl ?_
    rw [show ((I, L, g_R s, 306) : pm_H).1 cm 17 = 0 from hs]
    refine ps_ift rfl (rfl) ?_
    refine ps_aload rfl rfl ?_
    refine pw_c rfl ?_
    refine ps_pfz 10 17 rfl rfl rfl (by first | exact hS0 _ _ | exact hS1 _ _ | exact hS2 _ _ | exact hS3 _ _ | exact hS4 _ _ | exact hS5 _ _ | exact hS6 _ _ | exact hS7 _ _ | exact hS8 _ _ | exact hS9 _ _ | exact hS10 _ _ | exact hS11 _ _ | exact hS12 _ _ | exact hS13 _ _ | exact hS14 _ _ | exact hS15 _ _ | exact hS16 _ _ | exact hS17 _ _ | exact hS18 _ _ | exact hS19 _ _ | exact hS20 _ _ | exact hS21 _ _ | exact hS22 _ _ | exact hS23 _ _ | assumption | rfl) rfl (Or.inr rfl) ?_
    refine ps_aload rfl rfl ?_
    refine pw_c rfl ?_
    refine ps_pfi 10 9 rfl rfl rfl (by first | exact hS0 _ _ | exact hS1 _ _ | exact hS2 _ _ | exact hS3 _ _ | exact hS4 _ _ | exact hS5 _ _ | exact hS6 _ _ | exact hS7 _ _ | exact hS8 _ _ | exact hS9 _ _ | exact hS10 _ _ | exact hS11 _ _ | exact hS12 _ _ | exact hS13 _ _ | exact hS14 _ _ | exact hS15 _ _ | exact hS16 _ _ | exact hS17 _ _ | exact hS18 _ _ | exact hS19 _ _ | exact hS20 _ _ | exact hS21 _ _ | exact hS22 _ _ | exact hS23 _ _ | assumption | rfl) rfl ?_
    refine ps_aload rfl rfl ?_
    have o1 : ∀ a j, ¬ (a = cm ∧ (j = 9 ∨ j = 17)) → pm_u (pm_u I cm 17 1) cm 9 0 a j = I a j := fun a j z => (pu_x (by omega)).trans (pu_x (by omega))
    have i1 : pm_u (pm_u I cm 17 1) cm 9 0 cm 17 = 1 := (pu_n (by decide)).trans pu_s
    have i2 : pm_u (pm_u I cm 17 1) cm 9 0 cm 9 = nI 0 := pu_s
    show pm_W _ _ _ _ _ (pm_u (pm_u I cm 17 1) cm 9 0, L, g_R s, 306) _ _
    generalize pm_u (pm_u I cm 17 1) cm 9 0 = I1 at o1 i1 i2 ⊢
    have V1 : cV cm ci p e s P S I1 := cV_o hV0 (fun a j z => o1 a j (by omega))
    have a1 : cAm cm P S I1 := ⟨fun i hi => ⟨(o1 _ _ (by omega)).trans (ha.1 i hi).1, (o1 _ _ (by omega)).trans (ha.1 i hi).2.1, (o1 _ _ (by omega)).trans (ha.1 i hi).2.2.1, (o1 _ _ (by omega)).trans (ha.1 i hi).2.2.2⟩, (o1 _ _ (by omega)).trans ha.2⟩
    have d1 : cDd cm P S I1 := hd.imp (fun z => (o1 _ _ (by omega)).trans z) (fun z => ⟨(o1 _ _ (by omega)).trans z.1, fun i hi => (o1 _ _ (by omega)).trans (z.2 i hi)⟩)
    refine pv_k rfl rfl rfl rfl rfl (hS0 _ _) rfl ⟨Nat.zero_le _, Nat.zero_le _⟩ ?_
    refine B_decodeX hc hp h1 V1.2.2.2.2.2.1 a1 d1 (fun I2 o2 d2 => ?_)
    have V2 : cV cm ci p e s P S I2 := cV_o V1 (fun a j z => o2 a j (by omega) (by omega))
    refine ps_aload rfl rfl ?_
    refine ps_gfr 10 4 rfl rfl rfl (by first | exact hS0 _ _ | exact hS1 _ _ | exact hS2 _ _ | exact hS3 _ _ | exact hS4 _ _ | exact hS5 _ _ | exact hS6 _ _ | exact hS7 _ _ | exact hS8 _ _ | exact hS9 _ _ | exact hS10 _ _ | exact hS11 _ _ | exact hS12 _ _ | exact hS13 _ _ | exact hS14 _ _ | exact hS15 _ _ | exact hS16 _ _ | exact hS17 _ _ | exact hS18 _ _ | exact hS19 _ _ | exact hS20 _ _ | exact hS21 _ _ | exact hS22 _ _ | exact hS23 _ _ | assumption | rfl) rfl (by first | assumption | rfl) ?_
    refine pw_c rfl ?_
    refine ps_aload rfl rfl ?_
    refine ps_gfr 10 5 rfl rfl rfl (by first | exact hS0 _ _ | exact hS1 _ _ | exact hS2 _ _ | exact hS3 _ _ | exact hS4 _ _ | exact hS5 _ _ | exact hS6 _ _ | exact hS7 _ _ | exact hS8 _ _ | exact hS9 _ _ | exact hS10 _ _ | exact hS11 _ _ | exact hS12 _ _ | exact hS13 _ _ | exact hS14 _ _ | exact hS15 _ _ | exact hS16 _ _ | exact hS17 _ _ | exact hS18 _ _ | exact hS19 _ _ | exact hS20 _ _ | exact hS21 _ _ | exact hS22 _ _ | exact hS23 _ _ | assumption | rfl) rfl (by first | assumption | rfl) ?_
    refine pw_c rfl ?_
    refine ps_aload rfl rfl ?_
    refine ps_gfr 10 13 rfl rfl rfl (by first | exact hS0 _ _ | exact hS1 _ _ | exact hS2 _ _ | exact hS3 _ _ | exact hS4 _ _ | exact hS5 _ _ | exact hS6 _ _ | exact hS7 _ _ | exact hS8 _ _ | exact hS9 _ _ | exact hS10 _ _ | exact hS11 _ _ | exact hS12 _ _ | exact hS13 _ _ | exact hS14 _ _ | exact hS15 _ _ | exact hS16 _ _ | exact hS17 _ _ | exact hS18 _ _ | exact hS19 _ _ | exact hS20 _ _ | exact hS21 _ _ | exact hS22 _ _ | exact hS23 _ _ | assumption | rfl) rfl (by first | assumption | rfl) ?_
    refine ps_gfi 9 6 rfl rfl rfl (by first | exact hS0 _ _ | exact hS1 _ _ | exact hS2 _ _ | exact hS3 _ _ | exact hS4 _ _ | exact hS5 _ _ | exact hS6 _ _ | exact hS7 _ _ | exact hS8 _ _ | exact hS9 _ _ | exact hS10 _ _ | exact hS11 _ _ | exact hS12 _ _ | exact hS13 _ _ | exact hS14 _ _ | exact hS15 _ _ | exact hS16 _ _ | exact hS17 _ _ | exact hS18 _ _ | exact hS19 _ _ | exact hS20 _ _ | exact hS21 _ _ | exact hS22 _ _ | exact hS23 _ _ | assumption | rfl) rfl ?_
    rw [show ((I2, L, g_R s, 306) : pm_H).1 p 6 = nI (P.w * P.v) from V2.2.2.2.2.2.1.1.2.2.1]
    refine ps_acpy (n0 := 289) (n1 := 289) rfl (hS5 _ _) (hS6 _ _) n9 n9 (by omega) (Nat.zero_le _) ?_
    have o3 : ∀ a j, ¬ a = cm + 6 → pm_r I2 (cm + 6) (va_cpy (I2 (cm + 5)) (I2 (cm + 6)) 0 0 (P.w * P.v)) a j = I2 a j := fun a j z => sA_o z
    have m3 : ∀ j, j < P.w * P.v → pm_r I2 (cm + 6) (va_cpy (I2 (cm + 5)) (I2 (cm + 6)) 0 0 (P.w * P.v)) (cm + 6) j = (fnS P S 0).1 j := fun j hj => (sA_s hj).trans (d2.2 j hj)
    show pm_W _ _ _ _ _ (pm_r I2 (cm + 6) (va_cpy (I2 (cm + 5)) (I2 (cm + 6)) 0 0 (P.w * P.v)), L, g_R s, 306) _ _
    generalize pm_r I2 (cm + 6) (va_cpy (I2 (cm + 5)) (I2 (cm + 6)) 0 0 (P.w * P.v)) = I3 at o3 m3 ⊢
    have V3 : cV cm ci p e s P S I3 := cV_o V2 (fun a j z => o3 a j (by omega))
    have a3 : cAm cm P S I3 := ⟨fun i hi => ⟨(o3 _ _ (by omega)).trans ((o2 _ _ (by omega) (by omega)).trans (a1.1 i hi).1), (o3 _ _ (by omega)).trans ((o2 _ _ (by omega) (by omega)).trans (a1.1 i hi).2.1), (o3 _ _ (by omega)).trans ((o2 _ _ (by omega) (by omega)).trans (a1.1 i hi).2.2.1), (o3 _ _ (by omega)).trans ((o2 _ _ (by omega) (by omega)).trans (a1.1 i hi).2.2.2)⟩, (o3 _ _ (by omega)).trans ((o2 _ _ (by omega) (by omega)).trans a1.2)⟩
    have d3 : cDk cm P S I3 := ⟨(o3 _ _ (by omega)).trans d2.1, fun i hi => (o3 _ _ (by omega)).trans (d2.2 i hi)⟩
    have k3 : cSk I3 p P := by
      have oo : ∀ a j, a < 255 → I3 a j = I a j := fun a j z => (o3 a j (by omega)).trans ((o2 a j (by omega) (by omega)).trans (o1 a j (by omega)))
      exact ⟨(oo _ _ (by omega)).trans hk.1, fun i hi => (oo _ _ (by omega)).trans (hk.2.1 i hi), (oo _ _ (by omega)).trans hk.2.2.1, (oo _ _ (by omega)).trans hk.2.2.2⟩
    have s3 : I3 cm 17 = 1 := (o3 _ _ (by omega)).trans ((o2 _ _ (by omega) (by simp only [not_and]; intro _; decide)).trans i1)
    have n3 : I3 cm 9 = nI 0 := (o3 _ _ (by omega)).trans ((o2 _ _ (by omega) (by simp only [not_and]; intro _; decide)).trans i2)
    have r3 : skR cm I I3 := fun a j z1 z2 z3 z4 z5 => (o3 a j z2).trans ((o2 a j z1 (by omega)).trans (o1 a j (by omega)))
    have fin : ∀ I' k, fdN P S = k → (∀ a j, ¬ a = cm + 6 → ¬ a = cm + 8 → ¬ a = cm + 9 → ¬ (a = cm ∧ j = 9) → I' a j = I3 a j) → I' cm 9 = nI k → (∀ i, i < k → I' (cm + 8) i = nI (fnP P S i) ∧ I' (cm + 9) i = fnC P S i) → Q [] (I', L, g_R s, 306) := by
      intro I' k hn g1 g2 g3
      refine kk I' (fun a j z1 z2 z3 z4 z5 => (g1 a j z2 z3 z4 (by omega)).trans (r3 a j z1 z2 z3 z4 z5)) ⟨(g1 _ _ (by omega) (by omega) (by omega) (by simp only [not_and]; intro _; decide)).trans s3, by rw [hn]; exact g2, by rw [hn]; exact g3⟩ ⟨(g1 _ _ (by omega) (by omega) (by omega) (by simp only [not_and]; intro _; decide)).trans d3.1, fun i hi => (g1 _ _ (by omega) (by omega) (by omega) (by omega)).trans (d3.2 i hi)⟩
    have loop : ∀ d k, k + d = 8 → fdN P S = fnD P S d k → ∀ I', (∀ a j, ¬ a = cm + 6 → ¬ a = cm + 8 → ¬ a = cm + 9 → ¬ (a = cm ∧ j = 9) → I' a j = I3 a j) → I' cm 9 = nI k → (∀ i, i < k → I' (cm + 8) i = nI (fnP P S i) ∧ I' (cm + 9) i = fnC P S i) → (∀ j, j < P.w * P.v → I' (cm + 6) j = (fnS P S k).1 j) → ∀ u3 u4 : Value, pm_W (g_P ys) 152 49 [.ref cm, .int (fnS P S k).2, .int (nI k), u3, u4] [] (I', L, g_R s, 306) (0, 0) Q := by
      intro d
      induction d with
      | zero =>
        intro k hk8 hn I' g1 g2 g3 g4 u3 u4
        refine ps_iload rfl rfl ?_
        refine pw_c rfl ?_
        refine ps_icmpt rfl (decide_eq_true (nI_le (a := 8) (by omega) (by omega))) ?_
        refine ps_vret rfl rfl ?_
        exact fin I' k hn g1 g2 g3
      | succ d ih =>
        intro k hk8 hn I' g1 g2 g3 g4 u3 u4
        have V' : cV cm ci p e s P S I' := cV_o V3 (fun a j z => g1 a j (by omega) (by omega) (by omega) (by omega))
        have k' : cSk I' p P := by
          have oo : ∀ a j, a < 255 → I' a j = I3 a j := fun a j z => g1 a j (by omega) (by omega) (by omega) (by omega)
          exact ⟨(oo _ _ (by omega)).trans k3.1, fun i hi => (oo _ _ (by omega)).trans (k3.2.1 i hi), (oo _ _ (by omega)).trans k3.2.2.1, (oo _ _ (by omega)).trans k3.2.2.2⟩
        have pg := pgF_lt (f := (fnS P S k).1) n0
        refine ps_iload rfl rfl ?_
        refine pw_c rfl ?_
        refine ps_icmpf rfl (decide_eq_false (nI_ge (b := 8) (by omega) (by omega))) ?_
        refine ps_aload rfl rfl ?_
        refine ps_aload rfl rfl ?_
        refine ps_gfr 10 5 rfl rfl rfl (by first | exact hS0 _ _ | exact hS1 _ _ | exact hS2 _ _ | exact hS3 _ _ | exact hS4 _ _ | exact hS5 _ _ | exact hS6 _ _ | exact hS7 _ _ | exact hS8 _ _ | exact hS9 _ _ | exact hS10 _ _ | exact hS11 _ _ | exact hS12 _ _ | exact hS13 _ _ | exact hS14 _ _ | exact hS15 _ _ | exact hS16 _ _ | exact hS17 _ _ | exact hS18 _ _ | exact hS19 _ _ | exact hS20 _ _ | exact hS21 _ _ | exact hS22 _ _ | exact hS23 _ _ | assumption | rfl) rfl (by first | assumption | rfl) ?_
        refine pv_k rfl rfl rfl rfl rfl (hS0 _ _) rfl ⟨Nat.zero_le _, Nat.zero_le _⟩ ?_
        refine B_placeOfGreatestX (r := 5) V' (by omega) g4 ?_
        show pm_W _ _ _ _ [.int (nI (fnP P S k))] _ _ _
        refine ps_istore rfl rfl ?_
        refine ps_aload rfl rfl ?_
        refine ps_aload rfl rfl ?_
        refine ps_gfr 10 5 rfl rfl rfl (by first | exact hS0 _ _ | exact hS1 _ _ | exact hS2 _ _ | exact hS3 _ _ | exact hS4 _ _ | exact hS5 _ _ | exact hS6 _ _ | exact hS7 _ _ | exact hS8 _ _ | exact hS9 _ _ | exact hS10 _ _ | exact hS11 _ _ | exact hS12 _ _ | exact hS13 _ _ | exact hS14 _ _ | exact hS15 _ _ | exact hS16 _ _ | exact hS17 _ _ | exact hS18 _ _ | exact hS19 _ _ | exact hS20 _ _ | exact hS21 _ _ | exact hS22 _ _ | exact hS23 _ _ | assumption | rfl) rfl (by first | assumption | rfl) ?_
        refine ps_iload rfl rfl ?_
        refine ps_iald (fnP P S k) rfl (by first | exact hS0 _ _ | exact hS1 _ _ | exact hS2 _ _ | exact hS3 _ _ | exact hS4 _ _ | exact hS5 _ _ | exact hS6 _ _ | exact hS7 _ _ | exact hS8 _ _ | exact hS9 _ _ | exact hS10 _ _ | exact hS11 _ _ | exact hS12 _ _ | exact hS13 _ _ | exact hS14 _ _ | exact hS15 _ _ | exact hS16 _ _ | exact hS17 _ _ | exact hS18 _ _ | exact hS19 _ _ | exact hS20 _ _ | exact hS21 _ _ | exact hS22 _ _ | exact hS23 _ _ | assumption | rfl) rfl (rfl) (by show pgF _ _ < 289; omega) ?_
        rw [show ((I', L, g_R s, 306) : pm_H).1 (cm + 6) (fnP P S k) = (fnS P S k).1 (fnP P S k) from g4 _ pg]
        refine ps_aload rfl rfl ?_
        refine ps_iload rfl rfl ?_
        refine pv_k rfl rfl rfl rfl rfl (hS0 _ _) rfl ⟨Nat.zero_le _, Nat.zero_le _⟩ ?_
        refine B_floorByX V' k' _ ?_
        refine pv_k rfl rfl rfl rfl rfl (hS0 _ _) rfl ⟨Nat.zero_le _, Nat.zero_le _⟩ ?_
        refine B_restoredByX V' k' _ _ ?_
        show pm_W _ _ _ _ [.int (fnC P S k)] _ _ _
        rw [fnD] at hn
        have e0 : (0 : Int32).toInt = 0 := rfl
        by_cases hc0 : (fnC P S k).toInt ≤ 0
        · rw [if_pos hc0] at hn
          refine ps_istore rfl rfl ?_
          refine ps_iload rfl rfl ?_
          refine ps_iff rfl (decide_eq_false (fun z => by have z := (i_lt _ _).mp z; omega)) ?_
          refine ps_vret rfl rfl ?_
          exact fin I' k hn g1 g2 g3
        · rw [if_neg hc0] at hn
          refine ps_istore rfl rfl ?_
          refine ps_iload rfl rfl ?_
          refine ps_ift rfl (decide_eq_true ((i_lt _ _).mpr (by omega))) ?_
          refine ps_aload rfl rfl ?_
          refine ps_gfr 10 7 rfl rfl rfl (by first | exact hS0 _ _ | exact hS1 _ _ | exact hS2 _ _ | exact hS3 _ _ | exact hS4 _ _ | exact hS5 _ _ | exact hS6 _ _ | exact hS7 _ _ | exact hS8 _ _ | exact hS9 _ _ | exact hS10 _ _ | exact hS11 _ _ | exact hS12 _ _ | exact hS13 _ _ | exact hS14 _ _ | exact hS15 _ _ | exact hS16 _ _ | exact hS17 _ _ | exact hS18 _ _ | exact hS19 _ _ | exact hS20 _ _ | exact hS21 _ _ | exact hS22 _ _ | exact hS23 _ _ | assumption | rfl) rfl (by first | assumption | rfl) ?_
          refine ps_iload rfl rfl ?_
          refine ps_iload rfl rfl ?_
          refine ps_iast (k) rfl (by first | exact hS0 _ _ | exact hS1 _ _ | exact hS2 _ _ | exact hS3 _ _ | exact hS4 _ _ | exact hS5 _ _ | exact hS6 _ _ | exact hS7 _ _ | exact hS8 _ _ | exact hS9 _ _ | exact hS10 _ _ | exact hS11 _ _ | exact hS12 _ _ | exact hS13 _ _ | exact hS14 _ _ | exact hS15 _ _ | exact hS16 _ _ | exact hS17 _ _ | exact hS18 _ _ | exact hS19 _ _ | exact hS20 _ _ | exact hS21 _ _ | exact hS22 _ _ | exact hS23 _ _ | assumption | rfl) rfl (rfl) (by omega) ?_
          refine ps_aload rfl rfl ?_
          refine ps_gfr 10 8 rfl rfl rfl (by first | exact hS0 _ _ | exact hS1 _ _ | exact hS2 _ _ | exact hS3 _ _ | exact hS4 _ _ | exact hS5 _ _ | exact hS6 _ _ | exact hS7 _ _ | exact hS8 _ _ | exact hS9 _ _ | exact hS10 _ _ | exact hS11 _ _ | exact hS12 _ _ | exact hS13 _ _ | exact hS14 _ _ | exact hS15 _ _ | exact hS16 _ _ | exact hS17 _ _ | exact hS18 _ _ | exact hS19 _ _ | exact hS20 _ _ | exact hS21 _ _ | exact hS22 _ _ | exact hS23 _ _ | assumption | rfl) rfl (by first | assumption | rfl) ?_
          refine ps_iload rfl rfl ?_
          refine ps_iload rfl rfl ?_
          refine ps_iast (k) rfl (by first | exact hS0 _ _ | exact hS1 _ _ | exact hS2 _ _ | exact hS3 _ _ | exact hS4 _ _ | exact hS5 _ _ | exact hS6 _ _ | exact hS7 _ _ | exact hS8 _ _ | exact hS9 _ _ | exact hS10 _ _ | exact hS11 _ _ | exact hS12 _ _ | exact hS13 _ _ | exact hS14 _ _ | exact hS15 _ _ | exact hS16 _ _ | exact hS17 _ _ | exact hS18 _ _ | exact hS19 _ _ | exact hS20 _ _ | exact hS21 _ _ | exact hS22 _ _ | exact hS23 _ _ | assumption | rfl) rfl (rfl) (by omega) ?_
          refine ps_aload rfl rfl ?_
          refine ps_iload rfl rfl ?_
          refine pw_c rfl ?_
          refine ps_ar rfl rfl rfl rfl rfl ?_
          refine ps_pfi 10 9 rfl rfl rfl (by first | exact hS0 _ _ | exact hS1 _ _ | exact hS2 _ _ | exact hS3 _ _ | exact hS4 _ _ | exact hS5 _ _ | exact hS6 _ _ | exact hS7 _ _ | exact hS8 _ _ | exact hS9 _ _ | exact hS10 _ _ | exact hS11 _ _ | exact hS12 _ _ | exact hS13 _ _ | exact hS14 _ _ | exact hS15 _ _ | exact hS16 _ _ | exact hS17 _ _ | exact hS18 _ _ | exact hS19 _ _ | exact hS20 _ _ | exact hS21 _ _ | exact hS22 _ _ | exact hS23 _ _ | assumption | rfl) rfl ?_
          refine ps_iload rfl rfl ?_
          refine ps_iload rfl rfl ?_
          refine ps_aload rfl rfl ?_
          refine ps_iload rfl rfl ?_
          refine ps_iload rfl rfl ?_
          rw [show nI k + (1 : Int32) = nI (k + 1) from nI_1 k]
          obtain ⟨I4, hI4⟩ : ∃ I4, I4 = pm_u (pm_u (pm_u I' (cm + 8) k (nI (fnP P S k))) (cm + 9) k (fnC P S k)) cm 9 (nI (k + 1)) := ⟨_, rfl⟩
          show pm_W _ _ _ _ _ (pm_u (pm_u (pm_u I' (cm + 8) k (nI (fnP P S k))) (cm + 9) k (fnC P S k)) cm 9 (nI (k + 1)), L, g_R s, 306) _ _
          rw [← hI4]
          have o4 : ∀ a j, ¬ a = cm + 8 → ¬ a = cm + 9 → ¬ (a = cm ∧ j = 9) → I4 a j = I' a j := fun a j z1 z2 z3 => by
            rw [hI4]
            exact (pu_x z3).trans ((pu_o z2).trans (pu_o z1))
          have V4 : cV cm ci p e s P S I4 := cV_o V' (fun a j z => o4 a j (by omega) (by omega) (by omega))
          have k4 : cSk I4 p P := by
            have oo : ∀ a j, a < 255 → I4 a j = I' a j := fun a j z => o4 a j (by omega) (by omega) (by omega)
            exact ⟨(oo _ _ (by omega)).trans k'.1, fun i hi => (oo _ _ (by omega)).trans (k'.2.1 i hi), (oo _ _ (by omega)).trans k'.2.2.1, (oo _ _ (by omega)).trans k'.2.2.2⟩
          refine pv_k rfl rfl rfl rfl rfl (hS0 _ _) rfl ⟨Nat.zero_le _, Nat.zero_le _⟩ ?_
          refine B_takeFromMadeX (a := fnP P S k) (c := fnC P S k) (g := (fnS P S k).1) V4 k4 (fun i hi => (o4 _ _ (by omega) (by omega) (by omega)).trans ((g1 _ _ (by omega) (by omega) (by omega) (by omega)).trans (a3.1 i hi).1)) (fun i hi => (o4 _ _ (by omega) (by omega) (by omega)).trans (g4 i hi)) pg (fun I5 o5 m5 => ?_)
          refine ps_ar rfl rfl rfl rfl rfl ?_
          refine ps_ar rfl rfl rfl rfl rfl ?_
          refine ps_istore rfl rfl ?_
          refine ps_iinc rfl rfl ?_
          refine ps_goto rfl ?_
          rw [show nI k + Int32.ofInt 1 = nI (k + 1) from nI_1 k]
          refine ih (k + 1) (by omega) hn I5 (fun a j z1 z2 z3 z4 => (o5 a j z1).trans ((o4 a j z2 z3 z4).trans (g1 a j z1 z2 z3 z4))) ?_ (fun i hi => ?_) m5 _ _
          · rw [o5 _ _ (by omega), hI4, pu_s]
          · rw [o5 _ _ (by omega), o5 _ _ (by omega), hI4]
            by_cases ei : i = k
            · rw [ei]
              exact ⟨(pu_o (by omega)).trans ((pu_o (by omega)).trans pu_s), (pu_o (by omega)).trans pu_s⟩
            · exact ⟨(pu_o (by omega)).trans ((pu_o (by omega)).trans ((pu_n ei).trans (g3 i (by omega)).1)), (pu_o (by omega)).trans ((pu_n ei).trans ((pu_o (by omega)).trans (g3 i (by omega)).2))⟩
    refine ps_aload rfl rfl ?_
    refine pv_k rfl rfl rfl rfl rfl (hS0 _ _) rfl ⟨Nat.zero_le _, Nat.zero_le _⟩ ?_
    refine B_lightSeenX V3 a3 ?_
    refine ps_istore rfl rfl ?_
    refine pw_c rfl ?_
    refine ps_istore rfl rfl ?_
    exact loop 8 0 (by omega) rfl I3 (fun _ _ _ _ _ _ => rfl) n3 (fun i hi => absurd hi (by omega)) m3 _ _
  · refine ps_aload rfl rfl ?_
    refine ps_gfi 10 17 rfl rfl rfl (by first | exact hS0 _ _ | exact hS1 _ _ | exact hS2 _ _ | exact hS3 _ _ | exact hS4 _ _ | exact hS5 _ _ | exact hS6 _ _ | exact hS7 _ _ | exact hS8 _ _ | exact hS9 _ _ | exact hS10 _ _ | exact hS11 _ _ | exact hS12 _ _ | exact hS13 _ _ | exact hS14 _ _ | exact hS15 _ _ | exact hS16 _ _ | exact hS17 _ _ | exact hS18 _ _ | exact hS19 _ _ | exact hS20 _ _ | exact hS21 _ _ | exact hS22 _ _ | exact hS23 _ _ | assumption | rfl) rfl ?_
    rw [show ((I, L, g_R s, 306) : pm_H).1 cm 17 = 1 from hs.1.1]
    refine ps_iff rfl (rfl) ?_
    refine ps_vret rfl rfl ?_
    exact kk I (fun _ _ _ _ _ _ _ => rfl) hs.1 hs.2
end TN
