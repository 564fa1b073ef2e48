/-! BY HAND: the model's calls about shadows, second (printed by wip/src/gen97zzza.py) -/
section UC
variable {I I' I1 I2 J : Nat → Nat → Int32} {L : Nat → Nat → Int64} {s : Nat → Option Nat} {Q : List Value → pm_H → Prop} {ys : List Int32} {k sh u : Nat} {ng : Bool} {P : sPl} {S : sS} {B : sB} {pc : sPc} {f g : Nat → Int32} {h : pm_H} {o : Nat}
theorem M_peak9 (hm : mFF B I) (ok : B.ok) (ku : okU B.S B.ps) (w : Int32) (kk : ∀ r I', r = exv (qPeak B w) → mQg I I' → mFF B I' → Q [.int r] (I', L, g_R s, 306)) : pm_W (g_P ys) 257 0 [.ref 275, .int w, .retAddr 0] [] (I, L, g_R s, 306) (0, 0) Q := by
  have e0 : (0 : Int32).toInt = 0 := rfl
  have p6 := ok.1
  have fin : ∀ e, ¬ e = 0 → qPeak B w = .error e → pm_W (g_P ys) 257 29 [.ref 275, .int w, .retAddr 0] [.int e, .ref 275] (I, L, g_R s, 306) (0, 0) Q := by
    intro e he ea
    refine pw_k rfl rfl rfl rfl ⟨Nat.zero_le _, Nat.zero_le _⟩ ?_
    refine M_is ?_
    rw [decide_eq_false he]
    refine ps_iff rfl (by decide) ?_
    refine pw_c rfl ?_
    refine ps_iret rfl rfl ?_
    exact kk _ _ (by rw [ea]; rfl) mQg_s (mFF_st hm ok)
  refine ps_aload rfl rfl ?_
  refine ps_iload rfl rfl ?_
  refine ps_ar rfl rfl rfl rfl rfl ?_
  refine pw_c rfl ?_
  refine pw_c rfl ?_
  refine pw_k rfl rfl rfl rfl ⟨Nat.zero_le _, Nat.zero_le _⟩ ?_
  refine M_isIn ?_
  rw [isIn_k w 0 3 0 3 rfl rfl]
  by_cases hw : 0 ≤ w.toInt ∧ w.toInt ≤ 3
  · rw [decide_eq_true hw]
    refine ps_ift rfl (by decide) ?_
    refine ps_aload rfl rfl ?_
    refine ps_gfi 11 14 rfl rfl rfl rfl rfl ?_
    rw [show ((I, L, g_R s, 306) : pm_H).1 275 14 = nI B.ps from hm.1.1]
    by_cases hp : B.ps = 0
    · rw [hp]
      refine ps_iff rfl (by decide) ?_
      refine pw_c rfl ?_
      refine ps_goto rfl ?_
      exact fin 2 (by decide) (by unfold qPeak; rw [if_neg (fun z => z hw), plU_n hp])
    · obtain ⟨u, hu, eu⟩ := ps_u ku hp
      have ea : qPeak B w = .ok (if w = 3 then tgF (decF (B.pl u) (shadF (B.pl u) B.S)) ((B.pl u).w * (B.pl u).v) else fgF (B.pl u) (decF (B.pl u) (shadF (B.pl u) B.S)) w) := by
        unfold qPeak
        rw [if_neg (fun z => z hw), plU_s hu eu p6]
      refine ps_ift rfl (decide_eq_true (nI_nz (by omega) (by omega))) ?_
      refine pw_c rfl ?_
      have hm := mFF_st (e := 0) hm ok
      have q3 : mQg I (stI I 0) := mQg_s
      refine pw_k rfl rfl rfl rfl ⟨Nat.zero_le _, Nat.zero_le _⟩ ?_
      refine M_is ?_
      refine ps_ift rfl (by decide) ?_
      show pm_W _ _ _ _ _ (stI I 0, L, g_R s, 306) _ _
      generalize stI I 0 = J at hm q3 ⊢
      refine ps_aload rfl rfl ?_
      refine ps_aload rfl rfl ?_
      refine ps_gfr 11 16 rfl rfl rfl rfl rfl (rfl) ?_
      refine pw_c rfl ?_
      refine ps_iald (4) rfl rfl rfl (rfl) (by omega) ?_
      rw [show ((J, L, g_R s, 306) : pm_H).1 288 4 = nI u from mFF_u hm eu]
      refine pw_k rfl rfl rfl rfl ⟨Nat.zero_le _, Nat.zero_le _⟩ ?_
      refine M_usesX ?_
      show pm_W _ _ _ _ _ (usI u J, L, g_R s, 306) _ _
      refine ps_aload rfl rfl ?_
      refine pw_k rfl rfl rfl rfl ⟨Nat.zero_le _, Nat.zero_le _⟩ ?_
      refine M_laysShadowsX (M_begU hm ok hu) (fun I2 c2 L2 => ?_)
      have G := mBg_mk hm ok hu c2 L2
      obtain ⟨V, Ld, lo, wh, shd, q4, m4, s4⟩ := G
      refine ps_aload rfl rfl ?_
      refine ps_aload rfl rfl ?_
      refine ps_gfr 11 29 rfl rfl rfl rfl rfl (rfl) ?_
      refine pw_k rfl rfl rfl rfl ⟨Nat.zero_le _, Nat.zero_le _⟩ ?_
      refine M_decodesX V hSh (by decide) shd (fun I3 c3 d3 => ?_)
      have d3 : ∀ i, i < (B.pl u).w * (B.pl u).v → I3 298 i = decF (B.pl u) (shadF (B.pl u) B.S) i := d3
      have V3 : mV u (B.pl u) B.S 0 false I3 := mV_o V (mCg_r (fun a j z => c3 a j (fun e => z (by unfold mRow; omega))))
      refine ps_aload rfl rfl ?_
      refine pw_k rfl rfl rfl rfl ⟨Nat.zero_le _, Nat.zero_le _⟩ ?_
      refine M_laysMostX V3 d3 (fun I4 c4 x4 y4 n4 => ?_)
      have qq : mQg I I4 := mQg_t q3 (mQg_t q4 (fun a j z1 z2 => (c4 a j (by omega)).trans (c3 a j (by omega))))
      have mm : mFF B I4 := mFF_o m4 ok (fun a j z => (c4 a j (by omega)).trans (c3 a j (by omega)))
      have ew : ∀ y : Int32, w.toInt = y.toInt → w = y := fun y q => (i_eq _ _).mpr q
      rcases (show w.toInt = 0 ∨ w.toInt = 1 ∨ w.toInt = 2 ∨ w.toInt = 3 by omega) with q | q | q | q
      · have q := ew 0 q
        subst q
        refine ps_istore rfl rfl ?_
        refine ps_iload rfl rfl ?_
        refine ps_iff rfl (by decide) ?_
        refine ps_aload rfl rfl ?_
        refine ps_gfi 11 32 rfl rfl rfl rfl rfl ?_
        rw [show ((I4, L, g_R s, 306) : pm_H).1 275 32 = nI (pgF (decF (B.pl u) (shadF (B.pl u) B.S)) ((B.pl u).w * (B.pl u).v) % (B.pl u).w) from x4]
        refine ps_goto rfl ?_
        refine ps_iret rfl rfl ?_
        exact kk _ _ (by rw [ea]; rfl) qq mm
      · have q := ew 1 q
        subst q
        refine ps_istore rfl rfl ?_
        refine ps_iload rfl rfl ?_
        refine ps_ift rfl (by decide) ?_
        refine ps_iload rfl rfl ?_
        refine pw_c rfl ?_
        refine ps_icmpf rfl (by decide) ?_
        refine ps_aload rfl rfl ?_
        refine ps_gfi 11 33 rfl rfl rfl rfl rfl ?_
        rw [show ((I4, L, g_R s, 306) : pm_H).1 275 33 = nI (pgF (decF (B.pl u) (shadF (B.pl u) B.S)) ((B.pl u).w * (B.pl u).v) / (B.pl u).w) from y4]
        refine ps_goto rfl ?_
        refine ps_iret rfl rfl ?_
        exact kk _ _ (by rw [ea]; rfl) qq mm
      · have q := ew 2 q
        subst q
        refine ps_istore rfl rfl ?_
        refine ps_iload rfl rfl ?_
        refine ps_ift rfl (by decide) ?_
        refine ps_iload rfl rfl ?_
        refine pw_c rfl ?_
        refine ps_icmpt rfl (by decide) ?_
        refine ps_iload rfl rfl ?_
        refine pw_c rfl ?_
        refine ps_icmpf rfl (by decide) ?_
        refine ps_iload rfl rfl ?_
        refine ps_goto rfl ?_
        refine ps_iret rfl rfl ?_
        exact kk _ _ (by rw [ea]; rfl) qq mm
      · have q := ew 3 q
        subst q
        refine ps_istore rfl rfl ?_
        refine ps_iload rfl rfl ?_
        refine ps_ift rfl (by decide) ?_
        refine ps_iload rfl rfl ?_
        refine pw_c rfl ?_
        refine ps_icmpt rfl (by decide) ?_
        refine ps_iload rfl rfl ?_
        refine pw_c rfl ?_
        refine ps_icmpt rfl (by decide) ?_
        refine ps_aload rfl rfl ?_
        refine ps_gfi 11 34 rfl rfl rfl rfl rfl ?_
        rw [show ((I4, L, g_R s, 306) : pm_H).1 275 34 = tgF (decF (B.pl u) (shadF (B.pl u) B.S)) ((B.pl u).w * (B.pl u).v) from n4]
        refine ps_iret rfl rfl ?_
        exact kk _ _ (by rw [ea]; rfl) qq mm
  · rw [decide_eq_false hw]
    refine ps_iff rfl (by decide) ?_
    refine pw_c rfl ?_
    refine ps_goto rfl ?_
    exact fin 1 (by decide) (by unfold qPeak; rw [if_pos hw])
theorem M_found9 (hm : mFF B I) (ok : B.ok) (ku : okU B.S B.ps) (k w : Int32) (kk : ∀ r I', r = exv (qFound B k w) → mQg I I' → mFF B I' → Q [.int r] (I', L, g_R s, 306)) : pm_W (g_P ys) 259 0 [.ref 275, .int k, .int w, .retAddr 0] [] (I, L, g_R s, 306) (0, 0) Q := by
  have e0 : (0 : Int32).toInt = 0 := rfl
  have e1 : (-1 : Int32).toInt = -1 := by decide
  have p6 := ok.1
  have fin : ∀ I1 e (v : Value), mQg I I1 → mFF B I1 → ¬ e = 0 → qFound B k w = .error e → pm_W (g_P ys) 259 70 [.ref 275, .int k, .int w, v] [.int e, .ref 275] (I1, L, g_R s, 306) (0, 0) Q := by
    intro I1 e v q1 m1 he ea
    refine pw_k rfl rfl rfl rfl ⟨Nat.zero_le _, Nat.zero_le _⟩ ?_
    refine M_is ?_
    rw [decide_eq_false he]
    refine ps_iff rfl (by decide) ?_
    refine pw_c rfl ?_
    refine ps_iret rfl rfl ?_
    exact kk _ _ (by rw [ea]; rfl) (mQg_t q1 mQg_s) (mFF_st m1 ok)
  have no : ¬ gdF k w → pm_W (g_P ys) 259 30 [.ref 275, .int k, .int w, .retAddr 0] [] (I, L, g_R s, 306) (0, 0) Q := by
    intro z
    refine pw_c rfl ?_
    refine ps_istore rfl rfl ?_
    refine ps_aload rfl rfl ?_
    refine ps_iload rfl rfl ?_
    refine ps_iff rfl (by decide) ?_
    refine pw_c rfl ?_
    refine ps_goto rfl ?_
    exact fin I 1 _ mQg_r hm (by decide) (by unfold qFound; rw [if_pos z])
  have yes : gdF k w → pm_W (g_P ys) 259 26 [.ref 275, .int k, .int w, .retAddr 0] [] (I, L, g_R s, 306) (0, 0) Q := by
    intro gd
    refine pw_c rfl ?_
    refine ps_goto rfl ?_
    refine ps_istore rfl rfl ?_
    refine ps_aload rfl rfl ?_
    refine ps_iload rfl rfl ?_
    refine ps_ift rfl (by decide) ?_
    refine ps_aload rfl rfl ?_
    refine ps_gfi 11 14 rfl rfl rfl rfl rfl ?_
    rw [show ((I, L, g_R s, 306) : pm_H).1 275 14 = nI B.ps from hm.1.1]
    by_cases hp : B.ps = 0
    · rw [hp]
      refine ps_iff rfl (by decide) ?_
      refine pw_c rfl ?_
      refine ps_goto rfl ?_
      exact fin I 2 _ mQg_r hm (by decide) (by unfold qFound; rw [if_neg (fun z => z gd), plU_n hp])
    · obtain ⟨u, hu, eu⟩ := ps_u ku hp
      have ea : qFound B k w = if ¬ crP (B.pl u) then .error 5 else if k = -1 then .ok (nI (fdN (B.pl u) B.S)) else if (fdN (B.pl u) B.S : Int) ≤ k.toInt then .error 5 else .ok (if w = 2 then fnC (B.pl u) B.S k.toInt.toNat else xyF (B.pl u) (fnP (B.pl u) B.S k.toInt.toNat) w) := by
        unfold qFound
        rw [if_neg (fun z => z gd), plU_s hu eu p6]
      refine ps_ift rfl (decide_eq_true (nI_nz (by omega) (by omega))) ?_
      refine ps_aload rfl rfl ?_
      refine ps_aload rfl rfl ?_
      refine ps_gfr 11 16 rfl rfl rfl rfl rfl (rfl) ?_
      refine pw_c rfl ?_
      refine ps_iald 4 rfl rfl rfl rfl (by omega) ?_
      rw [show ((I, L, g_R s, 306) : pm_H).1 288 4 = nI u from mFF_u hm eu]
      refine pw_k rfl rfl rfl rfl ⟨Nat.zero_le _, Nat.zero_le _⟩ ?_
      refine M_canRestoreX (mFF_P1 hm ok hu) (hm.2.2.1 u hu) (fun I1 g1 s1 k1 => ?_)
      have m1 := mFF_sg hm ok hu g1 s1
      have q1 : mQg I I1 := mQg_sg g1
      by_cases cr : crP (B.pl u)
      · rw [if_neg (fun z => z cr)] at ea
        rw [decide_eq_true cr]
        refine ps_iff rfl (by decide) ?_
        refine pw_c rfl ?_
        refine ps_goto rfl ?_
        have hm := mFF_st (e := 0) m1 ok
        have q3 : mQg I (stI I1 0) := mQg_t q1 mQg_s
        have k3 : mSk (stI I1 0) u (B.pl u) := mSk_o (k1 cr) (fun a j z => stI_o (by omega))
        refine pw_k rfl rfl rfl rfl ⟨Nat.zero_le _, Nat.zero_le _⟩ ?_
        refine M_is ?_
        refine ps_ift rfl (by decide) ?_
        show pm_W _ _ _ _ _ (stI I1 0, L, g_R s, 306) _ _
        generalize stI I1 0 = J at hm q3 k3 ⊢
        refine ps_aload rfl rfl ?_
        refine ps_aload rfl rfl ?_
        refine ps_gfr 11 16 rfl rfl rfl rfl rfl (rfl) ?_
        refine pw_c rfl ?_
        refine ps_iald (4) rfl rfl rfl (rfl) (by omega) ?_
        rw [show ((J, L, g_R s, 306) : pm_H).1 288 4 = nI u from mFF_u hm eu]
        refine pw_k rfl rfl rfl rfl ⟨Nat.zero_le _, Nat.zero_le _⟩ ?_
        refine M_usesX ?_
        show pm_W _ _ _ _ _ (usI u J, L, g_R s, 306) _ _
        refine ps_aload rfl rfl ?_
        refine pw_k rfl rfl rfl rfl ⟨Nat.zero_le _, Nat.zero_le _⟩ ?_
        refine M_laysShadowsX (M_begU hm ok hu) (fun I2 c2 L2 => ?_)
        have G := mBg_mk hm ok hu c2 L2
        obtain ⟨V, Ld, lo, wh, shd, q4, m4, s4⟩ := G
        have k2 : mSk I2 u (B.pl u) := mSk_o k3 s4
        refine ps_aload rfl rfl ?_
        refine pw_k rfl rfl rfl rfl ⟨Nat.zero_le _, Nat.zero_le _⟩ ?_
        refine M_findsX V cr k2 Ld (fun I3 c3 n3 r3 => ?_)
        have qq : mQg I I3 := mQg_t q3 (mQg_t q4 (mQg_fd c3))
        have mm : mFF B I3 := mFF_o m4 ok (fun a j z => c3 a j (by omega) (by omega))
        have f8 := fdN_le (P := B.pl u) (S := B.S)
        by_cases km : k = -1
        · rw [if_pos km] at ea
          subst km
          refine ps_iload rfl rfl ?_
          refine pw_c rfl ?_
          refine ps_icmpf rfl (by decide) ?_
          refine ps_aload rfl rfl ?_
          refine ps_gfi 11 36 rfl rfl rfl rfl rfl ?_
          rw [show ((I3, L, g_R s, 306) : pm_H).1 275 36 = nI (fdN (B.pl u) B.S) from n3]
          refine ps_goto rfl ?_
          refine ps_iret rfl rfl ?_
          exact kk _ _ (by rw [ea]; rfl) qq mm
        · rw [if_neg km] at ea
          have k0 : 0 ≤ k.toInt := by
            have z := gd.1
            have : ¬ k.toInt = (-1 : Int32).toInt := fun z => km ((i_eq _ _).mpr z)
            omega
          obtain ⟨q, hq⟩ : ∃ q, q = k.toInt.toNat := ⟨_, rfl⟩
          have ek := nI_oz hq k0
          refine ps_iload rfl rfl ?_
          refine pw_c rfl ?_
          refine ps_icmpt rfl (decide_eq_true km) ?_
          refine ps_iload rfl rfl ?_
          refine ps_aload rfl rfl ?_
          refine ps_gfi 11 36 rfl rfl rfl rfl rfl ?_
          rw [show ((I3, L, g_R s, 306) : pm_H).1 275 36 = nI (fdN (B.pl u) B.S) from n3]
          by_cases kl : (fdN (B.pl u) B.S : Int) ≤ k.toInt
          · rw [if_pos kl] at ea
            refine ps_icmpt rfl (decide_eq_true ((i_le _ _).mpr (by rw [nI_toInt (by omega)]; exact kl))) ?_
            refine ps_aload rfl rfl ?_
            refine pw_c rfl ?_
            refine pw_k rfl rfl rfl rfl ⟨Nat.zero_le _, Nat.zero_le _⟩ ?_
            refine M_refuseX 5 ?_
            refine ps_iret rfl rfl ?_
            exact kk _ _ (by rw [ea]; rfl) (mQg_t qq mQg_u) (mFF_su mm ok)
          · rw [if_neg kl, ← hq] at ea
            have ql : q < fdN (B.pl u) B.S := by omega
            obtain ⟨z1, z2, z3⟩ := r3 q ql
            have gd2 := gd.2.1
            clear hq k0 kl
            subst ek
            refine ps_icmpf rfl (decide_eq_false (fun z => by have z := (i_le _ _).mp z; rw [nI_toInt (by omega), nI_toInt (by omega)] at z; omega)) ?_
            refine ps_aload rfl rfl ?_
            refine ps_gfr 11 35 rfl rfl rfl rfl rfl (rfl) ?_
            refine pw_c rfl ?_
            refine ps_iload rfl rfl ?_
            refine ps_ar rfl rfl rfl rfl rfl ?_
            refine ps_iload rfl rfl ?_
            refine ps_ar rfl rfl rfl rfl rfl ?_
            have ew : ∀ y : Int32, w.toInt = y.toInt → w = y := fun y q => (i_eq _ _).mpr q
            rcases (show w.toInt = 0 ∨ w.toInt = 1 ∨ w.toInt = 2 by omega) with q0 | q0 | q0
            · have q0 := ew 0 q0
              subst q0
              refine ps_iald (3 * q) rfl rfl rfl (by simp only [ni_lit, ni_l0, pk_mul, nI_add, Nat.add_zero]) (by omega) ?_
              rw [show ((I3, L, g_R s, 306) : pm_H).1 300 (3 * q) = nI (fnP (B.pl u) B.S q % (B.pl u).w) from z1]
              refine ps_goto rfl ?_
              refine ps_iret rfl rfl ?_
              exact kk _ _ (by rw [ea]; rfl) qq mm
            · have q0 := ew 1 q0
              subst q0
              refine ps_iald (3 * q + 1) rfl rfl rfl (by simp only [ni_lit, ni_l0, pk_mul, nI_add, Nat.add_zero]) (by omega) ?_
              rw [show ((I3, L, g_R s, 306) : pm_H).1 300 (3 * q + 1) = nI (fnP (B.pl u) B.S q / (B.pl u).w) from z2]
              refine ps_goto rfl ?_
              refine ps_iret rfl rfl ?_
              exact kk _ _ (by rw [ea]; rfl) qq mm
            · have q0 := ew 2 q0
              subst q0
              refine ps_iald (3 * q + 2) rfl rfl rfl (by simp only [ni_lit, ni_l0, pk_mul, nI_add, Nat.add_zero]) (by omega) ?_
              rw [show ((I3, L, g_R s, 306) : pm_H).1 300 (3 * q + 2) = fnC (B.pl u) B.S q from z3]
              refine ps_goto rfl ?_
              refine ps_iret rfl rfl ?_
              exact kk _ _ (by rw [ea]; rfl) qq mm
      · rw [if_pos cr] at ea
        rw [decide_eq_false cr]
        refine ps_ift rfl (by decide) ?_
        refine pw_c rfl ?_
        exact fin I1 5 _ q1 m1 (by decide) ea
  by_cases h1 : -1 ≤ k.toInt
  · have a1 : decide (k < (-1 : Int32)) = false := decide_eq_false (fun z => by have z := (i_lt _ _).mp z; omega)
    by_cases km : k = -1
    · subst km
      refine ps_iload rfl rfl ?_
      refine pw_c rfl ?_
      refine ps_icmpf rfl (a1) ?_
      refine ps_iload rfl rfl ?_
      refine ps_ar rfl rfl rfl rfl rfl ?_
      refine pw_c rfl ?_
      refine ps_iload rfl rfl ?_
      refine pw_c rfl ?_
      refine ps_icmpf rfl (by decide) ?_
      refine pw_c rfl ?_
      refine ps_goto rfl ?_
      refine pw_k rfl rfl rfl rfl ⟨Nat.zero_le _, Nat.zero_le _⟩ ?_
      refine M_isIn ?_
      rw [isIn_k w 0 0 0 0 rfl rfl]
      by_cases w0 : 0 ≤ w.toInt ∧ w.toInt ≤ 0
      · rw [decide_eq_true w0]
        refine ps_iff rfl (by decide) ?_
        exact yes ⟨by omega, by omega, fun _ => (i_eq _ _).mpr (by omega)⟩
      · rw [decide_eq_false w0]
        refine ps_ift rfl (by decide) ?_
        exact no (fun z => w0 (by rw [z.2.2 rfl]; decide))
    · refine ps_iload rfl rfl ?_
      refine pw_c rfl ?_
      refine ps_icmpf rfl (a1) ?_
      refine ps_iload rfl rfl ?_
      refine ps_ar rfl rfl rfl rfl rfl ?_
      refine pw_c rfl ?_
      refine ps_iload rfl rfl ?_
      refine pw_c rfl ?_
      refine ps_icmpt rfl (decide_eq_true km) ?_
      refine pw_c rfl ?_
      refine pw_k rfl rfl rfl rfl ⟨Nat.zero_le _, Nat.zero_le _⟩ ?_
      refine M_isIn ?_
      rw [isIn_k w 0 2 0 2 rfl rfl]
      by_cases w0 : 0 ≤ w.toInt ∧ w.toInt ≤ 2
      · rw [decide_eq_true w0]
        refine ps_iff rfl (by decide) ?_
        exact yes ⟨h1, w0, fun z => absurd z km⟩
      · rw [decide_eq_false w0]
        refine ps_ift rfl (by decide) ?_
        exact no (fun z => w0 z.2.1)
  · refine ps_iload rfl rfl ?_
    refine pw_c rfl ?_
    refine ps_icmpt rfl (decide_eq_true ((i_lt _ _).mpr (by omega))) ?_
    exact no (fun z => h1 z.1)
theorem M_filled9 (hm : mFF B I) (ok : B.ok) (ku : okU B.S B.ps) (w : Int32) (kk : ∀ r I', r = exv (qFilled B w) → mQg I I' → mFF B I' → Q [.int r] (I', L, g_R s, 306)) : pm_W (g_P ys) 262 0 [.ref 275, .int w, .retAddr 0] [] (I, L, g_R s, 306) (0, 0) Q := by
  have e0 : (0 : Int32).toInt = 0 := rfl
  have p6 := ok.1
  have fin : ∀ I1 e, mQg I I1 → mFF B I1 → ¬ e = 0 → qFilled B w = .error e → pm_W (g_P ys) 262 44 [.ref 275, .int w, .retAddr 0] [.int e, .ref 275] (I1, L, g_R s, 306) (0, 0) Q := by
    intro I1 e q1 m1 he ea
    refine pw_k rfl rfl rfl rfl ⟨Nat.zero_le _, Nat.zero_le _⟩ ?_
    refine M_is ?_
    rw [decide_eq_false he]
    refine ps_iff rfl (by decide) ?_
    refine pw_c rfl ?_
    refine ps_iret rfl rfl ?_
    exact kk _ _ (by rw [ea]; rfl) (mQg_t q1 mQg_s) (mFF_st m1 ok)
  refine ps_aload rfl rfl ?_
  refine ps_iload rfl rfl ?_
  refine ps_ar rfl rfl rfl rfl rfl ?_
  refine pw_c rfl ?_
  refine pw_c rfl ?_
  refine pw_k rfl rfl rfl rfl ⟨Nat.zero_le _, Nat.zero_le _⟩ ?_
  refine M_isIn ?_
  rw [isIn_k w 0 1 0 1 rfl rfl]
  by_cases hw : 0 ≤ w.toInt ∧ w.toInt ≤ 1
  · rw [decide_eq_true hw]
    refine ps_ift rfl (by decide) ?_
    refine ps_aload rfl rfl ?_
    refine ps_gfi 11 14 rfl rfl rfl rfl rfl ?_
    rw [show ((I, L, g_R s, 306) : pm_H).1 275 14 = nI B.ps from hm.1.1]
    by_cases hp : B.ps = 0
    · rw [hp]
      refine ps_iff rfl (by decide) ?_
      refine pw_c rfl ?_
      refine ps_goto rfl ?_
      exact fin I 2 mQg_r hm (by decide) (by unfold qFilled; rw [if_neg (fun z => z hw), plU_n hp])
    · obtain ⟨u, hu, eu⟩ := ps_u ku hp
      have ea : qFilled B w = if ¬ crP (B.pl u) then .error 5 else .ok (if w = 0 then erF (B.pl u) B.S (decF (B.pl u) (filF (B.pl u) B.S)) (suI (filF (B.pl u) B.S) ((B.pl u).w * (B.pl u).v) - B.S.bk * nI ((B.pl u).w * (B.pl u).v)) else ffF (B.pl u) B.S (filF (B.pl u) B.S) ((B.pl u).w * (B.pl u).v)) := by
        unfold qFilled
        rw [if_neg (fun z => z hw), plU_s hu eu p6]
      refine ps_ift rfl (decide_eq_true (nI_nz (by omega) (by omega))) ?_
      refine ps_aload rfl rfl ?_
      refine ps_aload rfl rfl ?_
      refine ps_gfr 11 16 rfl rfl rfl rfl rfl (rfl) ?_
      refine pw_c rfl ?_
      refine ps_iald 4 rfl rfl rfl rfl (by omega) ?_
      rw [show ((I, L, g_R s, 306) : pm_H).1 288 4 = nI u from mFF_u hm eu]
      refine pw_k rfl rfl rfl rfl ⟨Nat.zero_le _, Nat.zero_le _⟩ ?_
      refine M_canRestoreX (mFF_P1 hm ok hu) (hm.2.2.1 u hu) (fun I1 g1 s1 k1 => ?_)
      have m1 := mFF_sg hm ok hu g1 s1
      have q1 : mQg I I1 := mQg_sg g1
      by_cases cr : crP (B.pl u)
      · rw [if_neg (fun z => z cr)] at ea
        rw [decide_eq_true cr]
        refine ps_iff rfl (by decide) ?_
        refine pw_c rfl ?_
        refine ps_goto rfl ?_
        have hm := mFF_st (e := 0) m1 ok
        have q3 : mQg I (stI I1 0) := mQg_t q1 mQg_s
        have k3 : mSk (stI I1 0) u (B.pl u) := mSk_o (k1 cr) (fun a j z => stI_o (by omega))
        refine pw_k rfl rfl rfl rfl ⟨Nat.zero_le _, Nat.zero_le _⟩ ?_
        refine M_is ?_
        refine ps_ift rfl (by decide) ?_
        show pm_W _ _ _ _ _ (stI I1 0, L, g_R s, 306) _ _
        generalize stI I1 0 = J at hm q3 k3 ⊢
        refine ps_aload rfl rfl ?_
        refine ps_aload rfl rfl ?_
        refine ps_gfr 11 16 rfl rfl rfl rfl rfl (rfl) ?_
        refine pw_c rfl ?_
        refine ps_iald (4) rfl rfl rfl (rfl) (by omega) ?_
        rw [show ((J, L, g_R s, 306) : pm_H).1 288 4 = nI u from mFF_u hm eu]
        refine pw_k rfl rfl rfl rfl ⟨Nat.zero_le _, Nat.zero_le _⟩ ?_
        refine M_usesX ?_
        show pm_W _ _ _ _ _ (usI u J, L, g_R s, 306) _ _
        refine ps_aload rfl rfl ?_
        refine pw_k rfl rfl rfl rfl ⟨Nat.zero_le _, Nat.zero_le _⟩ ?_
        refine M_laysShadowsX (M_begU hm ok hu) (fun I2 c2 L2 => ?_)
        have G := mBg_mk hm ok hu c2 L2
        obtain ⟨V, Ld, lo, wh, shd, q4, m4, s4⟩ := G
        have k2 : mSk I2 u (B.pl u) := mSk_o k3 s4
        refine ps_aload rfl rfl ?_
        refine pw_k rfl rfl rfl rfl ⟨Nat.zero_le _, Nat.zero_le _⟩ ?_
        refine M_fillsX V cr k2 Ld (fun I3 c3 f3 l3 => ?_)
        have V3 : mV u (B.pl u) B.S 0 false I3 := mV_o V (mFl_c c3)
        have k4 : mSk I3 u (B.pl u) := mSk_o k2 (fun a j z => c3 a j (by omega) (by omega))
        have qq : mQg I I3 := mQg_t q3 (mQg_t q4 (mQg_fl c3))
        have mm : mFF B I3 := mFF_o m4 ok (fun a j z => c3 a j (by omega) (by omega))
        have ew : ∀ y : Int32, w.toInt = y.toInt → w = y := fun y q => (i_eq _ _).mpr q
        rcases (show w.toInt = 0 ∨ w.toInt = 1 by omega) with q0 | q0
        · have q0 := ew 0 q0
          subst q0
          refine ps_istore rfl rfl ?_
          refine ps_iload rfl rfl ?_
          refine ps_iff rfl (by decide) ?_
          refine ps_aload rfl rfl ?_
          refine pw_k rfl rfl rfl rfl ⟨Nat.zero_le _, Nat.zero_le _⟩ ?_
          refine M_errorNowX V3 cr k4 f3 l3 (fun _ => Or.inl rfl) (fun I4 c4 => ?_)
          rw [fil_li]
          refine ps_goto rfl ?_
          refine ps_iret rfl rfl ?_
          exact kk _ _ (by rw [ea]; rfl) (mQg_t qq (fun a j z1 _ => c4 a j (by omega))) (mFF_o mm ok (fun a j z => c4 a j (by omega)))
        · have q0 := ew 1 q0
          subst q0
          refine ps_istore rfl rfl ?_
          refine ps_iload rfl rfl ?_
          refine ps_ift rfl (by decide) ?_
          refine ps_iload rfl rfl ?_
          refine ps_iret rfl rfl ?_
          exact kk _ _ (by rw [ea]; rfl) qq mm
      · rw [if_pos cr] at ea
        rw [decide_eq_false cr]
        refine ps_ift rfl (by decide) ?_
        refine pw_c rfl ?_
        exact fin I1 5 q1 m1 (by decide) ea
  · rw [decide_eq_false hw]
    refine ps_iff rfl (by decide) ?_
    refine pw_c rfl ?_
    refine ps_goto rfl ?_
    exact fin I 1 mQg_r hm (by decide) (by unfold qFilled; rw [if_pos hw])
theorem M_coarse9 (hm : mFF B I) (ok : B.ok) (ku : okU B.S B.ps) (m k : Int32) (kk : ∀ r I', r = exv (qCoarse B m k) → mQg I I' → mFF B I' → Q [.int r] (I', L, g_R s, 306)) : pm_W (g_P ys) 264 0 [.ref 275, .int m, .int k, .retAddr 0, .retAddr 0, .retAddr 0] [] (I, L, g_R s, 306) (0, 0) Q := by
  have e0 : (0 : Int32).toInt = 0 := rfl
  have e2 : (2 : Int32).toInt = 2 := rfl
  have p6 := ok.1
  have fin : ∀ e, ¬ e = 0 → qCoarse B m k = .error e → pm_W (g_P ys) 264 26 [.ref 275, .int m, .int k, .retAddr 0, .retAddr 0, .retAddr 0] [.int e, .ref 275] (I, L, g_R s, 306) (0, 0) Q := by
    intro e he ea
    refine pw_k rfl rfl rfl rfl ⟨Nat.zero_le _, Nat.zero_le _⟩ ?_
    refine M_is ?_
    rw [decide_eq_false he]
    refine ps_iff rfl (by decide) ?_
    refine pw_c rfl ?_
    refine ps_iret rfl rfl ?_
    exact kk _ _ (by rw [ea]; rfl) mQg_s (mFF_st hm ok)
  have no : ¬ (2 ≤ m.toInt ∧ 0 ≤ k.toInt) → pm_W (g_P ys) 264 10 [.ref 275, .int m, .int k, .retAddr 0, .retAddr 0, .retAddr 0] [.ref 275] (I, L, g_R s, 306) (0, 0) Q := by
    intro z
    refine pw_c rfl ?_
    refine ps_goto rfl ?_
    exact fin 1 (by decide) (by unfold qCoarse; rw [if_pos z])
  by_cases h2 : 2 ≤ m.toInt
  · by_cases h0 : 0 ≤ k.toInt
    · refine ps_aload rfl rfl ?_
      refine ps_iload rfl rfl ?_
      refine pw_c rfl ?_
      refine ps_icmpf rfl (decide_eq_false (fun z => by have z := (i_lt _ _).mp z; omega)) ?_
      refine ps_iload rfl rfl ?_
      refine ps_ift rfl (decide_eq_true ((i_le _ _).mpr (by omega))) ?_
      refine ps_aload rfl rfl ?_
      refine ps_gfi 11 14 rfl rfl rfl rfl rfl ?_
      rw [show ((I, L, g_R s, 306) : pm_H).1 275 14 = nI B.ps from hm.1.1]
      by_cases hp : B.ps = 0
      · rw [hp]
        refine ps_iff rfl (by decide) ?_
        refine pw_c rfl ?_
        refine ps_goto rfl ?_
        exact fin 2 (by decide) (by unfold qCoarse; rw [if_neg (fun z => z ⟨h2, h0⟩), plU_n hp])
      · obtain ⟨u, hu, eu⟩ := ps_u ku hp
        obtain ⟨m', hm'⟩ : ∃ q, q = m.toInt.toNat := ⟨_, rfl⟩
        obtain ⟨k', hk'⟩ : ∃ q, q = k.toInt.toNat := ⟨_, rfl⟩
        have em := nI_oz hm' (by omega)
        have ek := nI_oz hk' h0
        have mb : m' < 2147483648 := by have := i_bd m; omega
        have kb : k' < 2147483648 := by have := i_bd k; omega
        have m2 : 2 ≤ m' := by omega
        have ea : qCoarse B m k = if ¬ ((B.pl u).w % m' = 0 ∧ k' < (B.pl u).w * (B.pl u).v / m') then .error 5 else .ok (suI (fun i => shadF (B.pl u) B.S (k' * m' + i)) m') := by
          unfold qCoarse
          rw [if_neg (fun z => z ⟨h2, h0⟩), plU_s hu eu p6, hm', hk']
        clear no fin h2 h0 hm' hk'
        subst em ek
        refine ps_ift rfl (decide_eq_true (nI_nz (by omega) (by omega))) ?_
        refine pw_c rfl ?_
        have hm := mFF_st (e := 0) hm ok
        have q3 : mQg I (stI I 0) := mQg_s
        refine pw_k rfl rfl rfl rfl ⟨Nat.zero_le _, Nat.zero_le _⟩ ?_
        refine M_is ?_
        refine ps_ift rfl (by decide) ?_
        refine ps_aload rfl rfl ?_
        refine ps_aload rfl rfl ?_
        refine ps_gfr 11 16 rfl rfl rfl rfl rfl (rfl) ?_
        refine pw_c rfl ?_
        show pm_W _ _ _ _ _ (stI I 0, L, g_R s, 306) _ _
        generalize stI I 0 = J at hm q3 ⊢
        refine ps_iald 4 rfl rfl rfl rfl (by omega) ?_
        rw [show ((J, L, g_R s, 306) : pm_H).1 288 4 = nI u from mFF_u hm eu]
        refine pw_k rfl rfl rfl rfl ⟨Nat.zero_le _, Nat.zero_le _⟩ ?_
        refine M_usesX ?_
        show pm_W _ _ _ _ _ (usI u J, L, g_R s, 306) _ _
        have V1 := M_begU hm ok hu
        obtain ⟨wb, vb, w0, v0, n9⟩ := mV_b V1
        have ref : qCoarse B (nI m') (nI k') = .error 5 → pm_W (g_P ys) 264 63 [.ref 275, .int (nI m'), .int (nI k'), .retAddr 0, .retAddr 0, .retAddr 0] [] (usI u J, L, g_R s, 306) (0, 0) Q := by
          intro ea
          refine ps_aload rfl rfl ?_
          refine pw_c rfl ?_
          refine pw_k rfl rfl rfl rfl ⟨Nat.zero_le _, Nat.zero_le _⟩ ?_
          refine M_refuseX 5 ?_
          refine ps_iret rfl rfl ?_
          exact kk _ _ (by rw [ea]; rfl) (mQg_t q3 (mQg_t mQg_us mQg_u)) (mFF_su (mFF_o hm ok (fun a j z => usI_o (by omega))) ok)
        refine ps_aload rfl rfl ?_
        refine pw_k rfl rfl rfl rfl ⟨Nat.zero_le _, Nat.zero_le _⟩ ?_
        refine M_wideX V1 ?_
        refine ps_iload rfl rfl ?_
        refine ps_rem rfl (nI_nz (by omega) mb) ?_
        rw [nI_rem (by omega) (by omega) mb]
        by_cases wm : (B.pl u).w % m' = 0
        · rw [wm]
          refine ps_iff rfl (by decide) ?_
          refine ps_iload rfl rfl ?_
          refine ps_aload rfl rfl ?_
          refine pw_k rfl rfl rfl rfl ⟨Nat.zero_le _, Nat.zero_le _⟩ ?_
          refine M_cells0X V1 ?_
          refine ps_iload rfl rfl ?_
          refine ps_div rfl (nI_nz (by omega) mb) ?_
          rw [nI_div (by omega) mb]
          have dl : (B.pl u).w * (B.pl u).v / m' ≤ (B.pl u).w * (B.pl u).v := Nat.div_le_self _ _
          by_cases kl : k' < (B.pl u).w * (B.pl u).v / m'
          · rw [if_neg (fun z => z ⟨wm, kl⟩)] at ea
            have mw : m' ≤ (B.pl u).w := Nat.le_of_dvd w0 (Nat.dvd_of_mod_eq_zero wm)
            refine ps_icmpt rfl (decide_eq_true ((nI_ltI (by omega) (by omega)).mpr kl)) ?_
            refine ps_aload rfl rfl ?_
            refine pw_k rfl rfl rfl rfl ⟨Nat.zero_le _, Nat.zero_le _⟩ ?_
            refine M_laysShadowsX V1 (fun I2 c2 L2 => ?_)
            have G := mBg_mk hm ok hu c2 L2
            obtain ⟨V, Ld, lo, wh, shd, q4, m4, s4⟩ := G
            have km : k' * m' + m' ≤ (B.pl u).w * (B.pl u).v := by
              have a1 : (k' + 1) * m' ≤ (B.pl u).w * (B.pl u).v / m' * m' := Nat.mul_le_mul_right _ kl
              have a2 := Nat.div_mul_le_self ((B.pl u).w * (B.pl u).v) m'
              rw [Nat.add_mul, Nat.one_mul] at a1
              omega
            have wd : (B.pl u).w / m' ≤ (B.pl u).w := Nat.div_le_self _ _
            have wp : 0 < (B.pl u).w / m' := Nat.div_pos mw (by omega)
            have loop : ∀ d i, i + d = m' → pm_W (g_P ys) 264 86 [.ref 275, .int (nI m'), .int (nI k'), .int (nI ((B.pl u).w / m')), .int (suI (fun i => shadF (B.pl u) B.S (k' * m' + i)) i), .int (nI i)] [] (I2, L, g_R s, 306) (0, 0) Q := by
              intro d
              induction d with
              | zero =>
                intro i hi
                refine ps_iload rfl rfl ?_
                refine ps_iload rfl rfl ?_
                refine ps_icmpt rfl (decide_eq_true (nI_le (by omega) (by omega))) ?_
                refine ps_iload rfl rfl ?_
                refine ps_iret rfl rfl ?_
                exact kk _ _ (by rw [ea, show i = m' by omega]; rfl) (mQg_t q3 q4) m4
              | succ d ih =>
                intro i hi
                have z := ih (i + 1) (by omega)
                rw [suI_s] at z
                have dd : k' / ((B.pl u).w / m') ≤ k' := Nat.div_le_self _ _
                refine ps_iload rfl rfl ?_
                refine ps_iload rfl rfl ?_
                refine ps_icmpf rfl (decide_eq_false (nI_ge (by omega) (by omega))) ?_
                refine ps_iload rfl rfl ?_
                refine ps_aload rfl rfl ?_
                refine ps_gfr 11 29 rfl rfl rfl rfl rfl (rfl) ?_
                refine ps_aload rfl rfl ?_
                refine pw_k rfl rfl rfl rfl ⟨Nat.zero_le _, Nat.zero_le _⟩ ?_
                refine M_wideX V ?_
                refine ps_iload rfl rfl ?_
                refine ps_iload rfl rfl ?_
                refine ps_div rfl (nI_nz wp (by omega)) ?_
                rw [nI_div kb (by omega)]
                refine ps_ar rfl rfl rfl rfl rfl ?_
                rw [pk_mul]
                refine ps_iload rfl rfl ?_
                refine ps_iload rfl rfl ?_
                refine ps_iload rfl rfl ?_
                refine ps_rem rfl (nI_nz wp (by omega)) ?_
                rw [nI_rem kb wp (by omega)]
                refine ps_ar rfl rfl rfl rfl rfl ?_
                rw [pk_mul]
                refine ps_ar rfl rfl rfl rfl rfl ?_
                rw [nI_add]
                refine ps_iload rfl rfl ?_
                refine ps_ar rfl rfl rfl rfl rfl ?_
                rw [nI_add, co_ix (by omega) wm]
                refine ps_iald (k' * m' + i) rfl rfl rfl (rfl) (by omega) ?_
                rw [show ((I2, L, g_R s, 306) : pm_H).1 297 (k' * m' + i) = shadF (B.pl u) B.S (k' * m' + i) from shd _ (by omega)]
                refine ps_ar rfl rfl rfl rfl rfl ?_
                refine ps_istore rfl rfl ?_
                refine ps_iinc rfl rfl ?_
                refine ps_goto rfl ?_
                rw [show nI i + Int32.ofInt 1 = nI (i + 1) from nI_1 i]
                exact z
            refine ps_aload rfl rfl ?_
            refine pw_k rfl rfl rfl rfl ⟨Nat.zero_le _, Nat.zero_le _⟩ ?_
            refine M_wideX V ?_
            refine ps_iload rfl rfl ?_
            refine ps_div rfl (nI_nz (by omega) mb) ?_
            rw [nI_div (by omega) mb]
            refine ps_istore rfl rfl ?_
            refine pw_c rfl ?_
            refine ps_istore rfl rfl ?_
            refine pw_c rfl ?_
            refine ps_istore rfl rfl ?_
            exact loop m' 0 (by omega)
          · rw [if_pos (fun z => kl z.2)] at ea
            refine ps_icmpf rfl (decide_eq_false (fun z => kl ((nI_ltI (by omega) (by omega)).mp z))) ?_
            exact ref ea
        · rw [if_pos (fun z => wm z.1)] at ea
          have ml : (B.pl u).w % m' ≤ (B.pl u).w := Nat.mod_le _ _
          refine ps_ift rfl (decide_eq_true (nI_nz (by omega) (by omega))) ?_
          exact ref ea
    · refine ps_aload rfl rfl ?_
      refine ps_iload rfl rfl ?_
      refine pw_c rfl ?_
      refine ps_icmpf rfl (decide_eq_false (fun z => by have z := (i_lt _ _).mp z; omega)) ?_
      refine ps_iload rfl rfl ?_
      refine ps_iff rfl (decide_eq_false (fun z => by have z := (i_le _ _).mp z; omega)) ?_
      exact no (fun z => h0 z.2)
  · refine ps_aload rfl rfl ?_
    refine ps_iload rfl rfl ?_
    refine pw_c rfl ?_
    refine ps_icmpt rfl (decide_eq_true ((i_lt _ _).mpr (by omega))) ?_
    exact no (fun z => h2 z.1)
end UC
