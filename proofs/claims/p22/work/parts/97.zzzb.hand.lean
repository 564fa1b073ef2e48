/-! BY HAND: the model's calls about shadows, third (printed by wip/src/gen97zzzb.py) -/
section UD
variable {I I' I1 I2 J : Nat → Nat → Int32} {L : Nat → Nat → Int64} {s : Nat → Option Nat} {Q : List Value → pm_H → Prop} {ys : List Int32} {k sh u : Nat} {ng : Bool} {P : sPl} {S : sS} {B : sB} {pc : sPc} {f g : Nat → Int32} {h : pm_H} {o : Nat}
theorem mV_sh {sh' : Nat} (h : mV k P S sh ng I) (hs : sh' ≤ 2000) : mV k P S sh' ng (pm_u I 275 25 (nI sh')) := by
  obtain ⟨⟨p1, p2, p3, p4⟩, hr, h01, hS, ok, on, u1, u2, u3, u4⟩ := h
  have c1 : ∀ a j, (a = 278 ∨ a = 280 ∨ a = 282 ∨ a = 288) → pm_u I 275 25 (nI sh') a j = I a j := fun a j z => pu_o (by omega)
  exact ⟨⟨p1, (c1 _ _ (by omega)).trans p2, (c1 _ _ (by omega)).trans p3, p4⟩, fun i hi => ⟨(c1 _ _ (by omega)).trans (hr i hi).1, (c1 _ _ (by omega)).trans (hr i hi).2⟩, h01, mSc_f hS ok (fun j => c1 _ _ (by omega)), ok, on, (pu_n (by decide)).trans u1, pu_s, (pu_n (by decide)).trans u3, hs⟩
theorem mV_ng {ng' : Bool} (h : mV k P S sh ng I) : mV k P S sh ng' (pm_u I 275 26 (bI ng')) := by
  obtain ⟨⟨p1, p2, p3, p4⟩, hr, h01, hS, ok, on, u1, u2, u3, u4⟩ := h
  have c1 : ∀ a j, (a = 278 ∨ a = 280 ∨ a = 282 ∨ a = 288) → pm_u I 275 26 (bI ng') a j = I a j := fun a j z => pu_o (by omega)
  exact ⟨⟨p1, (c1 _ _ (by omega)).trans p2, (c1 _ _ (by omega)).trans p3, p4⟩, fun i hi => ⟨(c1 _ _ (by omega)).trans (hr i hi).1, (c1 _ _ (by omega)).trans (hr i hi).2⟩, h01, mSc_f hS ok (fun j => c1 _ _ (by omega)), ok, on, (pu_n (by decide)).trans u1, (pu_n (by decide)).trans u2, pu_s, u4⟩
theorem mFF_g (h : mFF B I) (ok : B.ok) (c : ∀ a j, (a = 278 ∨ a = 280 ∨ a = 282 ∨ a = 288 ∨ a = 294 ∨ a = 293 ∨ a = 291 ∨ a = 292 ∨ (a = 275 ∧ j = 14)) → I' a j = I a j) : mFF B I' := mFF_o h ok c
theorem M_frames9 (hm : mFF B I) (ok : B.ok) (ku : okU B.S B.ps) (n t x y : Int32) (kk : ∀ r I', r = exv (qFrames B n t x y) → mQg I I' → mFF B I' → Q [.int r] (I', L, g_R s, 306)) : pm_W (g_P ys) 265 0 [.ref 275, .int n, .int t, .int x, .int y, .retAddr 0, .retAddr 0] [] (I, L, g_R s, 306) (0, 0) Q := by
  have e0 : (0 : Int32).toInt = 0 := rfl
  have p6 := ok.1
  have go : ∀ g : Bool, g = decide (gdR n t) → pm_W (g_P ys) 265 31 [.ref 275, .int n, .int t, .int x, .int y, .retAddr 0, .retAddr 0] [.int (bI g), .ref 275, .ref 275] (I, L, g_R s, 306) (0, 0) Q := by
    intro g hg
    refine ps_iload rfl rfl ?_
    refine ps_iload rfl rfl ?_
    refine pw_k rfl rfl rfl rfl ⟨Nat.zero_le _, Nat.zero_le _⟩ ?_
    refine M_whyAtX hm ok ku g x y ?_
    have fin : ∀ e, ¬ e = 0 → qFrames B n t x y = .error e → pm_W (g_P ys) 265 37 [.ref 275, .int n, .int t, .int x, .int y, .retAddr 0, .retAddr 0] [.int e, .ref 275] (I, L, g_R s, 306) (0, 0) Q := by
      intro e he ea
      refine pw_k rfl rfl rfl rfl ⟨Nat.zero_le _, Nat.zero_le _⟩ ?_
      refine M_is ?_
      rw [decide_eq_false he]
      refine ps_iff rfl (by decide) ?_
      refine pw_c rfl ?_
      refine ps_iret rfl rfl ?_
      exact kk _ _ (by rw [ea]; rfl) mQg_s (mFF_st hm ok)
    by_cases gd : gdR n t
    · rw [decide_eq_true gd] at hg
      subst hg
      by_cases hp : B.ps = 0
      · rw [wy_n hp]
        exact fin 2 (by decide) (by unfold qFrames; rw [if_neg (fun z => z gd), plU_n hp])
      · obtain ⟨u, hu, eu⟩ := ps_u ku hp
        have ea : qFrames B n t x y = if ¬ onQ (B.pl u) x y then .error 2 else .ok (suI (fun f => wtF (B.pl u) (frR (B.pl u) B.S (nI (f * t.toInt.toNat))) (x.toInt.toNat + f * t.toInt.toNat) y.toInt.toNat) n.toInt.toNat) := by
          unfold qFrames
          rw [if_neg (fun z => z gd), plU_s hu eu p6]
        rw [wy_u ok hu eu]
        by_cases on : onQ (B.pl u) x y
        · rw [if_neg (fun z => z on)] at ea
          rw [if_pos on]
          clear fin
          obtain ⟨x0, hx0⟩ : ∃ z, z = x.toInt.toNat := ⟨_, rfl⟩
          obtain ⟨y0, hy0⟩ : ∃ z, z = y.toInt.toNat := ⟨_, rfl⟩
          obtain ⟨n0, hn0⟩ : ∃ z, z = n.toInt.toNat := ⟨_, rfl⟩
          obtain ⟨t0, ht0⟩ : ∃ z, z = t.toInt.toNat := ⟨_, rfl⟩
          have ex := nI_oz hx0 on.1.1
          have ey := nI_oz hy0 on.2.1
          have en := nI_oz hn0 (by omega)
          have et := nI_oz ht0 (by omega)
          have xl : x0 < (B.pl u).w := by omega
          have yl : y0 < (B.pl u).v := by omega
          have n20 : n0 ≤ 20 := by omega
          have t99 : t0 ≤ 99 := by omega
          rw [← hx0, ← hy0, ← hn0, ← ht0] at ea
          clear hx0 hy0 hn0 ht0 on gd
          subst ex ey en et
          have hm := mFF_st (e := 0) hm ok
          have q3 : mQg I (stI I 0) := mQg_s
          refine pw_k rfl rfl rfl rfl ⟨Nat.zero_le _, Nat.zero_le _⟩ ?_
          refine M_is ?_
          refine ps_ift rfl (by decide) ?_
          show pm_W _ _ _ _ _ (stI I 0, L, g_R s, 306) _ _
          generalize stI I 0 = J at hm q3 ⊢
          refine ps_aload rfl rfl ?_
          refine ps_aload rfl rfl ?_
          refine ps_gfr 11 16 rfl rfl rfl rfl rfl (rfl) ?_
          refine pw_c rfl ?_
          refine ps_iald (4) rfl rfl rfl (rfl) (by omega) ?_
          rw [show ((J, L, g_R s, 306) : pm_H).1 288 4 = nI u from mFF_u hm eu]
          refine pw_k rfl rfl rfl rfl ⟨Nat.zero_le _, Nat.zero_le _⟩ ?_
          refine M_usesX ?_
          show pm_W _ _ _ _ _ (usI u J, L, g_R s, 306) _ _
          have V1 := M_begU hm ok hu
          obtain ⟨wb, vb, w0, v0, n9⟩ := mV_b V1
          have h01 := V1.2.2.1
          have oN := hm.2.2.2
          have loop : ∀ d f, f + d = n0 → ∀ I' sh, mQg J I' → mFF B I' → mV u (B.pl u) B.S sh false I' → pm_W (g_P ys) 265 61 [.ref 275, .int (nI n0), .int (nI t0), .int (nI x0), .int (nI y0), .int (suI (fun f => wtF (B.pl u) (frR (B.pl u) B.S (nI (f * t0))) (x0 + f * t0) y0) f), .int (nI f)] [] (I', L, g_R s, 306) (0, 0) Q := by
            intro d
            induction d with
            | zero =>
              intro f hf I' sh g1 m1 V
              have ef : f = n0 := by omega
              subst ef
              refine ps_iload rfl rfl ?_
              refine ps_iload rfl rfl ?_
              refine ps_icmpt rfl (decide_eq_true (nI_le (by omega) (by omega))) ?_
              refine ps_aload rfl rfl ?_
              refine pw_c rfl ?_
              refine ps_pfi 11 25 rfl rfl rfl rfl rfl ?_
              refine ps_iload rfl rfl ?_
              refine ps_iret rfl rfl ?_
              exact kk _ _ (by rw [ea]; rfl) (mQg_t q3 (mQg_t g1 (fun a j _ z2 => pu_x (by omega)))) (mFF_o m1 ok (fun a j z => pu_x (by omega)))
            | succ d ih =>
              intro f hf I' sh g1 m1 V
              have z := fun I' sh => ih (f + 1) (by omega) I' sh
              rw [suI_s] at z
              have fb : f * t0 ≤ 20 * 99 := Nat.mul_le_mul (by omega) t99
              refine ps_iload rfl rfl ?_
              refine ps_iload rfl rfl ?_
              refine ps_icmpf rfl (decide_eq_false (nI_ge (by omega) (by omega))) ?_
              refine ps_aload rfl rfl ?_
              refine ps_iload rfl rfl ?_
              refine ps_iload rfl rfl ?_
              refine ps_ar rfl rfl rfl rfl rfl ?_
              rw [pk_mul]
              refine ps_pfi 11 25 rfl rfl rfl rfl rfl ?_
              refine ps_aload rfl rfl ?_
              have V2 := mV_sh (sh' := f * t0) V (by omega)
              refine pw_k rfl rfl rfl rfl ⟨Nat.zero_le _, Nat.zero_le _⟩ ?_
              refine M_laysShadowsX V2 (fun I2 c2 L2 => ?_)
              have V3 : mV u (B.pl u) B.S (f * t0) false I2 := mV_o V2 (mCg_r (fun a j z => c2 a j (fun e => z (by unfold mRow; omega)) (fun e => z (by unfold mRow; omega)) (fun e => z (by unfold mRow; omega))))
              have s3 : ∀ i, i < (B.pl u).w * (B.pl u).v → I2 297 i = frR (B.pl u) B.S (nI (f * t0)) i := fun i hi => (L2 i hi).2.2.trans (shMM_f h01 oN w0 v0 (by omega) hi)
              refine ps_iload rfl rfl ?_
              refine ps_aload rfl rfl ?_
              refine ps_aload rfl rfl ?_
              refine ps_gfr 11 29 rfl rfl rfl rfl rfl (rfl) ?_
              refine ps_iload rfl rfl ?_
              refine ps_iload rfl rfl ?_
              refine pw_k rfl rfl rfl rfl ⟨Nat.zero_le _, Nat.zero_le _⟩ ?_
              refine M_decodedAtX V3 hSh s3 (by omega) (by omega) ?_
              refine ps_ar rfl rfl rfl rfl rfl ?_
              refine ps_istore rfl rfl ?_
              refine ps_iinc rfl rfl ?_
              refine ps_goto rfl ?_
              rw [show nI f + Int32.ofInt 1 = nI (f + 1) from nI_1 f]
              exact z I2 (f * t0) (mQg_t g1 (fun a j z1 z2 => (c2 a j (by omega) (by omega) (by omega)).trans (pu_x (by omega)))) (mFF_o m1 ok (fun a j z => (c2 a j (by omega) (by omega) (by omega)).trans (pu_x (by omega)))) V3
          refine pw_c rfl ?_
          refine ps_istore rfl rfl ?_
          refine pw_c rfl ?_
          refine ps_istore rfl rfl ?_
          exact loop n0 0 (by omega) _ 0 mQg_us (mFF_o hm ok (fun a j z => usI_o (by omega))) V1
        · rw [if_pos on] at ea
          rw [if_neg on]
          exact fin 2 (by decide) ea
    · rw [decide_eq_false gd] at hg
      subst hg
      rw [wy_1]
      exact fin 1 (by decide) (by unfold qFrames; rw [if_pos gd])
  refine ps_aload rfl rfl ?_
  refine ps_aload rfl rfl ?_
  refine ps_iload rfl rfl ?_
  refine ps_ar rfl rfl rfl rfl rfl ?_
  refine pw_c rfl ?_
  refine pw_c rfl ?_
  refine pw_k rfl rfl rfl rfl ⟨Nat.zero_le _, Nat.zero_le _⟩ ?_
  refine M_isIn ?_
  rw [isIn_k n 1 20 1 20 rfl rfl]
  by_cases h1 : 1 ≤ n.toInt ∧ n.toInt ≤ 20
  · rw [decide_eq_true h1]
    refine ps_iff rfl (by decide) ?_
    refine ps_iload rfl rfl ?_
    refine ps_ar rfl rfl rfl rfl rfl ?_
    refine pw_c rfl ?_
    refine pw_c rfl ?_
    refine pw_k rfl rfl rfl rfl ⟨Nat.zero_le _, Nat.zero_le _⟩ ?_
    refine M_isIn ?_
    rw [isIn_k t 1 99 1 99 rfl rfl]
    by_cases h2 : 1 ≤ t.toInt ∧ t.toInt ≤ 99
    · rw [decide_eq_true h2]
      refine ps_iff rfl (by decide) ?_
      refine pw_c rfl ?_
      refine ps_goto rfl ?_
      exact go true (decide_eq_true ⟨h1, h2⟩).symm
    · rw [decide_eq_false h2]
      refine ps_ift rfl (by decide) ?_
      refine pw_c rfl ?_
      exact go false (decide_eq_false (fun z => h2 z.2)).symm
  · rw [decide_eq_false h1]
    refine ps_ift rfl (by decide) ?_
    refine pw_c rfl ?_
    exact go false (decide_eq_false (fun z => h1 z.1)).symm
theorem M_anti9 (hm : mFF B I) (ok : B.ok) (ku : okU B.S B.ps) (x y : Int32) (kk : ∀ r I', r = exv (qAnti B x y) → mQg I I' → mFF B I' → Q [.int r] (I', L, g_R s, 306)) : pm_W (g_P ys) 266 0 [.ref 275, .int x, .int y, .retAddr 0] [] (I, L, g_R s, 306) (0, 0) Q := by
  have e0 : (0 : Int32).toInt = 0 := rfl
  have p6 := ok.1
  have fin : ∀ e, ¬ e = 0 → qAnti B x y = .error e → pm_W (g_P ys) 266 8 [.ref 275, .int x, .int y, .retAddr 0] [.int e, .ref 275] (I, L, g_R s, 306) (0, 0) Q := by
    intro e he ea
    refine pw_k rfl rfl rfl rfl ⟨Nat.zero_le _, Nat.zero_le _⟩ ?_
    refine M_is ?_
    rw [decide_eq_false he]
    refine ps_iff rfl (by decide) ?_
    refine pw_c rfl ?_
    refine ps_iret rfl rfl ?_
    exact kk _ _ (by rw [ea]; rfl) mQg_s (mFF_st hm ok)
  refine ps_aload rfl rfl ?_
  refine ps_aload rfl rfl ?_
  refine pw_c rfl ?_
  refine ps_iload rfl rfl ?_
  refine ps_iload rfl rfl ?_
  refine pw_k rfl rfl rfl rfl ⟨Nat.zero_le _, Nat.zero_le _⟩ ?_
  refine M_whyAtX hm ok ku true x y ?_
  by_cases hp : B.ps = 0
  · rw [wy_n hp]
    exact fin 2 (by decide) (by unfold qAnti; rw [plU_n hp])
  · obtain ⟨u, hu, eu⟩ := ps_u ku hp
    have ea : qAnti B x y = if ¬ onQ (B.pl u) x y then .error 2 else .ok (wtF (B.pl u) (anF (B.pl u) B.S) x.toInt.toNat y.toInt.toNat) := by
      unfold qAnti
      rw [plU_s hu eu p6]
    rw [wy_u ok hu eu]
    by_cases on : onQ (B.pl u) x y
    · rw [if_neg (fun z => z on)] at ea
      rw [if_pos on]
      clear fin
      obtain ⟨x0, hx0⟩ : ∃ z, z = x.toInt.toNat := ⟨_, rfl⟩
      obtain ⟨y0, hy0⟩ : ∃ z, z = y.toInt.toNat := ⟨_, rfl⟩
      have ex := nI_oz hx0 on.1.1
      have ey := nI_oz hy0 on.2.1
      have xl : x0 < (B.pl u).w := by omega
      have yl : y0 < (B.pl u).v := by omega
      rw [← hx0, ← hy0] at ea
      clear hx0 hy0 on
      subst ex ey
      have hm := mFF_st (e := 0) hm ok
      have q3 : mQg I (stI I 0) := mQg_s
      refine pw_k rfl rfl rfl rfl ⟨Nat.zero_le _, Nat.zero_le _⟩ ?_
      refine M_is ?_
      refine ps_ift rfl (by decide) ?_
      show pm_W _ _ _ _ _ (stI I 0, L, g_R s, 306) _ _
      generalize stI I 0 = J at hm q3 ⊢
      refine ps_aload rfl rfl ?_
      refine ps_aload rfl rfl ?_
      refine ps_gfr 11 16 rfl rfl rfl rfl rfl (rfl) ?_
      refine pw_c rfl ?_
      refine ps_iald (4) rfl rfl rfl (rfl) (by omega) ?_
      rw [show ((J, L, g_R s, 306) : pm_H).1 288 4 = nI u from mFF_u hm eu]
      refine pw_k rfl rfl rfl rfl ⟨Nat.zero_le _, Nat.zero_le _⟩ ?_
      refine M_usesX ?_
      show pm_W _ _ _ _ _ (usI u J, L, g_R s, 306) _ _
      have V1 := M_begU hm ok hu
      obtain ⟨wb, vb, w0, v0, n9⟩ := mV_b V1
      have h01 := V1.2.2.1
      have oN := hm.2.2.2
      have V2 := mV_ng (ng' := true) V1
      refine ps_aload rfl rfl ?_
      refine pw_c rfl ?_
      refine ps_pfz 11 26 rfl rfl rfl rfl rfl (Or.inr rfl) ?_
      refine ps_aload rfl rfl ?_
      refine pw_k rfl rfl rfl rfl ⟨Nat.zero_le _, Nat.zero_le _⟩ ?_
      refine M_laysShadowsX V2 (fun I2 c2 L2 => ?_)
      have V3 : mV u (B.pl u) B.S 0 true I2 := mV_o V2 (mCg_r (fun a j z => c2 a j (fun e => z (by unfold mRow; omega)) (fun e => z (by unfold mRow; omega)) (fun e => z (by unfold mRow; omega))))
      have q2 : mQg J I2 := fun a j z1 z2 => (c2 a j (by omega) (by omega) (by omega)).trans ((pu_x (by omega)).trans (usI_o (by omega)))
      have k2 : ∀ a j, (a = 278 ∨ a = 280 ∨ a = 282 ∨ a = 288 ∨ a = 294 ∨ a = 293 ∨ a = 291 ∨ a = 292 ∨ (a = 275 ∧ j = 14)) → I2 a j = J a j := fun a j z => (c2 a j (by omega) (by omega) (by omega)).trans ((pu_x (by omega)).trans (usI_o (by omega)))
      have l1 : ∀ d c, c + d = (B.pl u).w * (B.pl u).v → ∀ I' : Nat → Nat → Int32, (∀ a j, ¬ a = 301 → I' a j = I2 a j) → (∀ j, j < c → I' 301 j = shMM (B.pl u) B.S 0 true j) → pm_W (g_P ys) 266 37 [.ref 275, .int (nI x0), .int (nI y0), .int (nI c)] [] (I', L, g_R s, 306) (0, 0) Q := by
        intro d
        induction d with
        | zero =>
          intro c hc I' g1 g2
          have ec : c = (B.pl u).w * (B.pl u).v := by omega
          subst ec
          have V' : mV u (B.pl u) B.S 0 true I' := mV_o V3 (mCg_r (fun a j z => g1 a j (fun e => z (by unfold mRow; omega))))
          have V4 := mV_ng (ng' := false) V'
          refine ps_iload rfl rfl ?_
          refine ps_aload rfl rfl ?_
          refine pw_k rfl rfl rfl rfl ⟨Nat.zero_le _, Nat.zero_le _⟩ ?_
          refine M_cells0X V' ?_
          refine ps_icmpt rfl (decide_eq_true (nI_le (by omega) (by omega))) ?_
          refine ps_aload rfl rfl ?_
          refine pw_c rfl ?_
          refine ps_pfz 11 26 rfl rfl rfl rfl rfl (Or.inl rfl) ?_
          refine ps_aload rfl rfl ?_
          refine pw_k rfl rfl rfl rfl ⟨Nat.zero_le _, Nat.zero_le _⟩ ?_
          refine M_laysShadowsX V4 (fun I4 c4 L4 => ?_)
          have V5 : mV u (B.pl u) B.S 0 false I4 := mV_o V4 (mCg_r (fun a j z => c4 a j (fun e => z (by unfold mRow; omega)) (fun e => z (by unfold mRow; omega)) (fun e => z (by unfold mRow; omega))))
          have as4 : ∀ j, j < (B.pl u).w * (B.pl u).v → I4 301 j = shMM (B.pl u) B.S 0 true j := fun j hj => (c4 _ _ (by decide) (by decide) (by decide)).trans ((pu_o (by decide)).trans (g2 j hj))
          have q4 : mQg J I4 := mQg_t q2 (fun a j z1 z2 => (c4 a j (by omega) (by omega) (by omega)).trans ((pu_x (by omega)).trans (g1 a j (by omega))))
          have m4 : mFF B I4 := mFF_o hm ok (fun a j z => (c4 a j (by omega) (by omega) (by omega)).trans ((pu_x (by omega)).trans ((g1 a j (by omega)).trans (k2 a j z))))
          have l2 : ∀ d c, c + d = (B.pl u).w * (B.pl u).v → ∀ I' : Nat → Nat → Int32, (∀ a j, ¬ a = 301 → I' a j = I4 a j) → (∀ j, j < (B.pl u).w * (B.pl u).v → I' 301 j = if j < c then anF (B.pl u) B.S j else shMM (B.pl u) B.S 0 true j) → pm_W (g_P ys) 266 74 [.ref 275, .int (nI x0), .int (nI y0), .int (nI c)] [] (I', L, g_R s, 306) (0, 0) Q := by
            intro d
            induction d with
            | zero =>
              intro c hc I' g1 g2
              have V' : mV u (B.pl u) B.S 0 false I' := mV_o V5 (mCg_r (fun a j z => g1 a j (fun e => z (by unfold mRow; omega))))
              refine ps_iload rfl rfl ?_
              refine ps_aload rfl rfl ?_
              refine pw_k rfl rfl rfl rfl ⟨Nat.zero_le _, Nat.zero_le _⟩ ?_
              refine M_cells0X V' ?_
              refine ps_icmpt rfl (decide_eq_true (nI_le (by omega) (by omega))) ?_
              refine ps_aload rfl rfl ?_
              refine ps_aload rfl rfl ?_
              refine ps_gfr 11 37 rfl rfl rfl rfl rfl (rfl) ?_
              refine ps_iload rfl rfl ?_
              refine ps_iload rfl rfl ?_
              refine pw_k rfl rfl rfl rfl ⟨Nat.zero_le _, Nat.zero_le _⟩ ?_
              refine M_decodedAtX V' hAs (f := anF (B.pl u) B.S) (fun i hi => by rw [g2 i hi, if_pos (by omega)]) (by omega) (by omega) ?_
              refine ps_iret rfl rfl ?_
              exact kk _ _ (by rw [ea]; rfl) (mQg_t q3 (mQg_t q4 (fun a j z1 _ => g1 a j (by omega)))) (mFF_o m4 ok (fun a j z => g1 a j (by omega)))
            | succ d ih =>
              intro c hc I' g1 g2
              have V' : mV u (B.pl u) B.S 0 false I' := mV_o V5 (mCg_r (fun a j z => g1 a j (fun e => z (by unfold mRow; omega))))
              have lo : I' 295 c = lostF (B.pl u) B.S c := (g1 _ _ (by decide)).trans (L4 c (by omega)).1
              have an := an_eq (P := B.pl u) (S := B.S) (i := c) h01 oN w0 v0
              have nx : ∀ v, v = anF (B.pl u) B.S c → pm_W (g_P ys) 266 113 [.ref 275, .int (nI x0), .int (nI y0), .int (nI c)] [.int v, .int (nI c), .ref 301] (I', L, g_R s, 306) (0, 0) Q := by
                intro v hv
                subst hv
                refine ps_iast (c) rfl rfl rfl (rfl) (by omega) ?_
                refine ps_iinc rfl rfl ?_
                refine ps_goto rfl ?_
                rw [show nI c + Int32.ofInt 1 = nI (c + 1) from nI_1 c]
                refine ih (c + 1) (by omega) _ (fun a j z => (pu_o z).trans (g1 a j z)) (fun j hj => ?_)
                show pm_u I' 301 c (anF (B.pl u) B.S c) 301 j = _
                by_cases e1 : j = c
                · rw [e1, pu_s, if_pos (by omega)]
                · rw [pu_n e1, g2 j hj]
                  by_cases e2 : j < c
                  · rw [if_pos e2, if_pos (by omega)]
                  · rw [if_neg e2, if_neg (by omega)]
              refine ps_iload rfl rfl ?_
              refine ps_aload rfl rfl ?_
              refine pw_k rfl rfl rfl rfl ⟨Nat.zero_le _, Nat.zero_le _⟩ ?_
              refine M_cells0X V' ?_
              refine ps_icmpf rfl (decide_eq_false (nI_ge (by omega) (by omega))) ?_
              refine ps_aload rfl rfl ?_
              refine ps_gfr 11 37 rfl rfl rfl rfl rfl (rfl) ?_
              refine ps_iload rfl rfl ?_
              refine ps_aload rfl rfl ?_
              refine ps_gfr 11 27 rfl rfl rfl rfl rfl (rfl) ?_
              refine ps_iload rfl rfl ?_
              refine ps_bald (c) rfl rfl (Or.inr rfl) rfl (rfl) (by omega) ?_
              rw [show ((I', L, g_R s, 306) : pm_H).1 295 c = lostF (B.pl u) B.S c from lo]
              rcases lost_01 (P := B.pl u) (S := B.S) c with l0 | l1
              · rw [l0]
                rw [if_neg (by rw [l0]; decide)] at an
                refine ps_ift rfl (by decide) ?_
                refine ps_aload rfl rfl ?_
                refine ps_gfr 11 29 rfl rfl rfl rfl rfl (rfl) ?_
                refine ps_iload rfl rfl ?_
                refine ps_iald (c) rfl rfl rfl (rfl) (by omega) ?_
                rw [show ((I', L, g_R s, 306) : pm_H).1 297 c = shMM (B.pl u) B.S 0 false c from (g1 _ _ (by decide)).trans (L4 c (by omega)).2.2]
                refine ps_aload rfl rfl ?_
                refine ps_gfr 11 37 rfl rfl rfl rfl rfl (rfl) ?_
                refine ps_iload rfl rfl ?_
                refine ps_iald (c) rfl rfl rfl (rfl) (by omega) ?_
                rw [show ((I', L, g_R s, 306) : pm_H).1 301 c = shMM (B.pl u) B.S 0 true c from by
                  have z := g2 c (by omega)
                  rw [if_neg (by omega)] at z
                  exact z]
                refine ps_ar rfl rfl rfl rfl rfl ?_
                exact nx _ an
              · rw [l1]
                rw [if_pos l1] at an
                refine ps_iff rfl (by decide) ?_
                refine pw_c rfl ?_
                refine ps_goto rfl ?_
                exact nx _ an
          refine pw_c rfl ?_
          refine ps_istore rfl rfl ?_
          exact l2 ((B.pl u).w * (B.pl u).v) 0 (by omega) I4 (fun _ _ _ => rfl) (fun j hj => by rw [if_neg (by omega)]; exact as4 j hj)
        | succ d ih =>
          intro c hc I' g1 g2
          have V' : mV u (B.pl u) B.S 0 true I' := mV_o V3 (mCg_r (fun a j z => g1 a j (fun e => z (by unfold mRow; omega))))
          refine ps_iload rfl rfl ?_
          refine ps_aload rfl rfl ?_
          refine pw_k rfl rfl rfl rfl ⟨Nat.zero_le _, Nat.zero_le _⟩ ?_
          refine M_cells0X V' ?_
          refine ps_icmpf rfl (decide_eq_false (nI_ge (by omega) (by omega))) ?_
          refine ps_aload rfl rfl ?_
          refine ps_gfr 11 37 rfl rfl rfl rfl rfl (rfl) ?_
          refine ps_iload rfl rfl ?_
          refine ps_aload rfl rfl ?_
          refine ps_gfr 11 29 rfl rfl rfl rfl rfl (rfl) ?_
          refine ps_iload rfl rfl ?_
          refine ps_iald (c) rfl rfl rfl (rfl) (by omega) ?_
          rw [show ((I', L, g_R s, 306) : pm_H).1 297 c = shMM (B.pl u) B.S 0 true c from (g1 _ _ (by decide)).trans (L2 c (by omega)).2.2]
          refine ps_iast (c) rfl rfl rfl (rfl) (by omega) ?_
          refine ps_iinc rfl rfl ?_
          refine ps_goto rfl ?_
          rw [show nI c + Int32.ofInt 1 = nI (c + 1) from nI_1 c]
          exact ih (c + 1) (by omega) _ (fun a j z => (pu_o z).trans (g1 a j z)) (row_t (k := c) (G := shMM (B.pl u) B.S 0 true) g2 rfl)
      refine pw_c rfl ?_
      refine ps_istore rfl rfl ?_
      exact l1 ((B.pl u).w * (B.pl u).v) 0 (by omega) I2 (fun _ _ _ => rfl) (fun j hj => absurd hj (by omega))
    · rw [if_pos on] at ea
      rw [if_neg on]
      exact fin 2 (by decide) ea
/-- THE PICTURE, as the model has it -/
def mPc (pc : sPc) (I : Nat → Nat → Int32) : Prop := (pc.1 = 0 ∧ I 275 41 = 0) ∨ (0 < pc.1 ∧ I 275 41 = 1 ∧ I 275 39 = nI pc.1 ∧ I 275 40 = nI pc.2.1 ∧ ∀ i, i < pc.1 * pc.2.1 → I 302 i = pc.2.2 i)
theorem mPc_o (h : mPc pc I) (c : ∀ a j, (a = 302 ∨ (a = 275 ∧ (j = 41 ∨ j = 39 ∨ j = 40))) → I' a j = I a j) : mPc pc I' := h.imp (fun z => ⟨z.1, (c _ _ (by omega)).trans z.2⟩) (fun z => ⟨z.1, (c _ _ (by omega)).trans z.2.1, (c _ _ (by omega)).trans z.2.2.1, (c _ _ (by omega)).trans z.2.2.2.1, fun i hi => (c _ _ (by omega)).trans (z.2.2.2.2 i hi)⟩)
theorem mPc_q (h : mPc pc I) (q : mQg I I') : mPc pc I' := mPc_o h (fun a j z => q a j (by omega) (by omega))
/-- where keep writes -/
def mQk (I I' : Nat → Nat → Int32) : Prop := ∀ a j : Nat, ¬ (a = 295 ∨ a = 296 ∨ a = 297 ∨ a = 302) → ¬ (a = 275 ∧ (j = 1 ∨ j = 0 ∨ j = 24 ∨ j = 25 ∨ j = 26 ∨ j = 41 ∨ j = 39 ∨ j = 40)) → I' a j = I a j
theorem M_keep9 (hm : mFF B I) (hc : mPc pc I) (ok : B.ok) (ku : okU B.S B.ps) (kk : ∀ r I', r = exv (qKeep B) → mQk I I' → mFF B I' → mPc (kpc B pc) I' → Q [.int r] (I', L, g_R s, 306)) : pm_W (g_P ys) 267 0 [.ref 275, .retAddr 0] [] (I, L, g_R s, 306) (0, 0) Q := by
  have e0 : (0 : Int32).toInt = 0 := rfl
  have p6 := ok.1
  refine ps_aload rfl rfl ?_
  refine ps_aload rfl rfl ?_
  refine ps_gfi 11 14 rfl rfl rfl rfl rfl ?_
  rw [show ((I, L, g_R s, 306) : pm_H).1 275 14 = nI B.ps from hm.1.1]
  by_cases hp : B.ps = 0
  · rw [hp]
    refine ps_iff rfl (by decide) ?_
    refine pw_c rfl ?_
    refine ps_goto rfl ?_
    refine pw_k rfl rfl rfl rfl ⟨Nat.zero_le _, Nat.zero_le _⟩ ?_
    refine M_is ?_
    refine ps_iff rfl (by decide) ?_
    refine pw_c rfl ?_
    refine ps_iret rfl rfl ?_
    refine kk _ (stI I 2) (by unfold qKeep; rw [plU_n hp]; rfl) (fun a j _ z2 => stI_o (by omega)) (mFF_st hm ok) ?_
    unfold kpc
    rw [plU_n hp]
    exact mPc_o hc (fun a j z => stI_o (by omega))
  · obtain ⟨u, hu, eu⟩ := ps_u ku hp
    have ea : qKeep B = .ok (nI ((B.pl u).w * (B.pl u).v)) := by
      unfold qKeep
      rw [plU_s hu eu p6]
    have ek : kpc B pc = ((B.pl u).w, (B.pl u).v, shadF (B.pl u) B.S) := by
      unfold kpc
      rw [plU_s hu eu p6]
    refine ps_ift rfl (decide_eq_true (nI_nz (by omega) (by omega))) ?_
    refine pw_c rfl ?_
    have hm := mFF_st (e := 0) hm ok
    have q3 : ∀ a j, ¬ (a = 275 ∧ (j = 1 ∨ j = 0)) → stI I 0 a j = I a j := fun a j z => stI_o z
    refine pw_k rfl rfl rfl rfl ⟨Nat.zero_le _, Nat.zero_le _⟩ ?_
    refine M_is ?_
    refine ps_ift rfl (by decide) ?_
    show pm_W _ _ _ _ _ (stI I 0, L, g_R s, 306) _ _
    generalize stI I 0 = J at hm q3 ⊢
    refine ps_aload rfl rfl ?_
    refine ps_aload rfl rfl ?_
    refine ps_gfr 11 16 rfl rfl rfl rfl rfl (rfl) ?_
    refine pw_c rfl ?_
    refine ps_iald (4) rfl rfl rfl (rfl) (by omega) ?_
    rw [show ((J, L, g_R s, 306) : pm_H).1 288 4 = nI u from mFF_u hm eu]
    refine pw_k rfl rfl rfl rfl ⟨Nat.zero_le _, Nat.zero_le _⟩ ?_
    refine M_usesX ?_
    show pm_W _ _ _ _ _ (usI u J, L, g_R s, 306) _ _
    refine ps_aload rfl rfl ?_
    refine pw_k rfl rfl rfl rfl ⟨Nat.zero_le _, Nat.zero_le _⟩ ?_
    refine M_laysShadowsX (M_begU hm ok hu) (fun I2 c2 L2 => ?_)
    obtain ⟨V, Ld, lo, wh, shd, q4, m4, s4⟩ := mBg_mk hm ok hu c2 L2
    obtain ⟨wb, vb, w0, v0, n9⟩ := mV_b V
    have loop : ∀ d c, c + d = (B.pl u).w * (B.pl u).v → ∀ I' : Nat → Nat → Int32, (∀ a j, ¬ a = 302 → I' a j = I2 a j) → (∀ j, j < c → I' 302 j = shadF (B.pl u) B.S j) → pm_W (g_P ys) 267 37 [.ref 275, .int (nI c)] [] (I', L, g_R s, 306) (0, 0) Q := by
      intro d
      induction d with
      | zero =>
        intro c hc I' g1 g2
        have ec : c = (B.pl u).w * (B.pl u).v := by omega
        subst ec
        have V' : mV u (B.pl u) B.S 0 false I' := mV_o V (mCg_r (fun a j z => g1 a j (fun e => z (by unfold mRow; omega))))
        refine ps_iload rfl rfl ?_
        refine ps_aload rfl rfl ?_
        refine pw_k rfl rfl rfl rfl ⟨Nat.zero_le _, Nat.zero_le _⟩ ?_
        refine M_cells0X V' ?_
        refine ps_icmpt rfl (decide_eq_true (nI_le (by omega) (by omega))) ?_
        refine ps_aload rfl rfl ?_
        refine ps_aload rfl rfl ?_
        refine pw_k rfl rfl rfl rfl ⟨Nat.zero_le _, Nat.zero_le _⟩ ?_
        refine M_wideX V' ?_
        refine ps_pfi 11 39 rfl rfl rfl rfl rfl ?_
        refine ps_aload rfl rfl ?_
        refine ps_aload rfl rfl ?_
        have o1 : ∀ a j, ¬ (a = 275 ∧ j = 39) → pm_u I' 275 39 (nI (B.pl u).w) a j = I' a j := fun a j z => pu_x z
        have vo : ∀ X : Nat → Nat → Int32, (∀ a j, ¬ (a = 275 ∧ (j = 41 ∨ j = 39 ∨ j = 40)) → X a j = I' a j) → mV u (B.pl u) B.S 0 false X := by
          intro X hX
          obtain ⟨⟨p1, p2, p3, p4⟩, hr, h01, hS, ok', on, u1, u2, u3, u4⟩ := V'
          exact ⟨⟨p1, (hX _ _ (by omega)).trans p2, (hX _ _ (by omega)).trans p3, p4⟩, fun i hi => ⟨(hX _ _ (by omega)).trans (hr i hi).1, (hX _ _ (by omega)).trans (hr i hi).2⟩, h01, mSc_f hS ok' (fun j => hX _ _ (by omega)), ok', on, (hX _ _ (by decide)).trans u1, (hX _ _ (by decide)).trans u2, (hX _ _ (by decide)).trans u3, u4⟩
        refine pw_k rfl rfl rfl rfl ⟨Nat.zero_le _, Nat.zero_le _⟩ ?_
        refine M_highX (vo _ (fun a j z => o1 a j (by omega))) ?_
        refine ps_pfi 11 40 rfl rfl rfl rfl rfl ?_
        refine ps_aload rfl rfl ?_
        refine pw_c rfl ?_
        refine ps_pfz 11 41 rfl rfl rfl rfl rfl (Or.inr rfl) ?_
        refine ps_aload rfl rfl ?_
        have o3 : ∀ a j, ¬ (a = 275 ∧ (j = 41 ∨ j = 39 ∨ j = 40)) → pm_u (pm_u (pm_u I' 275 39 (nI (B.pl u).w)) 275 40 (nI (B.pl u).v)) 275 41 1 a j = I' a j := fun a j z => (pu_x (by omega)).trans ((pu_x (by omega)).trans (pu_x (by omega)))
        refine pw_k rfl rfl rfl rfl ⟨Nat.zero_le _, Nat.zero_le _⟩ ?_
        refine M_cells0X (vo _ o3) ?_
        refine ps_iret rfl rfl ?_
        have p1 : pm_u (pm_u (pm_u I' 275 39 (nI (B.pl u).w)) 275 40 (nI (B.pl u).v)) 275 41 1 275 41 = 1 := pu_s
        have p2 : pm_u (pm_u (pm_u I' 275 39 (nI (B.pl u).w)) 275 40 (nI (B.pl u).v)) 275 41 1 275 39 = nI (B.pl u).w := (pu_n (by decide)).trans ((pu_n (by decide)).trans pu_s)
        have p3 : pm_u (pm_u (pm_u I' 275 39 (nI (B.pl u).w)) 275 40 (nI (B.pl u).v)) 275 41 1 275 40 = nI (B.pl u).v := (pu_n (by decide)).trans pu_s
        refine kk _ _ (by rw [ea]; rfl) (fun a j z1 z2 => (o3 a j (by omega)).trans ((g1 a j (by omega)).trans ((c2 a j (by omega) (by omega) (by omega)).trans ((usI_o (by omega)).trans (q3 a j (by omega)))))) (mFF_o m4 ok (fun a j z => (o3 a j (by omega)).trans (g1 a j (by omega)))) ?_
        rw [ek]
        exact Or.inr ⟨w0, p1, p2, p3, fun i hi => (o3 _ _ (by omega)).trans (g2 i hi)⟩
      | succ d ih =>
        intro c hc I' g1 g2
        have V' : mV u (B.pl u) B.S 0 false I' := mV_o V (mCg_r (fun a j z => g1 a j (fun e => z (by unfold mRow; omega))))
        refine ps_iload rfl rfl ?_
        refine ps_aload rfl rfl ?_
        refine pw_k rfl rfl rfl rfl ⟨Nat.zero_le _, Nat.zero_le _⟩ ?_
        refine M_cells0X V' ?_
        refine ps_icmpf rfl (decide_eq_false (nI_ge (by omega) (by omega))) ?_
        refine ps_aload rfl rfl ?_
        refine ps_gfr 11 38 rfl rfl rfl rfl rfl (rfl) ?_
        refine ps_iload rfl rfl ?_
        refine ps_aload rfl rfl ?_
        refine ps_gfr 11 29 rfl rfl rfl rfl rfl (rfl) ?_
        refine ps_iload rfl rfl ?_
        refine ps_iald (c) rfl rfl rfl (rfl) (by omega) ?_
        rw [show ((I', L, g_R s, 306) : pm_H).1 297 c = shadF (B.pl u) B.S c from (g1 _ _ (by decide)).trans (shd c (by omega))]
        refine ps_iast (c) rfl rfl rfl (rfl) (by omega) ?_
        refine ps_iinc rfl rfl ?_
        refine ps_goto rfl ?_
        rw [show nI c + Int32.ofInt 1 = nI (c + 1) from nI_1 c]
        exact ih (c + 1) (by omega) _ (fun a j z => (pu_o z).trans (g1 a j z)) (row_t (k := c) (G := shadF (B.pl u) B.S) g2 rfl)
    refine pw_c rfl ?_
    refine ps_istore rfl rfl ?_
    exact loop ((B.pl u).w * (B.pl u).v) 0 (by omega) I2 (fun _ _ _ => rfl) (fun j hj => absurd hj (by omega))
theorem M_fitsX (hm : mFF B I) (hc : mPc pc I) (p9 : sPc.ok pc) (ok : B.ok) (hu : u < B.ps) (eu : B.S.us = nI u) (kk : Q [.int (bI (decide (ftP (B.pl u) pc)))] (I, L, g_R s, 306)) : pm_W (g_P ys) 269 0 [.ref 275] [] (I, L, g_R s, 306) (0, 0) Q := by
  have hP := mBp_P hm.1 ok hu
  obtain ⟨wb, vb⟩ := hP.b
  have w0 := hP.2.2.2.1
  rcases hc with ⟨z0, z1⟩ | ⟨z0, z1, z2, z3, z4⟩
  · rw [decide_eq_false (fun z => by have := z.1; omega)] at kk
    refine ps_aload rfl rfl ?_
    refine ps_gfi 11 41 rfl rfl rfl rfl rfl ?_
    rw [show ((I, L, g_R s, 306) : pm_H).1 275 41 = 0 from z1]
    refine ps_ift rfl (by decide) ?_
    refine pw_c rfl ?_
    refine ps_zret rfl rfl (Or.inl rfl) ?_
    exact kk
  · refine ps_aload rfl rfl ?_
    refine ps_gfi 11 41 rfl rfl rfl rfl rfl ?_
    rw [show ((I, L, g_R s, 306) : pm_H).1 275 41 = 1 from z1]
    refine ps_iff rfl (by decide) ?_
    refine ps_aload rfl rfl ?_
    refine ps_aload rfl rfl ?_
    refine ps_gfr 11 16 rfl rfl rfl rfl rfl (rfl) ?_
    refine pw_c rfl ?_
    refine ps_iald (4) rfl rfl rfl (rfl) (by omega) ?_
    rw [show ((I, L, g_R s, 306) : pm_H).1 288 4 = nI u from mFF_u hm eu]
    refine pw_k rfl rfl rfl rfl ⟨Nat.zero_le _, Nat.zero_le _⟩ ?_
    refine M_wideOf hP.1 ?_
    rw [hP.2.1]
    refine ps_aload rfl rfl ?_
    refine ps_gfi 11 39 rfl rfl rfl rfl rfl ?_
    rw [show ((I, L, g_R s, 306) : pm_H).1 275 39 = nI pc.1 from z2]
    by_cases c1 : (B.pl u).w = pc.1
    · refine ps_icmpf rfl (decide_eq_false (fun z => z (by rw [c1]))) ?_
      refine ps_aload rfl rfl ?_
      refine ps_aload rfl rfl ?_
      refine ps_gfr 11 16 rfl rfl rfl rfl rfl (rfl) ?_
      refine pw_c rfl ?_
      refine ps_iald (4) rfl rfl rfl (rfl) (by omega) ?_
      rw [show ((I, L, g_R s, 306) : pm_H).1 288 4 = nI u from mFF_u hm eu]
      refine pw_k rfl rfl rfl rfl ⟨Nat.zero_le _, Nat.zero_le _⟩ ?_
      refine M_highOf hP.1 ?_
      rw [hP.2.2.1]
      refine ps_aload rfl rfl ?_
      refine ps_gfi 11 40 rfl rfl rfl rfl rfl ?_
      rw [show ((I, L, g_R s, 306) : pm_H).1 275 40 = nI pc.2.1 from z3]
      by_cases c2 : (B.pl u).v = pc.2.1
      · rw [decide_eq_true ⟨c1, c2⟩] at kk
        refine ps_icmpf rfl (decide_eq_false (fun z => z (by rw [c2]))) ?_
        refine pw_c rfl ?_
        refine ps_goto rfl ?_
        refine ps_zret rfl rfl (Or.inr rfl) ?_
        exact kk
      · rw [decide_eq_false (fun z => c2 z.2)] at kk
        have b2 := p9.2.1
        refine ps_icmpt rfl (decide_eq_true (fun z => c2 (nI_eqv (by omega) (by omega) z))) ?_
        refine pw_c rfl ?_
        refine ps_zret rfl rfl (Or.inl rfl) ?_
        exact kk
    · rw [decide_eq_false (fun z => c1 z.1)] at kk
      have b2 := p9.1
      refine ps_icmpt rfl (decide_eq_true (fun z => c1 (nI_eqv (by omega) (by omega) z))) ?_
      refine pw_c rfl ?_
      refine ps_zret rfl rfl (Or.inl rfl) ?_
      exact kk
theorem M_minus9 (hm : mFF B I) (hc : mPc pc I) (p9 : sPc.ok pc) (ok : B.ok) (ku : okU B.S B.ps) (x y : Int32) (kk : ∀ r I', r = exv (qMinus B pc x y) → mQg I I' → mFF B I' → Q [.int r] (I', L, g_R s, 306)) : pm_W (g_P ys) 271 0 [.ref 275, .int x, .int y, .retAddr 0, .retAddr 0] [] (I, L, g_R s, 306) (0, 0) Q := by
  have e0 : (0 : Int32).toInt = 0 := rfl
  have p6 := ok.1
  have fin : ∀ e (v : Value), ¬ e = 0 → qMinus B pc x y = .error e → pm_W (g_P ys) 271 25 [.ref 275, .int x, .int y, v, .retAddr 0] [.int e, .ref 275] (I, L, g_R s, 306) (0, 0) Q := by
    intro e v he ea
    refine pw_k rfl rfl rfl rfl ⟨Nat.zero_le _, Nat.zero_le _⟩ ?_
    refine M_is ?_
    rw [decide_eq_false he]
    refine ps_iff rfl (by decide) ?_
    refine pw_c rfl ?_
    refine ps_iret rfl rfl ?_
    exact kk _ _ (by rw [ea]; rfl) mQg_s (mFF_st hm ok)
  refine ps_aload rfl rfl ?_
  refine pw_c rfl ?_
  refine ps_iload rfl rfl ?_
  refine ps_iload rfl rfl ?_
  refine pw_k rfl rfl rfl rfl ⟨Nat.zero_le _, Nat.zero_le _⟩ ?_
  refine M_whyAtX hm ok ku true x y ?_
  by_cases hp : B.ps = 0
  · rw [wy_n hp]
    refine ps_istore rfl rfl ?_
    refine ps_aload rfl rfl ?_
    refine ps_iload rfl rfl ?_
    refine ps_ift rfl (by decide) ?_
    refine ps_iload rfl rfl ?_
    exact fin 2 _ (by decide) (by unfold qMinus; rw [plU_n hp])
  · obtain ⟨u, hu, eu⟩ := ps_u ku hp
    have ea : qMinus B pc x y = if ¬ onQ (B.pl u) x y then .error 2 else if ¬ ftP (B.pl u) pc then .error 5 else .ok (wtF (B.pl u) (shadF (B.pl u) B.S) x.toInt.toNat y.toInt.toNat - wtF (B.pl u) pc.2.2 x.toInt.toNat y.toInt.toNat) := by
      unfold qMinus
      rw [plU_s hu eu p6]
    rw [wy_u ok hu eu]
    by_cases on : onQ (B.pl u) x y
    · rw [if_neg (fun z => z on)] at ea
      rw [if_pos on]
      refine ps_istore rfl rfl ?_
      refine ps_aload rfl rfl ?_
      refine ps_iload rfl rfl ?_
      refine ps_iff rfl (by decide) ?_
      refine ps_aload rfl rfl ?_
      refine pw_k rfl rfl rfl rfl ⟨Nat.zero_le _, Nat.zero_le _⟩ ?_
      refine M_fitsX hm hc p9 ok hu eu ?_
      by_cases ft : ftP (B.pl u) pc
      · rw [if_neg (fun z => z ft)] at ea
        rw [decide_eq_true ft]
        refine ps_ift rfl (by decide) ?_
        refine ps_iload rfl rfl ?_
        clear fin
        obtain ⟨x0, hx0⟩ : ∃ z, z = x.toInt.toNat := ⟨_, rfl⟩
        obtain ⟨y0, hy0⟩ : ∃ z, z = y.toInt.toNat := ⟨_, rfl⟩
        have ex := nI_oz hx0 on.1.1
        have ey := nI_oz hy0 on.2.1
        rw [← hx0, ← hy0] at ea
        have xl : x0 < (B.pl u).w := by omega
        have yl : y0 < (B.pl u).v := by omega
        clear hx0 hy0 on
        subst ex ey
        have hm := mFF_st (e := 0) hm ok
        have q3 : mQg I (stI I 0) := mQg_s
        have hc := mPc_q hc q3
        refine pw_k rfl rfl rfl rfl ⟨Nat.zero_le _, Nat.zero_le _⟩ ?_
        refine M_is ?_
        refine ps_ift rfl (by decide) ?_
        show pm_W _ _ _ _ _ (stI I 0, L, g_R s, 306) _ _
        generalize stI I 0 = J at hm q3 hc ⊢
        refine ps_aload rfl rfl ?_
        refine ps_aload rfl rfl ?_
        refine ps_gfr 11 16 rfl rfl rfl rfl rfl (rfl) ?_
        refine pw_c rfl ?_
        refine ps_iald (4) rfl rfl rfl (rfl) (by omega) ?_
        rw [show ((J, L, g_R s, 306) : pm_H).1 288 4 = nI u from mFF_u hm eu]
        refine pw_k rfl rfl rfl rfl ⟨Nat.zero_le _, Nat.zero_le _⟩ ?_
        refine M_usesX ?_
        show pm_W _ _ _ _ _ (usI u J, L, g_R s, 306) _ _
        refine ps_aload rfl rfl ?_
        refine pw_k rfl rfl rfl rfl ⟨Nat.zero_le _, Nat.zero_le _⟩ ?_
        refine M_laysShadowsX (M_begU hm ok hu) (fun I2 c2 L2 => ?_)
        have G := mBg_mk hm ok hu c2 L2
        obtain ⟨V, Ld, lo, wh, shd, q4, m4, s4⟩ := G
        obtain ⟨wb, vb, w0, v0, n9⟩ := mV_b V
        have pr : ∀ i, i < (B.pl u).w * (B.pl u).v → I2 302 i = pc.2.2 i := by
          rcases mPc_q hc q4 with ⟨z0, _⟩ | ⟨_, _, _, _, z4⟩
          · have := ft.1
            omega
          · intro i hi
            exact z4 i (by rw [← ft.1, ← ft.2]; exact hi)
        have loop : ∀ d c, c + d = (B.pl u).w * (B.pl u).v → ∀ I' : Nat → Nat → Int32, (∀ a j, ¬ a = 301 → I' a j = I2 a j) → (∀ j, j < c → I' 301 j = shadF (B.pl u) B.S j - pc.2.2 j) → pm_W (g_P ys) 271 50 [.ref 275, .int (nI x0), .int (nI y0), .int 0, .int (nI c)] [] (I', L, g_R s, 306) (0, 0) Q := by
          intro d
          induction d with
          | zero =>
            intro c hc I' g1 g2
            have ec : c = (B.pl u).w * (B.pl u).v := by omega
            subst ec
            have V' : mV u (B.pl u) B.S 0 false I' := mV_o V (mCg_r (fun a j z => g1 a j (fun e => z (by unfold mRow; omega))))
            refine ps_iload rfl rfl ?_
            refine ps_aload rfl rfl ?_
            refine pw_k rfl rfl rfl rfl ⟨Nat.zero_le _, Nat.zero_le _⟩ ?_
            refine M_cells0X V' ?_
            refine ps_icmpt rfl (decide_eq_true (nI_le (by omega) (by omega))) ?_
            refine ps_aload rfl rfl ?_
            refine ps_aload rfl rfl ?_
            refine ps_gfr 11 37 rfl rfl rfl rfl rfl (rfl) ?_
            refine ps_iload rfl rfl ?_
            refine ps_iload rfl rfl ?_
            refine pw_k rfl rfl rfl rfl ⟨Nat.zero_le _, Nat.zero_le _⟩ ?_
            refine M_decodedAtX V' hAs (f := fun j => shadF (B.pl u) B.S j - pc.2.2 j) g2 (by omega) (by omega) ?_
            rw [show wtF (B.pl u) (fun j => shadF (B.pl u) B.S j - pc.2.2 j) (x0 + 0) y0 = wtF (B.pl u) (shadF (B.pl u) B.S) x0 y0 - wtF (B.pl u) pc.2.2 x0 y0 from wtF_sub]
            refine ps_iret rfl rfl ?_
            exact kk _ _ (by rw [ea]; rfl) (mQg_t q3 (mQg_t q4 (fun a j z1 _ => g1 a j (by omega)))) (mFF_o m4 ok (fun a j z => g1 a j (by omega)))
          | succ d ih =>
            intro c hc I' g1 g2
            have V' : mV u (B.pl u) B.S 0 false I' := mV_o V (mCg_r (fun a j z => g1 a j (fun e => z (by unfold mRow; omega))))
            refine ps_iload rfl rfl ?_
            refine ps_aload rfl rfl ?_
            refine pw_k rfl rfl rfl rfl ⟨Nat.zero_le _, Nat.zero_le _⟩ ?_
            refine M_cells0X V' ?_
            refine ps_icmpf rfl (decide_eq_false (nI_ge (by omega) (by omega))) ?_
            refine ps_aload rfl rfl ?_
            refine ps_gfr 11 37 rfl rfl rfl rfl rfl (rfl) ?_
            refine ps_iload rfl rfl ?_
            refine ps_aload rfl rfl ?_
            refine ps_gfr 11 29 rfl rfl rfl rfl rfl (rfl) ?_
            refine ps_iload rfl rfl ?_
            refine ps_iald (c) rfl rfl rfl (rfl) (by omega) ?_
            rw [show ((I', L, g_R s, 306) : pm_H).1 297 c = shadF (B.pl u) B.S c from (g1 _ _ (by decide)).trans (shd c (by omega))]
            refine ps_aload rfl rfl ?_
            refine ps_gfr 11 38 rfl rfl rfl rfl rfl (rfl) ?_
            refine ps_iload rfl rfl ?_
            refine ps_iald (c) rfl rfl rfl (rfl) (by omega) ?_
            rw [show ((I', L, g_R s, 306) : pm_H).1 302 c = pc.2.2 c from (g1 _ _ (by decide)).trans (pr c (by omega))]
            refine ps_ar rfl rfl rfl rfl rfl ?_
            refine ps_iast (c) rfl rfl rfl (rfl) (by omega) ?_
            refine ps_iinc rfl rfl ?_
            refine ps_goto rfl ?_
            rw [show nI c + Int32.ofInt 1 = nI (c + 1) from nI_1 c]
            exact ih (c + 1) (by omega) _ (fun a j z => (pu_o z).trans (g1 a j z)) (row_t (k := c) (G := fun j => shadF (B.pl u) B.S j - pc.2.2 j) g2 rfl)
        refine pw_c rfl ?_
        refine ps_istore rfl rfl ?_
        exact loop ((B.pl u).w * (B.pl u).v) 0 (by omega) I2 (fun _ _ _ => rfl) (fun j hj => absurd hj (by omega))
      · rw [if_pos ft] at ea
        rw [decide_eq_false ft]
        refine ps_iff rfl (by decide) ?_
        refine pw_c rfl ?_
        refine ps_goto rfl ?_
        exact fin 5 _ (by decide) ea
    · rw [if_pos on] at ea
      rw [if_neg on]
      refine ps_istore rfl rfl ?_
      refine ps_aload rfl rfl ?_
      refine ps_iload rfl rfl ?_
      refine ps_ift rfl (by decide) ?_
      refine ps_iload rfl rfl ?_
      exact fin 2 _ (by decide) ea
end UD
