/-! BY HAND: class and reference beside each other: load, fault -/
section LJ
variable {ys : List Int32} {Q : List Value → pm_H → Prop} {h h' : pm_H} {I I' : Nat → Nat → Int32} {L L' : Nat → Nat → Int64} {s : Nat → Option Nat}
/-- a text that both read; what the class made of it -/
def LX (n c : Nat) (J : Nat → Nat → Int32) (f T : Nat → Int32) (h1 : pm_H) (b0 b1 : Nat) (R : sR sB) (r : Int32) : Prop := stX f T J n c ∧ R = xTxt f J c c B0 0 ∧ Rw h1 b0 b1 ∧ h1.1 1 1 = 0 ∧ ((∃ k u, R = .error (k, u) ∧ h1.1 0 11 = k ∧ h1.1 0 12 = J 8 u ∧ r = -1) ∨ (∃ B, R = .ok B ∧ B.ok ∧ h1.1 0 11 = 0 ∧ h1.1 0 12 = -1 ∧ r = nI B.ps))
/-- behind the class's load -/
def LM (x r : Int32) (h h1 : pm_H) : Prop := (R4 h1 ∧ ¬ (0 ≤ x.toInt ∧ x.toInt ≤ (h1.1 275 43).toInt) ∧ r = -1) ∨ (∃ tp n c J f b0 b1 R, x = nI n ∧ h1.1 275 43 = nI tp ∧ tp ≤ 800 ∧ n ≤ tp ∧ LX n c J f (h1.1 303) h1 b0 b1 R r)
theorem B_loadN {x : Int32} {tp : Nat} (hl : I 1 1 = nI tp) (h8 : tp ≤ 800) (hv : ¬ (0 ≤ x.toInt ∧ x.toInt ≤ (tp : Int))) (kk : Q [.int (-1)] (pm_u I 0 10 1, L, g_R s, 306)) : pm_W (g_P ys) 17 0 [.ref 0, .int x, .retAddr 0, .retAddr 0] [] (I, L, g_R s, 306) (0, 0) Q := by
  have e0 : (0 : Int32).toInt = 0 := rfl
  have no : pm_W (g_P ys) 17 15 [.ref 0, .int x, .retAddr 0, .retAddr 0] [] (I, L, g_R s, 306) (0, 0) Q := by
    refine ps_aload rfl rfl ?_
    refine pw_c rfl ?_
    refine pw_k rfl rfl rfl rfl ⟨Nat.zero_le _, Nat.zero_le _⟩ ?_
    refine B_refuse ?_
    refine ps_iret rfl rfl ?_
    exact kk
  by_cases h1 : x.toInt < 0
  · refine ps_iload rfl rfl ?_
    refine ps_ift rfl (decide_eq_true ((i_lt _ _).mpr (by omega))) ?_
    exact no
  · refine ps_iload rfl rfl ?_
    refine ps_iff rfl (decide_eq_false (fun z => h1 (by have := (i_lt _ _).mp z; omega))) ?_
    refine ps_iload rfl rfl ?_
    refine ps_aload rfl rfl ?_
    refine ps_gfr 0 0 rfl rfl rfl rfl rfl (rfl) ?_
    refine ps_gfi 1 1 rfl rfl rfl rfl rfl ?_
    rw [show ((I, L, g_R s, 306) : pm_H).1 1 1 = nI tp from hl]
    refine ps_icmpf rfl (decide_eq_false (fun z => hv (by have z := (i_le _ _).mp z; rw [nI_toInt (by omega)] at z; omega))) ?_
    exact no
theorem B_load4 (iv : sx_IV xT xtg xPH h) (re : R4 h) (x : Int32) (kk : ∀ r h1, sx_IV xT xtg xPH h1 → LM x r h h1 → Q [.int r] h1) : pm_W (g_P ys) 17 0 [.ref 0, .int x, .retAddr 0, .retAddr 0] [] h (0, 0) Q := by
  have safe := ap_17 (ys := ys) h [.ref 0, .int x] (fun _ h' => sx_IV xT xtg xPH h') iv ⟨va_r rfl (by omega), va_f, trivial⟩ fas_n (fun _ _ iv' _ _ => iv')
  obtain ⟨I, L, s, rfl⟩ := x_form iv
  have re0 := re
  obtain ⟨⟨b0, b1, w1, w2, w3, w4, w5, w6⟩, ⟨t, t1, t2, t3, t4⟩, f1, f2⟩ := re
  have t2 : I 1 1 = nI t := t2
  have t3 : I 275 43 = nI t := t3
  have bb := isB_b w3
  by_cases hv : 0 ≤ x.toInt ∧ x.toInt ≤ (t : Int)
  · obtain ⟨n, hn⟩ : ∃ n, n = x.toInt.toNat := ⟨_, rfl⟩
    have ex := nI_oz hn hv.1
    subst ex
    have hnt : n ≤ t := by
      have z := hv.2
      rw [nI_toInt (by omega)] at z
      omega
    refine pw_imp (fun v h1 q => ?_) (pw_and safe (B_loadX (Q := fun v h1 => ∃ r, v = [.int r] ∧ LM (nI n) r (I, L, g_R s, 306) h1) w3 w5 w6 t2 t1 hnt (fun j hj => t4 j (by omega)) (fun c J S k u e I1 o1 x1 x2 x3 => ⟨_, rfl, Or.inr ⟨t, n, c, J, (fun j => I 2 j), b0, b1, xTxt (fun j => I 2 j) J c c B0 0, rfl, (o1 _ _ (by omega) (by omega) (by omega) (by omega)).trans t3, t1, hnt, ?_⟩⟩) (fun c J S B' e ok I1 o1 x1 x2 x3 _ _ _ _ p1 s1 => ⟨_, rfl, Or.inr ⟨t, n, c, J, (fun j => I 2 j), b1, b0, xTxt (fun j => I 2 j) J c c B0 0, rfl, (o1 _ _ (by omega) (by omega) (by omega) (by omega) (by omega) (by omega) (by omega)).trans t3, t1, hnt, ?_⟩⟩)))
    · obtain ⟨iv1, r, rfl, q⟩ := q
      exact kk _ _ iv1 q
    · have et : I1 303 = fun j => I 303 j := by
        funext j
        exact o1 _ _ (by omega) (by omega) (by omega) (by omega)
      refine ⟨?_, rfl, ⟨w1, w2, w3, w4, w5, w6⟩, x1, Or.inl ⟨k, u, e, x2, x3, rfl⟩⟩
      show stX _ (I1 303) J n c
      rw [et]
      exact S
    · have et : I1 303 = fun j => I 303 j := by
        funext j
        exact o1 _ _ (by omega) (by omega) (by omega) (by omega) (by omega) (by omega) (by omega)
      refine ⟨?_, rfl, ⟨w1, w3, w2, fun z => w4 z.symm, rfl, rfl⟩, x1, Or.inr ⟨B', e, ok, x2, x3, rfl⟩⟩
      show stX _ (I1 303) J n c
      rw [et]
      exact S
  · refine pw_imp (fun v h1 q => ?_) (pw_and safe (B_loadN (Q := fun v h1 => v = [.int (-1)] ∧ h1 = (pm_u I 0 10 1, L, g_R s, 306)) t2 t1 hv ⟨rfl, rfl⟩))
    obtain ⟨iv1, rfl, rfl⟩ := q
    have o : ∀ a j, ¬ (a = 0 ∧ j = 10) → pm_u I 0 10 1 a j = I a j := fun a j h => pu_x h
    refine kk _ _ iv1 (Or.inl ⟨⟨⟨b0, b1, w1, w2, w3, w4, w5, w6⟩, ⟨t, t1, (o _ _ (by decide)).trans t2, (o _ _ (by decide)).trans t3, fun j hj => ?_⟩, ?_, ?_⟩, ?_, rfl⟩)
    · show (pm_u I 0 10 1 2 j).toInt = (pm_u I 0 10 1 303 j).toInt % 256 ∧ -128 ≤ (pm_u I 0 10 1 303 j).toInt ∧ (pm_u I 0 10 1 303 j).toInt ≤ 127
      rw [o _ _ (by omega), o _ _ (by omega)]
      exact t4 j hj
    · exact ((o _ _ (by decide)).trans f1).trans (o _ _ (by decide)).symm
    · exact ((o _ _ (by decide)).trans f2).trans (o _ _ (by decide)).symm
    · show ¬ (0 ≤ x.toInt ∧ x.toInt ≤ (pm_u I 0 10 1 275 43).toInt)
      rw [o _ _ (by decide), t3, nI_toInt (by omega)]
      exact hv
theorem M_load4 {h1 : pm_H} {x r : Int32} (iv : sx_IV xT xtg xPH h1) (m : LM x r h h1) (kk : ∀ h2, sx_IV xT xtg xPH h2 → R4 h2 → Q [.int r] h2) : pm_W (g_P ys) 278 0 [.ref 275, .int x, .retAddr 0] [] h1 (0, 0) Q := by
  have safe := ap_278 (ys := ys) h1 [.ref 275, .int x] (fun _ h' => sx_IV xT xtg xPH h') iv ⟨va_M, va_f, trivial⟩ fas_n (fun _ _ iv' _ _ => iv')
  rcases m with ⟨re, hv, rfl⟩ | ⟨tp, n, c, J, f, b0, b1, R, rfl, tt, t8, hn, S, hR, ⟨w1, w2, w3, w4, w5, w6⟩, l0, m⟩
  · obtain ⟨I, L, s, rfl⟩ := x_form iv
    obtain ⟨g1, g2⟩ := is_iv (a := 1) iv (by decide) (by decide)
    refine M_loadN hv (kk _ g1 (R4_fr (by decide) g2 re))
  · have nb := iv.1 275 51 (.ofNat 51, .ofNat 51, .ofNat 0, .ofNat 9999) (by decide) (by decide) (by decide)
    have bb := iv.1 275 53 (.ofNat 53, .ofNat 53, .ofNat 0, .ofNat 800) (by decide) (by decide) (by decide)
    obtain ⟨I, L, s, rfl⟩ := x_form iv
    have fin : ∀ h2 : pm_H, sx_IV xT xtg xPH h2 → (∀ j, j < 13 → h2.2.1 304 j = wC j) → h2.2.2.1 0 6 = some b0 → h2.2.2.1 0 7 = some b1 → h2.1 1 1 = 0 → h2.1 275 43 = 0 → Rf h2 → Q [.int r] h2 := fun h2 iv2 a1 a2 a3 a4 a5 a6 => kk h2 iv2 ⟨⟨b0, b1, a1, w2, w3, w4, a2, a3⟩, ⟨0, by omega, a4, a5, fun j hj => absurd hj (by omega)⟩, a6⟩
    refine pw_imp (fun v h2 q => ?_) (pw_and safe (M_loadX (Q := fun v h2 => sx_IV xT xtg xPH h2 → v = [.int r] ∧ Q v h2) tt t8 hn S nb bb w1 (fun k u e I2 L2 o2 l2 y1 y2 y3 iv2 => ?_) (fun B e I2 L2 o2 l2 y1 y2 y3 _ _ _ _ _ iv2 => ?_)))
    · exact (q.2 q.1).2
    · rcases m with ⟨k', u', e', z1, z2, rfl⟩ | ⟨B', e', ok, z1, z2, rfl⟩
      · have eq := e.symm.trans (hR.symm.trans e')
        cases eq
        refine ⟨rfl, fin _ iv2 (fun j hj => (l2 _ _ (by omega)).trans (w1 j hj)) w5 w6 ((o2 _ _ (by omega)).trans l0) y3 ⟨?_, ?_⟩⟩
        · exact ((o2 _ _ (by omega)).trans z1).trans y1.symm
        · exact ((o2 _ _ (by omega)).trans z2).trans y2.symm
      · have eq := e.symm.trans (hR.symm.trans e')
        cases eq
    · rcases m with ⟨k', u', e', z1, z2, rfl⟩ | ⟨B', e', ok, z1, z2, rfl⟩
      · have eq := e.symm.trans (hR.symm.trans e')
        cases eq
      · have eq := e.symm.trans (hR.symm.trans e')
        cases eq
        refine ⟨rfl, fin _ iv2 l2 w5 w6 ((o2 _ _ (by omega)).trans l0) y3 ⟨?_, ?_⟩⟩
        · exact ((o2 _ _ (by omega)).trans z1).trans y1.symm
        · exact ((o2 _ _ (by omega)).trans z2).trans y2.symm
def flV (x k p : Int32) : Int32 := if x = 0 then k else if x = 1 then p else -1
theorem B_faultX (x : Int32) (kk : Q [.int (flV x (I 0 11) (I 0 12))] (I, L, g_R s, 306)) : pm_W (g_P ys) 81 0 [.ref 0, .int x] [] (I, L, g_R s, 306) (0, 0) Q := by
  unfold flV at kk
  by_cases h0 : x = 0
  · rw [if_pos h0] at kk
    refine ps_iload rfl rfl ?_
    refine ps_iff rfl (decide_eq_false (fun z => z h0)) ?_
    refine ps_aload rfl rfl ?_
    refine ps_gfi 0 11 rfl rfl rfl rfl rfl ?_
    refine ps_iret rfl rfl ?_
    exact kk
  · rw [if_neg h0] at kk
    refine ps_iload rfl rfl ?_
    refine ps_ift rfl (decide_eq_true h0) ?_
    by_cases h1 : x = 1
    · rw [if_pos h1] at kk
      refine ps_iload rfl rfl ?_
      refine pw_c rfl ?_
      refine ps_icmpf rfl (decide_eq_false (fun z => z h1)) ?_
      refine ps_aload rfl rfl ?_
      refine ps_gfi 0 12 rfl rfl rfl rfl rfl ?_
      refine ps_goto rfl ?_
      refine ps_iret rfl rfl ?_
      exact kk
    · rw [if_neg h1] at kk
      refine ps_iload rfl rfl ?_
      refine pw_c rfl ?_
      refine ps_icmpt rfl (decide_eq_true h1) ?_
      refine pw_c rfl ?_
      refine ps_iret rfl rfl ?_
      exact kk
theorem M_faultX (x : Int32) (kk : Q [.int (flV x (I 275 44) (I 275 45))] (pm_u I 275 1 0, L, g_R s, 306)) : pm_W (g_P ys) 306 0 [.ref 275, .int x] [] (I, L, g_R s, 306) (0, 0) Q := by
  unfold flV at kk
  refine ps_aload rfl rfl ?_
  refine pw_c rfl ?_
  refine ps_pfi 11 1 rfl rfl rfl rfl rfl ?_
  refine ps_iload rfl rfl ?_
  show pm_W _ _ _ _ _ (pm_u I 275 1 0, L, g_R s, 306) _ _
  by_cases h0 : x = 0
  · rw [if_pos h0] at kk
    refine ps_iff rfl (decide_eq_false (fun z => z h0)) ?_
    refine ps_aload rfl rfl ?_
    refine ps_gfi 11 44 rfl rfl rfl rfl rfl ?_
    rw [show (((pm_u I 275 1 0), L, g_R s, 306) : pm_H).1 275 44 = I 275 44 from pu_n (I := I) (a := 275) (j := 44) (k := 1) (x := 0) (by decide)]
    refine ps_goto rfl ?_
    refine ps_iret rfl rfl ?_
    exact kk
  · rw [if_neg h0] at kk
    by_cases h1 : x = 1
    · rw [if_pos h1] at kk
      refine ps_ift rfl (decide_eq_true h0) ?_
      refine ps_iload rfl rfl ?_
      refine pw_c rfl ?_
      refine ps_icmpf rfl (decide_eq_false (fun z => z h1)) ?_
      refine ps_aload rfl rfl ?_
      refine ps_gfi 11 45 rfl rfl rfl rfl rfl ?_
      rw [show (((pm_u I 275 1 0), L, g_R s, 306) : pm_H).1 275 45 = I 275 45 from pu_n (I := I) (a := 275) (j := 45) (k := 1) (x := 0) (by decide)]
      refine ps_goto rfl ?_
      refine ps_iret rfl rfl ?_
      exact kk
    · rw [if_neg h1] at kk
      refine ps_ift rfl (decide_eq_true h0) ?_
      refine ps_iload rfl rfl ?_
      refine pw_c rfl ?_
      refine ps_icmpt rfl (decide_eq_true h1) ?_
      refine pw_c rfl ?_
      refine ps_iret rfl rfl ?_
      exact kk
end LJ
section LK
variable {ys : List Int32} {Q : List Value → pm_H → Prop} {h h' : pm_H}
theorem B_fault5 (iv : sx_IV xT xtg xPH h) (re : R4 h) (x : Int32) (kk : ∀ r, r = flV x (h.1 275 44) (h.1 275 45) → Q [.int r] h) : pm_W (g_P ys) 81 0 [.ref 0, .int x] [] h (0, 0) Q := by
  obtain ⟨I, L, s, rfl⟩ := x_form iv
  obtain ⟨_, _, f1, f2⟩ := re
  have f1 : I 0 11 = I 275 44 := f1
  have f2 : I 0 12 = I 275 45 := f2
  refine B_faultX x ?_
  rw [f1, f2]
  exact kk _ rfl
theorem M_fault5 (iv : sx_IV xT xtg xPH h) (re : R4 h) {x r : Int32} (hr : r = flV x (h.1 275 44) (h.1 275 45)) (kk : ∀ h2, sx_IV xT xtg xPH h2 → R4 h2 → Q [.int r] h2) : pm_W (g_P ys) 306 0 [.ref 275, .int x] [] h (0, 0) Q := by
  obtain ⟨I, L, s, rfl⟩ := x_form iv
  have g := sx_mw_ok (xC []) iv (W := [(50, .ofNat 1, .ofNat 1)]) (D := (false, false)) (a := 275) (t := 50) (k := 1) (lo := 1) (hi := 1) (b := (0, 0)) (by decide) (by decide) (by decide) (by decide) (x := 0) (by decide) (by decide)
  refine M_faultX x ?_
  have hr : r = flV x (I 275 44) (I 275 45) := hr
  rw [← hr]
  exact kk _ g.1 (R4_fr (by decide) g.2.1 re)
end LK
