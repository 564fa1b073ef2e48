/-! BY HAND: the class's camera, exactly, seventh: its figures; THE PICTURE (printed by wip/src/gen97zzo.py) -/
section TQ
variable {I I' I1 I2 J : Nat → Nat → Int32} {L : Nat → Nat → Int64} {s s' : Nat → Option Nat} {Q : List Value → pm_H → Prop} {ys : List Int32} {p e m t cm ci r : Nat} {P : sPl} {S : sS} {g : Nat → Int32} {h : pm_H}
/-- what a camera that is aimed knows -/
def cKn (cm : Nat) (P : sPl) (S : sS) (I : Nat → Nat → Int32) : Prop := cAm cm P S I ∧ cDd cm P S I ∧ cSh cm P S I ∧ cWd cm P S I
def cOk (cm : Nat) (P : sPl) (S : sS) (I I' : Nat → Nat → Int32) : Prop := (∀ a j : Nat, ¬ (cm ≤ a ∧ a ≤ cm + 9) → I' a j = I a j) ∧ I' cm 15 = I cm 15 ∧ cKn cm P S I'
theorem kn_r (h : cKn cm P S I) : cOk cm P S I I := ⟨fun _ _ _ => rfl, rfl, h⟩
theorem kn_t (a : cOk cm P S I I1) (b : cOk cm P S I1 I2) : cOk cm P S I I2 := ⟨fun x j z => (b.1 x j z).trans (a.1 x j z), b.2.1.trans a.2.1, b.2.2⟩
theorem kn_o (h : cKn cm P S I) (k : ∀ a j, ¬ a = cm + 6 → ¬ a = cm + 7 → I' a j = I a j) : cOk cm P S I I' := by
  obtain ⟨a, d, s, w⟩ := h
  have kc : ∀ j, I' cm j = I cm j := fun j => k _ _ (by omega) (by omega)
  have kd : cDk cm P S I → cDk cm P S I' := fun d => cDk_o d kc (fun j => k _ _ (by omega) (by omega))
  refine ⟨fun a j z => k a j (by omega) (by omega), kc _, cAm_o a (kc _) (fun a j z1 z2 => k a j (by omega) (by omega)), d.imp (fun z => (kc _).trans z) kd, s.imp (fun z => (kc _).trans z) (fun z => ⟨cSg_o z.1 kc (fun j => k _ _ (by omega) (by omega)) (fun j => k _ _ (by omega) (by omega)), kd z.2⟩), w.imp (fun z => (kc _).trans z) (fun z => ⟨(kc _).trans z.1, (kc _).trans z.2.1, (kc _).trans z.2.2⟩)⟩
theorem kn_d (h : cKn cm P S I) (o : ∀ a j, ¬ (a = cm + 5) → ¬ (a = cm ∧ j = 16) → I' a j = I a j) (d : cDk cm P S I') : cOk cm P S I I' := by
  obtain ⟨a, _, s, w⟩ := h
  have kc : ∀ j, ¬ j = 16 → I' cm j = I cm j := fun j z => o _ _ (by omega) (by omega)
  refine ⟨fun a j z => o a j (by omega) (by omega), kc _ (by decide), cAm_o a (kc _ (by decide)) (fun a j z1 z2 => o a j (by omega) (by omega)), Or.inr d, s.imp (fun z => (kc _ (by decide)).trans z) (fun z => ⟨⟨(kc _ (by decide)).trans z.1.1, (kc _ (by decide)).trans z.1.2.1, fun i hi => ⟨(o _ _ (by omega) (by omega)).trans (z.1.2.2 i hi).1, (o _ _ (by omega) (by omega)).trans (z.1.2.2 i hi).2⟩⟩, d⟩), w.imp (fun z => (kc _ (by decide)).trans z) (fun z => ⟨(kc _ (by decide)).trans z.1, (kc _ (by decide)).trans z.2.1, (kc _ (by decide)).trans z.2.2⟩)⟩
theorem kn_s (h : cKn cm P S I) (r : skW cm I I') (g : cSg cm P S I') (d : cDk cm P S I') : cOk cm P S I I' := by
  obtain ⟨a, _, _, w⟩ := h
  have kc : ∀ j, ¬ (j = 9 ∨ j = 16 ∨ j = 17) → I' cm j = I cm j := fun j z => r _ _ (by omega) (by omega)
  exact ⟨fun a j z => r a j (by omega) (by omega), kc _ (by decide), cAm_o a (kc _ (by decide)) (fun a j z1 z2 => r a j (by omega) (by omega)), Or.inr d, Or.inr ⟨g, d⟩, w.imp (fun z => (kc _ (by decide)).trans z) (fun z => ⟨(kc _ (by decide)).trans z.1, (kc _ (by decide)).trans z.2.1, (kc _ (by decide)).trans z.2.2⟩)⟩
theorem kn_w (h : cKn cm P S I) (r : wkW cm I I') (w : cWk cm P S I') (d : cDk cm P S I' ∨ I' = I) : cOk cm P S I I' := by
  rcases d with d | rfl
  · obtain ⟨a, _, s, _⟩ := h
    have kc : ∀ j, ¬ (j = 10 ∨ j = 11 ∨ j = 16 ∨ j = 18) → I' cm j = I cm j := fun j z => r _ _ (by omega) (by omega) (by omega)
    exact ⟨fun a j z => r a j (by omega) (by omega) (by omega), kc _ (by decide), cAm_o a (kc _ (by decide)) (fun a j z1 z2 => r a j (by omega) (by omega) (by omega)), Or.inr d, s.imp (fun z => (kc _ (by decide)).trans z) (fun z => ⟨⟨(kc _ (by decide)).trans z.1.1, (kc _ (by decide)).trans z.1.2.1, fun i hi => ⟨(r _ _ (by omega) (by omega) (by omega)).trans (z.1.2.2 i hi).1, (r _ _ (by omega) (by omega) (by omega)).trans (z.1.2.2 i hi).2⟩⟩, d⟩), Or.inr w⟩
  · exact kn_r h
theorem cV_k (hV : cV cm ci p e s P S I) (k : cOk cm P S I I') : cV cm ci p e s P S I' := cV_o hV (fun a j z => k.1 a j (by have := isC_ge hV.1; omega))
theorem cSk_k (hV : cV cm ci p e s P S I) (h : cSk I p P) (k : cOk cm P S I I') : cSk I' p P := cSk_o h hV.2.1 (fun a j z => k.1 a j (by have := isC_ge hV.1; omega))
theorem w_is {w : Int32} {n : Int} (y : Int32) (h : w.toInt = n) (hy : y.toInt = n) : w = y := (i_eq _ _).mpr (h.trans hy.symm)
def figF (P : sPl) (S : sS) (i : Nat) (w : Int32) : Int32 := if w = 0 then shadF P S i else if w = 1 then wholF P S 0 i else if w = 2 then decF P (shadF P S) i else if w = 3 then movF P S i else if w = 4 then rsF P (decF P (shadF P S) i) (flF P S (liS P S)) else truF P S i
theorem B_figureAtX {i : Nat} {w : Int32} (hV : cV cm ci p e s P S I) (hk : w = 4 → cSk I p P) (hn : cKn cm P S I) (hi : i < P.w * P.v) (hw : 0 ≤ w.toInt ∧ w.toInt ≤ 5) (kk : ∀ I', cOk cm P S I I' → Q [.int (figF P S i w)] (I', L, g_R s, 306)) : pm_W (g_P ys) 130 0 [.ref cm, .int (nI i), .int w] [] (I, L, g_R s, 306) (0, 0) Q := by
  have hV0 := hV
  obtain ⟨hc, hp, he, h1, h2, hP, hS, ok⟩ := hV
  have cg := isC_ge hc
  have el := isE_lt he
  have pl := isP_lt hp
  have w0 := hP.1.2.2.2.1
  have v0 := hP.1.2.2.2.2.1
  have n9 := hP.1.2.2.2.2.2
  have n0 : 0 < P.w * P.v := Nat.mul_pos w0 v0
  obtain ⟨hS0, hS1, hS2, hS3, hS4, hS5, hS6, hS7, hS8, hS9⟩ := cam_F (ys := ys) (s := s) hc
  obtain ⟨hR0, hR1, hR2, hR3, hR4, hR5, hR6, hR7, hR8, hR13, hR14⟩ := cam_R (s := s) hc
  rw [h1] at hR13
  rw [h2] at hR14
  obtain ⟨hS10, hS11, hS12, hS13, hR15, hR16, hR17⟩ := pl_F (ys := ys) (s := s) hp
  obtain ⟨hS14, hR18, hR19, hR20⟩ := en_F (ys := ys) (s := s) he
  have ha := hn.1
  refine ps_iload rfl rfl ?_
  rcases (show w.toInt = 0 ∨ w.toInt = 1 ∨ w.toInt = 2 ∨ w.toInt = 3 ∨ w.toInt = 4 ∨ w.toInt = 5 by omega) with q | q | q | q | q | q
  · have q := w_is 0 q rfl
    subst q
    refine ps_brr rfl rfl rfl rfl rfl rfl ?_
    refine ps_aload rfl rfl ?_
    refine ps_gfr 10 2 rfl rfl rfl (by first | exact hS0 _ _ | exact hS1 _ _ | exact hS2 _ _ | exact hS3 _ _ | exact hS4 _ _ | exact hS5 _ _ | exact hS6 _ _ | exact hS7 _ _ | exact hS8 _ _ | exact hS9 _ _ | exact hS10 _ _ | exact hS11 _ _ | exact hS12 _ _ | exact hS13 _ _ | exact hS14 _ _ | exact hS15 _ _ | exact hS16 _ _ | exact hS17 _ _ | exact hS18 _ _ | exact hS19 _ _ | exact hS20 _ _ | exact hS21 _ _ | exact hS22 _ _ | exact hS23 _ _ | assumption | rfl) rfl (by first | assumption | rfl) ?_
    refine ps_iload rfl rfl ?_
    refine ps_iald (i) rfl (by first | exact hS0 _ _ | exact hS1 _ _ | exact hS2 _ _ | exact hS3 _ _ | exact hS4 _ _ | exact hS5 _ _ | exact hS6 _ _ | exact hS7 _ _ | exact hS8 _ _ | exact hS9 _ _ | exact hS10 _ _ | exact hS11 _ _ | exact hS12 _ _ | exact hS13 _ _ | exact hS14 _ _ | exact hS15 _ _ | exact hS16 _ _ | exact hS17 _ _ | exact hS18 _ _ | exact hS19 _ _ | exact hS20 _ _ | exact hS21 _ _ | exact hS22 _ _ | exact hS23 _ _ | assumption | rfl) rfl (rfl) (by omega) ?_
    rw [show ((I, L, g_R s, 306) : pm_H).1 (cm + 3) i = shadF P S i from (ha.1 i hi).2.2.1]
    refine ps_iret rfl rfl ?_
    exact kk I (kn_r hn)
  · have q := w_is 1 q rfl
    subst q
    refine ps_brr rfl rfl rfl rfl rfl rfl ?_
    refine ps_aload rfl rfl ?_
    refine ps_gfr 10 1 rfl rfl rfl (by first | exact hS0 _ _ | exact hS1 _ _ | exact hS2 _ _ | exact hS3 _ _ | exact hS4 _ _ | exact hS5 _ _ | exact hS6 _ _ | exact hS7 _ _ | exact hS8 _ _ | exact hS9 _ _ | exact hS10 _ _ | exact hS11 _ _ | exact hS12 _ _ | exact hS13 _ _ | exact hS14 _ _ | exact hS15 _ _ | exact hS16 _ _ | exact hS17 _ _ | exact hS18 _ _ | exact hS19 _ _ | exact hS20 _ _ | exact hS21 _ _ | exact hS22 _ _ | exact hS23 _ _ | assumption | rfl) rfl (by first | assumption | rfl) ?_
    refine ps_iload rfl rfl ?_
    refine ps_iald (i) rfl (by first | exact hS0 _ _ | exact hS1 _ _ | exact hS2 _ _ | exact hS3 _ _ | exact hS4 _ _ | exact hS5 _ _ | exact hS6 _ _ | exact hS7 _ _ | exact hS8 _ _ | exact hS9 _ _ | exact hS10 _ _ | exact hS11 _ _ | exact hS12 _ _ | exact hS13 _ _ | exact hS14 _ _ | exact hS15 _ _ | exact hS16 _ _ | exact hS17 _ _ | exact hS18 _ _ | exact hS19 _ _ | exact hS20 _ _ | exact hS21 _ _ | exact hS22 _ _ | exact hS23 _ _ | assumption | rfl) rfl (rfl) (by omega) ?_
    rw [show ((I, L, g_R s, 306) : pm_H).1 (cm + 2) i = wholF P S 0 i from (ha.1 i hi).2.1]
    refine ps_iret rfl rfl ?_
    exact kk I (kn_r hn)
  · have q := w_is 2 q rfl
    subst q
    refine ps_brr rfl rfl rfl rfl rfl rfl ?_
    refine ps_aload rfl rfl ?_
    refine pv_k rfl rfl rfl rfl rfl (hS0 _ _) rfl ⟨Nat.zero_le _, Nat.zero_le _⟩ ?_
    refine B_decodeX hc hp h1 hP ha hn.2.1 (fun I1 o1 d1 => ?_)
    refine ps_aload rfl rfl ?_
    refine ps_gfr 10 4 rfl rfl rfl (by first | exact hS0 _ _ | exact hS1 _ _ | exact hS2 _ _ | exact hS3 _ _ | exact hS4 _ _ | exact hS5 _ _ | exact hS6 _ _ | exact hS7 _ _ | exact hS8 _ _ | exact hS9 _ _ | exact hS10 _ _ | exact hS11 _ _ | exact hS12 _ _ | exact hS13 _ _ | exact hS14 _ _ | exact hS15 _ _ | exact hS16 _ _ | exact hS17 _ _ | exact hS18 _ _ | exact hS19 _ _ | exact hS20 _ _ | exact hS21 _ _ | exact hS22 _ _ | exact hS23 _ _ | assumption | rfl) rfl (by first | assumption | rfl) ?_
    refine ps_iload rfl rfl ?_
    refine ps_iald (i) rfl (by first | exact hS0 _ _ | exact hS1 _ _ | exact hS2 _ _ | exact hS3 _ _ | exact hS4 _ _ | exact hS5 _ _ | exact hS6 _ _ | exact hS7 _ _ | exact hS8 _ _ | exact hS9 _ _ | exact hS10 _ _ | exact hS11 _ _ | exact hS12 _ _ | exact hS13 _ _ | exact hS14 _ _ | exact hS15 _ _ | exact hS16 _ _ | exact hS17 _ _ | exact hS18 _ _ | exact hS19 _ _ | exact hS20 _ _ | exact hS21 _ _ | exact hS22 _ _ | exact hS23 _ _ | assumption | rfl) rfl (rfl) (by omega) ?_
    rw [show ((I1, L, g_R s, 306) : pm_H).1 (cm + 5) i = decF P (shadF P S) i from d1.2 i hi]
    refine ps_iret rfl rfl ?_
    exact kk I1 (kn_d hn o1 d1)
  · have q := w_is 3 q rfl
    subst q
    refine ps_brr rfl rfl rfl rfl rfl rfl ?_
    refine ps_aload rfl rfl ?_
    refine pv_k rfl rfl rfl rfl rfl (hS0 _ _) rfl ⟨Nat.zero_le _, Nat.zero_le _⟩ ?_
    refine B_findMovedX hV0 ha (fun I1 o1 d1 => ?_)
    refine ps_aload rfl rfl ?_
    refine ps_gfr 10 5 rfl rfl rfl (by first | exact hS0 _ _ | exact hS1 _ _ | exact hS2 _ _ | exact hS3 _ _ | exact hS4 _ _ | exact hS5 _ _ | exact hS6 _ _ | exact hS7 _ _ | exact hS8 _ _ | exact hS9 _ _ | exact hS10 _ _ | exact hS11 _ _ | exact hS12 _ _ | exact hS13 _ _ | exact hS14 _ _ | exact hS15 _ _ | exact hS16 _ _ | exact hS17 _ _ | exact hS18 _ _ | exact hS19 _ _ | exact hS20 _ _ | exact hS21 _ _ | exact hS22 _ _ | exact hS23 _ _ | assumption | rfl) rfl (by first | assumption | rfl) ?_
    refine ps_iload rfl rfl ?_
    refine ps_iald (i) rfl (by first | exact hS0 _ _ | exact hS1 _ _ | exact hS2 _ _ | exact hS3 _ _ | exact hS4 _ _ | exact hS5 _ _ | exact hS6 _ _ | exact hS7 _ _ | exact hS8 _ _ | exact hS9 _ _ | exact hS10 _ _ | exact hS11 _ _ | exact hS12 _ _ | exact hS13 _ _ | exact hS14 _ _ | exact hS15 _ _ | exact hS16 _ _ | exact hS17 _ _ | exact hS18 _ _ | exact hS19 _ _ | exact hS20 _ _ | exact hS21 _ _ | exact hS22 _ _ | exact hS23 _ _ | assumption | rfl) rfl (rfl) (by omega) ?_
    rw [show ((I1, L, g_R s, 306) : pm_H).1 (cm + 6) i = movF P S i from d1 i hi]
    refine ps_iret rfl rfl ?_
    exact kk I1 (kn_o hn o1)
  · have q := w_is 4 q rfl
    subst q
    refine ps_brr rfl rfl rfl rfl rfl rfl ?_
    refine ps_aload rfl rfl ?_
    refine pv_k rfl rfl rfl rfl rfl (hS0 _ _) rfl ⟨Nat.zero_le _, Nat.zero_le _⟩ ?_
    refine B_decodeX hc hp h1 hP ha hn.2.1 (fun I1 o1 d1 => ?_)
    have k1 := kn_d hn o1 d1
    have V1 := cV_k hV0 k1
    have S1 := cSk_k hV0 (hk rfl) k1
    refine ps_aload rfl rfl ?_
    refine ps_aload rfl rfl ?_
    refine ps_gfr 10 4 rfl rfl rfl (by first | exact hS0 _ _ | exact hS1 _ _ | exact hS2 _ _ | exact hS3 _ _ | exact hS4 _ _ | exact hS5 _ _ | exact hS6 _ _ | exact hS7 _ _ | exact hS8 _ _ | exact hS9 _ _ | exact hS10 _ _ | exact hS11 _ _ | exact hS12 _ _ | exact hS13 _ _ | exact hS14 _ _ | exact hS15 _ _ | exact hS16 _ _ | exact hS17 _ _ | exact hS18 _ _ | exact hS19 _ _ | exact hS20 _ _ | exact hS21 _ _ | exact hS22 _ _ | exact hS23 _ _ | assumption | rfl) rfl (by first | assumption | rfl) ?_
    refine ps_iload rfl rfl ?_
    refine ps_iald (i) rfl (by first | exact hS0 _ _ | exact hS1 _ _ | exact hS2 _ _ | exact hS3 _ _ | exact hS4 _ _ | exact hS5 _ _ | exact hS6 _ _ | exact hS7 _ _ | exact hS8 _ _ | exact hS9 _ _ | exact hS10 _ _ | exact hS11 _ _ | exact hS12 _ _ | exact hS13 _ _ | exact hS14 _ _ | exact hS15 _ _ | exact hS16 _ _ | exact hS17 _ _ | exact hS18 _ _ | exact hS19 _ _ | exact hS20 _ _ | exact hS21 _ _ | exact hS22 _ _ | exact hS23 _ _ | assumption | rfl) rfl (rfl) (by omega) ?_
    rw [show ((I1, L, g_R s, 306) : pm_H).1 (cm + 5) i = decF P (shadF P S) i from d1.2 i hi]
    refine ps_aload rfl rfl ?_
    refine ps_aload rfl rfl ?_
    refine pv_k rfl rfl rfl rfl rfl (hS0 _ _) rfl ⟨Nat.zero_le _, Nat.zero_le _⟩ ?_
    refine B_lightSeenX V1 k1.2.2.1 ?_
    refine pv_k rfl rfl rfl rfl rfl (hS0 _ _) rfl ⟨Nat.zero_le _, Nat.zero_le _⟩ ?_
    refine B_floorByX V1 S1 _ ?_
    refine pv_k rfl rfl rfl rfl rfl (hS0 _ _) rfl ⟨Nat.zero_le _, Nat.zero_le _⟩ ?_
    refine B_restoredByX V1 S1 _ _ ?_
    refine ps_iret rfl rfl ?_
    exact kk I1 k1
  · have q := w_is 5 q rfl
    subst q
    refine ps_brr rfl rfl rfl rfl rfl rfl ?_
    refine ps_aload rfl rfl ?_
    refine ps_gfr 10 3 rfl rfl rfl (by first | exact hS0 _ _ | exact hS1 _ _ | exact hS2 _ _ | exact hS3 _ _ | exact hS4 _ _ | exact hS5 _ _ | exact hS6 _ _ | exact hS7 _ _ | exact hS8 _ _ | exact hS9 _ _ | exact hS10 _ _ | exact hS11 _ _ | exact hS12 _ _ | exact hS13 _ _ | exact hS14 _ _ | exact hS15 _ _ | exact hS16 _ _ | exact hS17 _ _ | exact hS18 _ _ | exact hS19 _ _ | exact hS20 _ _ | exact hS21 _ _ | exact hS22 _ _ | exact hS23 _ _ | assumption | rfl) rfl (by first | assumption | rfl) ?_
    refine ps_iload rfl rfl ?_
    refine ps_iald (i) rfl (by first | exact hS0 _ _ | exact hS1 _ _ | exact hS2 _ _ | exact hS3 _ _ | exact hS4 _ _ | exact hS5 _ _ | exact hS6 _ _ | exact hS7 _ _ | exact hS8 _ _ | exact hS9 _ _ | exact hS10 _ _ | exact hS11 _ _ | exact hS12 _ _ | exact hS13 _ _ | exact hS14 _ _ | exact hS15 _ _ | exact hS16 _ _ | exact hS17 _ _ | exact hS18 _ _ | exact hS19 _ _ | exact hS20 _ _ | exact hS21 _ _ | exact hS22 _ _ | exact hS23 _ _ | assumption | rfl) rfl (rfl) (by omega) ?_
    rw [show ((I, L, g_R s, 306) : pm_H).1 (cm + 4) i = truF P S i from (ha.1 i hi).2.2.2]
    refine ps_iret rfl rfl ?_
    exact kk I (kn_r hn)
def figA (P : sPl) (S : sS) (w : Int32) : Int32 := if w = 0 then suI (shadF P S) (P.w * P.v) else if w = 1 then liS P S else if w = 2 then lbF P (liS P S) else if w = 3 then erF P S (decF P (shadF P S)) (liS P S) else if w = 4 then suI (lostF P S) (P.w * P.v) else if w = 5 then nzF (movF P S) (P.w * P.v) else if w = 6 then fxF (movF P S) (P.w * P.v) else suI (wholF P S 0) (P.w * P.v) - suI (shadF P S) (P.w * P.v)
theorem B_figureX {w : Int32} (hV : cV cm ci p e s P S I) (hk : w = 3 → cSk I p P) (hn : cKn cm P S I) (hw : 0 ≤ w.toInt ∧ w.toInt ≤ 7) (kk : ∀ I', cOk cm P S I I' → Q [.int (figA P S w)] (I', L, g_R s, 306)) : pm_W (g_P ys) 141 0 [.ref cm, .int w] [] (I, L, g_R s, 306) (0, 0) Q := by
  have hV0 := hV
  obtain ⟨hc, hp, he, h1, h2, hP, hS, ok⟩ := hV
  have cg := isC_ge hc
  have el := isE_lt he
  have pl := isP_lt hp
  have w0 := hP.1.2.2.2.1
  have v0 := hP.1.2.2.2.2.1
  have n9 := hP.1.2.2.2.2.2
  have n0 : 0 < P.w * P.v := Nat.mul_pos w0 v0
  obtain ⟨hS0, hS1, hS2, hS3, hS4, hS5, hS6, hS7, hS8, hS9⟩ := cam_F (ys := ys) (s := s) hc
  obtain ⟨hR0, hR1, hR2, hR3, hR4, hR5, hR6, hR7, hR8, hR13, hR14⟩ := cam_R (s := s) hc
  rw [h1] at hR13
  rw [h2] at hR14
  obtain ⟨hS10, hS11, hS12, hS13, hR15, hR16, hR17⟩ := pl_F (ys := ys) (s := s) hp
  obtain ⟨hS14, hR18, hR19, hR20⟩ := en_F (ys := ys) (s := s) he
  have ha := hn.1
  have sv : suI (fun i => I (cm + 3) (0 + i)) (P.w * P.v) = suI (shadF P S) (P.w * P.v) := suI_congr (fun i hi => by
    rw [Nat.zero_add]
    exact (ha.1 i hi).2.2.1)
  have sw : suI (fun i => I (cm + 2) (0 + i)) (P.w * P.v) = suI (wholF P S 0) (P.w * P.v) := suI_congr (fun i hi => by
    rw [Nat.zero_add]
    exact (ha.1 i hi).2.1)
  refine ps_iload rfl rfl ?_
  rcases (show w.toInt = 0 ∨ w.toInt = 1 ∨ w.toInt = 2 ∨ w.toInt = 3 ∨ w.toInt = 4 ∨ w.toInt = 5 ∨ w.toInt = 6 ∨ w.toInt = 7 by omega) with q | q | q | q | q | q | q | q
  · have q := w_is 0 q rfl
    subst q
    refine ps_brr rfl rfl rfl rfl rfl rfl ?_
    refine ps_aload rfl rfl ?_
    refine ps_gfr 10 2 rfl rfl rfl (by first | exact hS0 _ _ | exact hS1 _ _ | exact hS2 _ _ | exact hS3 _ _ | exact hS4 _ _ | exact hS5 _ _ | exact hS6 _ _ | exact hS7 _ _ | exact hS8 _ _ | exact hS9 _ _ | exact hS10 _ _ | exact hS11 _ _ | exact hS12 _ _ | exact hS13 _ _ | exact hS14 _ _ | exact hS15 _ _ | exact hS16 _ _ | exact hS17 _ _ | exact hS18 _ _ | exact hS19 _ _ | exact hS20 _ _ | exact hS21 _ _ | exact hS22 _ _ | exact hS23 _ _ | assumption | rfl) rfl (by first | assumption | rfl) ?_
    refine pw_c rfl ?_
    refine ps_aload rfl rfl ?_
    refine ps_gfr 10 13 rfl rfl rfl (by first | exact hS0 _ _ | exact hS1 _ _ | exact hS2 _ _ | exact hS3 _ _ | exact hS4 _ _ | exact hS5 _ _ | exact hS6 _ _ | exact hS7 _ _ | exact hS8 _ _ | exact hS9 _ _ | exact hS10 _ _ | exact hS11 _ _ | exact hS12 _ _ | exact hS13 _ _ | exact hS14 _ _ | exact hS15 _ _ | exact hS16 _ _ | exact hS17 _ _ | exact hS18 _ _ | exact hS19 _ _ | exact hS20 _ _ | exact hS21 _ _ | exact hS22 _ _ | exact hS23 _ _ | assumption | rfl) rfl (by first | assumption | rfl) ?_
    refine ps_gfi 9 6 rfl rfl rfl (by first | exact hS0 _ _ | exact hS1 _ _ | exact hS2 _ _ | exact hS3 _ _ | exact hS4 _ _ | exact hS5 _ _ | exact hS6 _ _ | exact hS7 _ _ | exact hS8 _ _ | exact hS9 _ _ | exact hS10 _ _ | exact hS11 _ _ | exact hS12 _ _ | exact hS13 _ _ | exact hS14 _ _ | exact hS15 _ _ | exact hS16 _ _ | exact hS17 _ _ | exact hS18 _ _ | exact hS19 _ _ | exact hS20 _ _ | exact hS21 _ _ | exact hS22 _ _ | exact hS23 _ _ | assumption | rfl) rfl ?_
    rw [show ((I, L, g_R s, 306) : pm_H).1 p 6 = nI (P.w * P.v) from hP.1.2.2.1]
    refine pw_k rfl rfl rfl rfl ⟨Nat.zero_le _, Nat.zero_le _⟩ ?_
    refine B_sumX (f := 0) (n := P.w * P.v) (N := 289) hS3 (by omega) (by omega) ?_
    rw [sv]
    refine ps_iret rfl rfl ?_
    exact kk I (kn_r hn)
  · have q := w_is 1 q rfl
    subst q
    refine ps_brr rfl rfl rfl rfl rfl rfl ?_
    refine ps_aload rfl rfl ?_
    refine pv_k rfl rfl rfl rfl rfl (hS0 _ _) rfl ⟨Nat.zero_le _, Nat.zero_le _⟩ ?_
    refine B_lightSeenX hV0 ha ?_
    refine ps_iret rfl rfl ?_
    exact kk I (kn_r hn)
  · have q := w_is 2 q rfl
    subst q
    refine ps_brr rfl rfl rfl rfl rfl rfl ?_
    refine ps_aload rfl rfl ?_
    refine ps_aload rfl rfl ?_
    refine pv_k rfl rfl rfl rfl rfl (hS0 _ _) rfl ⟨Nat.zero_le _, Nat.zero_le _⟩ ?_
    refine B_lightSeenX hV0 ha ?_
    refine pv_k rfl rfl rfl rfl rfl (hS0 _ _) rfl ⟨Nat.zero_le _, Nat.zero_le _⟩ ?_
    refine B_lightByHolesX hV0 _ ?_
    refine ps_iret rfl rfl ?_
    exact kk I (kn_r hn)
  · have q := w_is 3 q rfl
    subst q
    refine ps_brr rfl rfl rfl rfl rfl rfl ?_
    refine ps_aload rfl rfl ?_
    refine pv_k rfl rfl rfl rfl rfl (hS0 _ _) rfl ⟨Nat.zero_le _, Nat.zero_le _⟩ ?_
    refine B_decodeX hc hp h1 hP ha hn.2.1 (fun I1 o1 d1 => ?_)
    have k1 := kn_d hn o1 d1
    have V1 := cV_k hV0 k1
    have S1 := cSk_k hV0 (hk rfl) k1
    refine ps_aload rfl rfl ?_
    refine ps_aload rfl rfl ?_
    refine ps_gfr 10 4 rfl rfl rfl (by first | exact hS0 _ _ | exact hS1 _ _ | exact hS2 _ _ | exact hS3 _ _ | exact hS4 _ _ | exact hS5 _ _ | exact hS6 _ _ | exact hS7 _ _ | exact hS8 _ _ | exact hS9 _ _ | exact hS10 _ _ | exact hS11 _ _ | exact hS12 _ _ | exact hS13 _ _ | exact hS14 _ _ | exact hS15 _ _ | exact hS16 _ _ | exact hS17 _ _ | exact hS18 _ _ | exact hS19 _ _ | exact hS20 _ _ | exact hS21 _ _ | exact hS22 _ _ | exact hS23 _ _ | assumption | rfl) rfl (by first | assumption | rfl) ?_
    refine ps_aload rfl rfl ?_
    refine pv_k rfl rfl rfl rfl rfl (hS0 _ _) rfl ⟨Nat.zero_le _, Nat.zero_le _⟩ ?_
    refine B_lightSeenX V1 k1.2.2.1 ?_
    refine pv_k rfl rfl rfl rfl rfl (hS0 _ _) rfl ⟨Nat.zero_le _, Nat.zero_le _⟩ ?_
    refine B_errorOfX (r := 4) V1 S1 (fun i hi => (k1.2.2.1.1 i hi).2.2.2) (by omega) (g := decF P (shadF P S)) d1.2 _ ?_
    refine ps_iret rfl rfl ?_
    exact kk I1 k1
  · have q := w_is 4 q rfl
    subst q
    refine ps_brr rfl rfl rfl rfl rfl rfl ?_
    refine ps_aload rfl rfl ?_
    refine ps_gfi 10 12 rfl rfl rfl (by first | exact hS0 _ _ | exact hS1 _ _ | exact hS2 _ _ | exact hS3 _ _ | exact hS4 _ _ | exact hS5 _ _ | exact hS6 _ _ | exact hS7 _ _ | exact hS8 _ _ | exact hS9 _ _ | exact hS10 _ _ | exact hS11 _ _ | exact hS12 _ _ | exact hS13 _ _ | exact hS14 _ _ | exact hS15 _ _ | exact hS16 _ _ | exact hS17 _ _ | exact hS18 _ _ | exact hS19 _ _ | exact hS20 _ _ | exact hS21 _ _ | exact hS22 _ _ | exact hS23 _ _ | assumption | rfl) rfl ?_
    rw [show ((I, L, g_R s, 306) : pm_H).1 cm 12 = suI (lostF P S) (P.w * P.v) from ha.2]
    refine ps_iret rfl rfl ?_
    exact kk I (kn_r hn)
  · have q := w_is 5 q rfl
    subst q
    refine ps_brr rfl rfl rfl rfl rfl rfl ?_
    refine ps_aload rfl rfl ?_
    refine pv_k rfl rfl rfl rfl rfl (hS0 _ _) rfl ⟨Nat.zero_le _, Nat.zero_le _⟩ ?_
    refine B_movedPlacesX hV0 ha (fun I1 o1 => ?_)
    refine ps_iret rfl rfl ?_
    exact kk I1 (kn_o hn o1)
  · have q := w_is 6 q rfl
    subst q
    refine ps_brr rfl rfl rfl rfl rfl rfl ?_
    refine ps_aload rfl rfl ?_
    refine pv_k rfl rfl rfl rfl rfl (hS0 _ _) rfl ⟨Nat.zero_le _, Nat.zero_le _⟩ ?_
    refine B_farthestMovedX hV0 ha (fun I1 o1 => ?_)
    refine ps_iret rfl rfl ?_
    exact kk I1 (kn_o hn o1)
  · have q := w_is 7 q rfl
    subst q
    refine ps_brr rfl rfl rfl rfl rfl rfl ?_
    refine ps_aload rfl rfl ?_
    refine ps_gfr 10 1 rfl rfl rfl (by first | exact hS0 _ _ | exact hS1 _ _ | exact hS2 _ _ | exact hS3 _ _ | exact hS4 _ _ | exact hS5 _ _ | exact hS6 _ _ | exact hS7 _ _ | exact hS8 _ _ | exact hS9 _ _ | exact hS10 _ _ | exact hS11 _ _ | exact hS12 _ _ | exact hS13 _ _ | exact hS14 _ _ | exact hS15 _ _ | exact hS16 _ _ | exact hS17 _ _ | exact hS18 _ _ | exact hS19 _ _ | exact hS20 _ _ | exact hS21 _ _ | exact hS22 _ _ | exact hS23 _ _ | assumption | rfl) rfl (by first | assumption | rfl) ?_
    refine pw_c rfl ?_
    refine ps_aload rfl rfl ?_
    refine ps_gfr 10 13 rfl rfl rfl (by first | exact hS0 _ _ | exact hS1 _ _ | exact hS2 _ _ | exact hS3 _ _ | exact hS4 _ _ | exact hS5 _ _ | exact hS6 _ _ | exact hS7 _ _ | exact hS8 _ _ | exact hS9 _ _ | exact hS10 _ _ | exact hS11 _ _ | exact hS12 _ _ | exact hS13 _ _ | exact hS14 _ _ | exact hS15 _ _ | exact hS16 _ _ | exact hS17 _ _ | exact hS18 _ _ | exact hS19 _ _ | exact hS20 _ _ | exact hS21 _ _ | exact hS22 _ _ | exact hS23 _ _ | assumption | rfl) rfl (by first | assumption | rfl) ?_
    refine ps_gfi 9 6 rfl rfl rfl (by first | exact hS0 _ _ | exact hS1 _ _ | exact hS2 _ _ | exact hS3 _ _ | exact hS4 _ _ | exact hS5 _ _ | exact hS6 _ _ | exact hS7 _ _ | exact hS8 _ _ | exact hS9 _ _ | exact hS10 _ _ | exact hS11 _ _ | exact hS12 _ _ | exact hS13 _ _ | exact hS14 _ _ | exact hS15 _ _ | exact hS16 _ _ | exact hS17 _ _ | exact hS18 _ _ | exact hS19 _ _ | exact hS20 _ _ | exact hS21 _ _ | exact hS22 _ _ | exact hS23 _ _ | assumption | rfl) rfl ?_
    rw [show ((I, L, g_R s, 306) : pm_H).1 p 6 = nI (P.w * P.v) from hP.1.2.2.1]
    refine pw_k rfl rfl rfl rfl ⟨Nat.zero_le _, Nat.zero_le _⟩ ?_
    refine B_sumX (f := 0) (n := P.w * P.v) (N := 289) hS2 (by omega) (by omega) ?_
    rw [sw]
    refine ps_aload rfl rfl ?_
    refine ps_gfr 10 2 rfl rfl rfl (by first | exact hS0 _ _ | exact hS1 _ _ | exact hS2 _ _ | exact hS3 _ _ | exact hS4 _ _ | exact hS5 _ _ | exact hS6 _ _ | exact hS7 _ _ | exact hS8 _ _ | exact hS9 _ _ | exact hS10 _ _ | exact hS11 _ _ | exact hS12 _ _ | exact hS13 _ _ | exact hS14 _ _ | exact hS15 _ _ | exact hS16 _ _ | exact hS17 _ _ | exact hS18 _ _ | exact hS19 _ _ | exact hS20 _ _ | exact hS21 _ _ | exact hS22 _ _ | exact hS23 _ _ | assumption | rfl) rfl (by first | assumption | rfl) ?_
    refine pw_c rfl ?_
    refine ps_aload rfl rfl ?_
    refine ps_gfr 10 13 rfl rfl rfl (by first | exact hS0 _ _ | exact hS1 _ _ | exact hS2 _ _ | exact hS3 _ _ | exact hS4 _ _ | exact hS5 _ _ | exact hS6 _ _ | exact hS7 _ _ | exact hS8 _ _ | exact hS9 _ _ | exact hS10 _ _ | exact hS11 _ _ | exact hS12 _ _ | exact hS13 _ _ | exact hS14 _ _ | exact hS15 _ _ | exact hS16 _ _ | exact hS17 _ _ | exact hS18 _ _ | exact hS19 _ _ | exact hS20 _ _ | exact hS21 _ _ | exact hS22 _ _ | exact hS23 _ _ | assumption | rfl) rfl (by first | assumption | rfl) ?_
    refine ps_gfi 9 6 rfl rfl rfl (by first | exact hS0 _ _ | exact hS1 _ _ | exact hS2 _ _ | exact hS3 _ _ | exact hS4 _ _ | exact hS5 _ _ | exact hS6 _ _ | exact hS7 _ _ | exact hS8 _ _ | exact hS9 _ _ | exact hS10 _ _ | exact hS11 _ _ | exact hS12 _ _ | exact hS13 _ _ | exact hS14 _ _ | exact hS15 _ _ | exact hS16 _ _ | exact hS17 _ _ | exact hS18 _ _ | exact hS19 _ _ | exact hS20 _ _ | exact hS21 _ _ | exact hS22 _ _ | exact hS23 _ _ | assumption | rfl) rfl ?_
    rw [show ((I, L, g_R s, 306) : pm_H).1 p 6 = nI (P.w * P.v) from hP.1.2.2.1]
    refine pw_k rfl rfl rfl rfl ⟨Nat.zero_le _, Nat.zero_le _⟩ ?_
    refine B_sumX (f := 0) (n := P.w * P.v) (N := 289) hS3 (by omega) (by omega) ?_
    rw [sv]
    refine ps_ar rfl rfl rfl rfl rfl ?_
    refine ps_iret rfl rfl ?_
    exact kk I (kn_r hn)
/-- sums of longs -/
def suL (f : Nat → Int64) : Nat → Int64
  | 0 => 0
  | n + 1 => suL f n + f n
theorem suL_s {f : Nat → Int64} {n : Nat} : suL f (n + 1) = suL f n + f n := rfl
theorem suL_c {f g : Nat → Int64} : ∀ {n : Nat}, (∀ i, i < n → f i = g i) → suL f n = suL g n
  | 0, _ => rfl
  | n + 1, h => by
    rw [suL_s, suL_s, suL_c (fun i hi => h i (by omega)), h n (by omega)]
theorem cxy_n {w v : Nat} (x y : Nat) : cxy w v (x : Int) (y : Int) = y % v * w + x % w := by
  unfold cxy
  rw [← Int.natCast_emod, ← Int.natCast_emod, Int.toNat_natCast, Int.toNat_natCast]
/-- THE PICTURE's row times the shadows from s, t on -/
def mtG (P : sPl) (S : sS) (row : Nat → Int32) (s t i : Nat) : Int64 := (row i).toInt64 * (shadF P S (cxy P.w P.v ((i % P.w + s : Nat) : Int) ((i / P.w + t : Nat) : Int))).toInt64
def mtV (P : sPl) (S : sS) (row : Nat → Int32) (i : Nat) : Int64 := suL (mtG P S row (i % P.w) (i / P.w)) (P.w * P.v)
theorem B_sumAtX {a b : Nat} {row : Nat → Int32} (hV : cV cm ci p e s P S I) (ha : ∀ i, i < P.w * P.v → I (cm + 3) i = shadF P S i) (hr : ∀ i, i < P.w * P.v → I 171 i = row i) (h9 : a < 1000 ∧ b < 1000) (kk : Q [.long (suL (mtG P S row a b) (P.w * P.v))] (I, L, g_R s, 306)) : pm_W (g_P ys) 172 0 [.ref 170, .ref cm, .int (nI a), .int (nI b), .retAddr 0, .retAddr 0, .retAddr 0, .retAddr 0, .retAddr 0, .retAddr 0, .retAddr 0] [] (I, L, g_R s, 306) (0, 0) Q := by
  have hV0 := hV
  obtain ⟨hc, hp, he, h1, h2, hP, hS, ok⟩ := hV
  have cg := isC_ge hc
  have el := isE_lt he
  have pl := isP_lt hp
  have w0 := hP.1.2.2.2.1
  have v0 := hP.1.2.2.2.2.1
  have n9 := hP.1.2.2.2.2.2
  have n0 : 0 < P.w * P.v := Nat.mul_pos w0 v0
  obtain ⟨hS0, hS1, hS2, hS3, hS4, hS5, hS6, hS7, hS8, hS9⟩ := cam_F (ys := ys) (s := s) hc
  obtain ⟨hR0, hR1, hR2, hR3, hR4, hR5, hR6, hR7, hR8, hR13, hR14⟩ := cam_R (s := s) hc
  rw [h1] at hR13
  rw [h2] at hR14
  obtain ⟨hS10, hS11, hS12, hS13, hR15, hR16, hR17⟩ := pl_F (ys := ys) (s := s) hp
  obtain ⟨hS14, hR18, hR19, hR20⟩ := en_F (ys := ys) (s := s) he
  obtain ⟨wb, vb⟩ := cP_b hP.1
  have hS15 : ∀ I L, pm_sh (g_P ys) (I, L, g_R s, 306) 170 = some (.inl 7) := fun _ _ => rfl
  have hS16 : ∀ I L, pm_sh (g_P ys) (I, L, g_R s, 306) 171 = some (.inr (0, 289)) := fun _ _ => rfl
  have outer : ∀ d y, y + d = P.v → ∀ u9 u10 : Value, pm_W (g_P ys) 172 15 [.ref 170, .ref cm, .int (nI a), .int (nI b), .ref p, .long (suL (mtG P S row a b) (P.w * y)), .retAddr 0, .int (nI (P.w * y)), .int (nI y), u9, u10] [] (I, L, g_R s, 306) (0, 0) Q := by
    intro d
    induction d with
    | zero =>
      intro y hy u9 u10
      have ey : y = P.v := by omega
      subst ey
      refine ps_iload rfl rfl ?_
      refine ps_aload rfl rfl ?_
      refine ps_gfi 9 5 rfl rfl rfl (by first | exact hS0 _ _ | exact hS1 _ _ | exact hS2 _ _ | exact hS3 _ _ | exact hS4 _ _ | exact hS5 _ _ | exact hS6 _ _ | exact hS7 _ _ | exact hS8 _ _ | exact hS9 _ _ | exact hS10 _ _ | exact hS11 _ _ | exact hS12 _ _ | exact hS13 _ _ | exact hS14 _ _ | exact hS15 _ _ | exact hS16 _ _ | exact hS17 _ _ | exact hS18 _ _ | exact hS19 _ _ | exact hS20 _ _ | exact hS21 _ _ | exact hS22 _ _ | exact hS23 _ _ | assumption | rfl) rfl ?_
      rw [show ((I, L, g_R s, 306) : pm_H).1 p 5 = nI P.v from hP.1.2.1]
      refine ps_icmpt rfl (decide_eq_true (nI_le (by omega) (by omega))) ?_
      refine ps_lload rfl rfl ?_
      refine ps_lret rfl rfl ?_
      exact kk
    | succ d ih =>
      intro y hy u9 u10
      have inner : ∀ f x, x + f = P.w → ∀ u10 : Value, u10 = .int (nI x) → pm_W (g_P ys) 172 46 [.ref 170, .ref cm, .int (nI a), .int (nI b), .ref p, .long (suL (mtG P S row a b) (P.w * y + x)), .retAddr 0, .int (nI (P.w * y + x)), .int (nI y), .int (nI ((y + b) % P.v * P.w)), u10] [] (I, L, g_R s, 306) (0, 0) Q := by
        intro f
        induction f with
        | zero =>
          intro x hx u10 hu
          subst hu
          have ex : x = P.w := by omega
          subst ex
          refine ps_iload rfl rfl ?_
          refine ps_aload rfl rfl ?_
          refine ps_gfi 9 4 rfl rfl rfl (by first | exact hS0 _ _ | exact hS1 _ _ | exact hS2 _ _ | exact hS3 _ _ | exact hS4 _ _ | exact hS5 _ _ | exact hS6 _ _ | exact hS7 _ _ | exact hS8 _ _ | exact hS9 _ _ | exact hS10 _ _ | exact hS11 _ _ | exact hS12 _ _ | exact hS13 _ _ | exact hS14 _ _ | exact hS15 _ _ | exact hS16 _ _ | exact hS17 _ _ | exact hS18 _ _ | exact hS19 _ _ | exact hS20 _ _ | exact hS21 _ _ | exact hS22 _ _ | exact hS23 _ _ | assumption | rfl) rfl ?_
          rw [show ((I, L, g_R s, 306) : pm_H).1 p 4 = nI P.w from hP.1.1]
          refine ps_icmpt rfl (decide_eq_true (nI_le (by omega) (by omega))) ?_
          refine ps_iinc rfl rfl ?_
          refine ps_goto rfl ?_
          rw [show nI y + Int32.ofInt 1 = nI (y + 1) from nI_1 y]
          rw [show P.w * y + P.w = P.w * (y + 1) by rw [Nat.mul_add, Nat.mul_one]]
          exact ih (y + 1) (by omega) _ _
        | succ f ihf =>
          intro x hx u10 hu
          subst hu
          have b1 := (row_in (w := P.w) (v := P.v) (y := y) (x := x) (by omega) (by omega)).1
          have m1 := Nat.mod_lt (y + b) v0
          have m2 := Nat.mod_lt (x + a) w0
          have b2 := (row_in (w := P.w) (v := P.v) (y := (y + b) % P.v) (x := (x + a) % P.w) m1 m2).2
          obtain ⟨e1, e2⟩ := sq_ix (p := P.w) (x := x) (y := y) (by omega)
          have gl : mtG P S row a b (P.w * y + x) = (row (P.w * y + x)).toInt64 * (shadF P S ((y + b) % P.v * P.w + (x + a) % P.w)).toInt64 := by
            unfold mtG
            rw [e1, e2, cxy_n]
          have z := ihf (x + 1) (by omega) _ rfl
          rw [show P.w * y + (x + 1) = P.w * y + x + 1 from rfl, suL_s, gl] at z
          refine ps_iload rfl rfl ?_
          refine ps_aload rfl rfl ?_
          refine ps_gfi 9 4 rfl rfl rfl (by first | exact hS0 _ _ | exact hS1 _ _ | exact hS2 _ _ | exact hS3 _ _ | exact hS4 _ _ | exact hS5 _ _ | exact hS6 _ _ | exact hS7 _ _ | exact hS8 _ _ | exact hS9 _ _ | exact hS10 _ _ | exact hS11 _ _ | exact hS12 _ _ | exact hS13 _ _ | exact hS14 _ _ | exact hS15 _ _ | exact hS16 _ _ | exact hS17 _ _ | exact hS18 _ _ | exact hS19 _ _ | exact hS20 _ _ | exact hS21 _ _ | exact hS22 _ _ | exact hS23 _ _ | assumption | rfl) rfl ?_
          rw [show ((I, L, g_R s, 306) : pm_H).1 p 4 = nI P.w from hP.1.1]
          refine ps_icmpf rfl (decide_eq_false (nI_ge (by omega) (by omega))) ?_
          refine ps_lload rfl rfl ?_
          refine ps_aload rfl rfl ?_
          refine ps_gfr 7 0 rfl rfl rfl (by first | exact hS0 _ _ | exact hS1 _ _ | exact hS2 _ _ | exact hS3 _ _ | exact hS4 _ _ | exact hS5 _ _ | exact hS6 _ _ | exact hS7 _ _ | exact hS8 _ _ | exact hS9 _ _ | exact hS10 _ _ | exact hS11 _ _ | exact hS12 _ _ | exact hS13 _ _ | exact hS14 _ _ | exact hS15 _ _ | exact hS16 _ _ | exact hS17 _ _ | exact hS18 _ _ | exact hS19 _ _ | exact hS20 _ _ | exact hS21 _ _ | exact hS22 _ _ | exact hS23 _ _ | assumption | rfl) rfl (by first | assumption | rfl) ?_
          refine ps_iload rfl rfl ?_
          refine ps_iald (P.w * y + x) rfl (by first | exact hS0 _ _ | exact hS1 _ _ | exact hS2 _ _ | exact hS3 _ _ | exact hS4 _ _ | exact hS5 _ _ | exact hS6 _ _ | exact hS7 _ _ | exact hS8 _ _ | exact hS9 _ _ | exact hS10 _ _ | exact hS11 _ _ | exact hS12 _ _ | exact hS13 _ _ | exact hS14 _ _ | exact hS15 _ _ | exact hS16 _ _ | exact hS17 _ _ | exact hS18 _ _ | exact hS19 _ _ | exact hS20 _ _ | exact hS21 _ _ | exact hS22 _ _ | exact hS23 _ _ | assumption | rfl) rfl (rfl) (by omega) ?_
          rw [show ((I, L, g_R s, 306) : pm_H).1 171 (P.w * y + x) = row (P.w * y + x) from hr _ (by omega)]
          refine ps_ar rfl rfl rfl rfl rfl ?_
          refine ps_aload rfl rfl ?_
          refine ps_gfr 10 2 rfl rfl rfl (by first | exact hS0 _ _ | exact hS1 _ _ | exact hS2 _ _ | exact hS3 _ _ | exact hS4 _ _ | exact hS5 _ _ | exact hS6 _ _ | exact hS7 _ _ | exact hS8 _ _ | exact hS9 _ _ | exact hS10 _ _ | exact hS11 _ _ | exact hS12 _ _ | exact hS13 _ _ | exact hS14 _ _ | exact hS15 _ _ | exact hS16 _ _ | exact hS17 _ _ | exact hS18 _ _ | exact hS19 _ _ | exact hS20 _ _ | exact hS21 _ _ | exact hS22 _ _ | exact hS23 _ _ | assumption | rfl) rfl (by first | assumption | rfl) ?_
          refine ps_iload rfl rfl ?_
          refine ps_iload rfl rfl ?_
          refine ps_iload rfl rfl ?_
          refine ps_ar rfl rfl rfl rfl rfl ?_
          rw [nI_add]
          refine ps_aload rfl rfl ?_
          refine ps_gfi 9 4 rfl rfl rfl (by first | exact hS0 _ _ | exact hS1 _ _ | exact hS2 _ _ | exact hS3 _ _ | exact hS4 _ _ | exact hS5 _ _ | exact hS6 _ _ | exact hS7 _ _ | exact hS8 _ _ | exact hS9 _ _ | exact hS10 _ _ | exact hS11 _ _ | exact hS12 _ _ | exact hS13 _ _ | exact hS14 _ _ | exact hS15 _ _ | exact hS16 _ _ | exact hS17 _ _ | exact hS18 _ _ | exact hS19 _ _ | exact hS20 _ _ | exact hS21 _ _ | exact hS22 _ _ | exact hS23 _ _ | assumption | rfl) rfl ?_
          rw [show ((I, L, g_R s, 306) : pm_H).1 p 4 = nI P.w from hP.1.1]
          refine ps_rem rfl (nI_nz w0 (by omega)) ?_
          rw [nI_rem (by omega) w0 (by omega)]
          refine ps_ar rfl rfl rfl rfl rfl ?_
          rw [nI_add]
          refine ps_iald ((y + b) % P.v * P.w + (x + a) % P.w) rfl (by first | exact hS0 _ _ | exact hS1 _ _ | exact hS2 _ _ | exact hS3 _ _ | exact hS4 _ _ | exact hS5 _ _ | exact hS6 _ _ | exact hS7 _ _ | exact hS8 _ _ | exact hS9 _ _ | exact hS10 _ _ | exact hS11 _ _ | exact hS12 _ _ | exact hS13 _ _ | exact hS14 _ _ | exact hS15 _ _ | exact hS16 _ _ | exact hS17 _ _ | exact hS18 _ _ | exact hS19 _ _ | exact hS20 _ _ | exact hS21 _ _ | exact hS22 _ _ | exact hS23 _ _ | assumption | rfl) rfl (rfl) (by omega) ?_
          rw [show ((I, L, g_R s, 306) : pm_H).1 (cm + 3) ((y + b) % P.v * P.w + (x + a) % P.w) = shadF P S ((y + b) % P.v * P.w + (x + a) % P.w) from ha _ b2]
          refine ps_ar rfl rfl rfl rfl rfl ?_
          refine ps_ar rfl rfl rfl rfl rfl ?_
          refine ps_ar rfl rfl rfl rfl rfl ?_
          refine ps_lstore rfl rfl ?_
          refine ps_iinc rfl rfl ?_
          refine ps_iinc rfl rfl ?_
          refine ps_goto rfl ?_
          rw [show nI (P.w * y + x) + Int32.ofInt 1 = nI (P.w * y + x + 1) from nI_1 _]
          rw [show nI x + Int32.ofInt 1 = nI (x + 1) from nI_1 x]
          exact z
      refine ps_iload rfl rfl ?_
      refine ps_aload rfl rfl ?_
      refine ps_gfi 9 5 rfl rfl rfl (by first | exact hS0 _ _ | exact hS1 _ _ | exact hS2 _ _ | exact hS3 _ _ | exact hS4 _ _ | exact hS5 _ _ | exact hS6 _ _ | exact hS7 _ _ | exact hS8 _ _ | exact hS9 _ _ | exact hS10 _ _ | exact hS11 _ _ | exact hS12 _ _ | exact hS13 _ _ | exact hS14 _ _ | exact hS15 _ _ | exact hS16 _ _ | exact hS17 _ _ | exact hS18 _ _ | exact hS19 _ _ | exact hS20 _ _ | exact hS21 _ _ | exact hS22 _ _ | exact hS23 _ _ | assumption | rfl) rfl ?_
      rw [show ((I, L, g_R s, 306) : pm_H).1 p 5 = nI P.v from hP.1.2.1]
      refine ps_icmpf rfl (decide_eq_false (nI_ge (by omega) (by omega))) ?_
      refine ps_iload rfl rfl ?_
      refine ps_iload rfl rfl ?_
      refine ps_ar rfl rfl rfl rfl rfl ?_
      rw [nI_add]
      refine ps_aload rfl rfl ?_
      refine ps_gfi 9 5 rfl rfl rfl (by first | exact hS0 _ _ | exact hS1 _ _ | exact hS2 _ _ | exact hS3 _ _ | exact hS4 _ _ | exact hS5 _ _ | exact hS6 _ _ | exact hS7 _ _ | exact hS8 _ _ | exact hS9 _ _ | exact hS10 _ _ | exact hS11 _ _ | exact hS12 _ _ | exact hS13 _ _ | exact hS14 _ _ | exact hS15 _ _ | exact hS16 _ _ | exact hS17 _ _ | exact hS18 _ _ | exact hS19 _ _ | exact hS20 _ _ | exact hS21 _ _ | exact hS22 _ _ | exact hS23 _ _ | assumption | rfl) rfl ?_
      rw [show ((I, L, g_R s, 306) : pm_H).1 p 5 = nI P.v from hP.1.2.1]
      refine ps_rem rfl (nI_nz v0 (by omega)) ?_
      rw [nI_rem (by omega) v0 (by omega)]
      refine ps_aload rfl rfl ?_
      refine ps_gfi 9 4 rfl rfl rfl (by first | exact hS0 _ _ | exact hS1 _ _ | exact hS2 _ _ | exact hS3 _ _ | exact hS4 _ _ | exact hS5 _ _ | exact hS6 _ _ | exact hS7 _ _ | exact hS8 _ _ | exact hS9 _ _ | exact hS10 _ _ | exact hS11 _ _ | exact hS12 _ _ | exact hS13 _ _ | exact hS14 _ _ | exact hS15 _ _ | exact hS16 _ _ | exact hS17 _ _ | exact hS18 _ _ | exact hS19 _ _ | exact hS20 _ _ | exact hS21 _ _ | exact hS22 _ _ | exact hS23 _ _ | assumption | rfl) rfl ?_
      rw [show ((I, L, g_R s, 306) : pm_H).1 p 4 = nI P.w from hP.1.1]
      refine ps_ar rfl rfl rfl rfl rfl ?_
      rw [pk_mul]
      refine ps_istore rfl rfl ?_
      refine pw_c rfl ?_
      refine ps_istore rfl rfl ?_
      exact inner P.w 0 (by omega) _ rfl
  refine ps_aload rfl rfl ?_
  refine ps_gfr 10 13 rfl rfl rfl (by first | exact hS0 _ _ | exact hS1 _ _ | exact hS2 _ _ | exact hS3 _ _ | exact hS4 _ _ | exact hS5 _ _ | exact hS6 _ _ | exact hS7 _ _ | exact hS8 _ _ | exact hS9 _ _ | exact hS10 _ _ | exact hS11 _ _ | exact hS12 _ _ | exact hS13 _ _ | exact hS14 _ _ | exact hS15 _ _ | exact hS16 _ _ | exact hS17 _ _ | exact hS18 _ _ | exact hS19 _ _ | exact hS20 _ _ | exact hS21 _ _ | exact hS22 _ _ | exact hS23 _ _ | assumption | rfl) rfl (by first | assumption | rfl) ?_
  refine ps_astore rfl rfl ?_
  refine pw_c rfl ?_
  refine ps_lstore rfl rfl ?_
  refine pw_c rfl ?_
  refine ps_istore rfl rfl ?_
  refine pw_c rfl ?_
  refine ps_istore rfl rfl ?_
  exact outer P.v 0 (by omega) _ _
/-- the first of the greatest, of longs -/
def pgL (f : Nat → Int64) : Nat → Nat
  | 0 => 0
  | 1 => 0
  | n + 2 => if f (pgL f (n + 1)) < f (n + 1) then n + 1 else pgL f (n + 1)
theorem pgL_lt {f : Nat → Int64} : ∀ {n : Nat}, 0 < n → pgL f n < n
  | 0, h => absurd h (by omega)
  | 1, _ => by
    rw [pgL]
    omega
  | n + 2, _ => by
    rw [pgL]
    have := pgL_lt (f := f) (n := n + 1) (by omega)
    split <;> omega
theorem pgL_s {f : Nat → Int64} {n : Nat} (h : 1 ≤ n) : pgL f (n + 1) = if f (pgL f n) < f n then n else pgL f n := by
  obtain ⟨k, rfl⟩ := Nat.exists_eq_add_of_le h
  rw [show 1 + k + 1 = k + 2 by omega, show 1 + k = k + 1 by omega, pgL]
theorem lc_le (x y : Int64) : pm_cmp .le (lg_cmp x y) 0 = decide (¬ y < x) := by
  unfold lg_cmp pm_cmp
  rcases l_tri x y with q | q | q
  · have h1 : ¬ y < x := fun z => absurd (Int64.lt_trans q z) (Int64.lt_irrefl)
    have h2 : ¬ x = y := fun z => by subst z; exact Int64.lt_irrefl q
    simp [h1, h2]
  · subst q; simp [Int64.lt_irrefl]
  · simp [q]
theorem B_layX {row : Nat → Int32} (hV : cV cm ci p e s P S I) (ha : ∀ i, i < P.w * P.v → I (cm + 3) i = shadF P S i) (hr : ∀ i, i < P.w * P.v → I 171 i = row i) (kk : ∀ I' L', (∀ a j, ¬ (a = 170 ∧ j = 3) → I' a j = I a j) → (∀ a j, ¬ (a = 170 ∧ j = 4) → L' a j = L a j) → I' 170 3 = nI (pgL (mtV P S row) (P.w * P.v)) → L' 170 4 = mtV P S row (pgL (mtV P S row) (P.w * P.v)) → Q [] (I', L', g_R s, 306)) : pm_W (g_P ys) 171 0 [.ref 170, .ref cm, .retAddr 0, .retAddr 0, .retAddr 0, .retAddr 0] [] (I, L, g_R s, 306) (0, 0) Q := by
  have hV0 := hV
  obtain ⟨hc, hp, he, h1, h2, hP, hS, ok⟩ := hV
  have cg := isC_ge hc
  have el := isE_lt he
  have pl := isP_lt hp
  have w0 := hP.1.2.2.2.1
  have v0 := hP.1.2.2.2.2.1
  have n9 := hP.1.2.2.2.2.2
  have n0 : 0 < P.w * P.v := Nat.mul_pos w0 v0
  obtain ⟨hS0, hS1, hS2, hS3, hS4, hS5, hS6, hS7, hS8, hS9⟩ := cam_F (ys := ys) (s := s) hc
  obtain ⟨hR0, hR1, hR2, hR3, hR4, hR5, hR6, hR7, hR8, hR13, hR14⟩ := cam_R (s := s) hc
  rw [h1] at hR13
  rw [h2] at hR14
  obtain ⟨hS10, hS11, hS12, hS13, hR15, hR16, hR17⟩ := pl_F (ys := ys) (s := s) hp
  obtain ⟨hS14, hR18, hR19, hR20⟩ := en_F (ys := ys) (s := s) he
  obtain ⟨wb, vb⟩ := cP_b hP.1
  have hS15 : ∀ I L, pm_sh (g_P ys) (I, L, g_R s, 306) 170 = some (.inl 7) := fun _ _ => rfl
  have pux : ∀ {I : Nat → Nat → Int64} {a j b i : Nat} {x : Int64}, ¬ (a = b ∧ j = i) → pm_u I b i x a j = I a j := fun {I a j b i x} h => by
    unfold pm_u
    by_cases h1 : a = b
    · rw [if_pos h1, if_neg (fun z => h ⟨h1, z⟩)]
    · rw [if_neg h1]
  have pus : ∀ {I : Nat → Nat → Int64} {b i : Nat} {x : Int64}, pm_u I b i x b i = x := fun {I b i x} => by
    unfold pm_u
    rw [if_pos rfl, if_pos rfl]
  have loop : ∀ d i, i + d = P.w * P.v → 1 ≤ i → ∀ I' L', (∀ a j, ¬ (a = 170 ∧ j = 3) → I' a j = I a j) → (∀ a j, ¬ (a = 170 ∧ j = 4) → L' a j = L a j) → I' 170 3 = nI (pgL (mtV P S row) i) → L' 170 4 = mtV P S row (pgL (mtV P S row) i) → ∀ u4 : Value, (u4 = .retAddr 0 ∨ ∃ x, u4 = .long x) → pm_W (g_P ys) 171 23 [.ref 170, .ref cm, .ref p, .int (nI i), u4, .retAddr 0] [] (I', L', g_R s, 306) (0, 0) Q := by
    intro d
    induction d with
    | zero =>
      intro i hi h1 I' L' q1 q2 q3 q4 u4 _
      have ei : i = P.w * P.v := by omega
      subst ei
      refine ps_iload rfl rfl ?_
      refine ps_aload rfl rfl ?_
      refine ps_gfi 9 6 rfl rfl rfl (by first | exact hS0 _ _ | exact hS1 _ _ | exact hS2 _ _ | exact hS3 _ _ | exact hS4 _ _ | exact hS5 _ _ | exact hS6 _ _ | exact hS7 _ _ | exact hS8 _ _ | exact hS9 _ _ | exact hS10 _ _ | exact hS11 _ _ | exact hS12 _ _ | exact hS13 _ _ | exact hS14 _ _ | exact hS15 _ _ | exact hS16 _ _ | exact hS17 _ _ | exact hS18 _ _ | exact hS19 _ _ | exact hS20 _ _ | exact hS21 _ _ | exact hS22 _ _ | exact hS23 _ _ | assumption | rfl) rfl ?_
      rw [show ((I', L', g_R s, 306) : pm_H).1 p 6 = nI (P.w * P.v) from (q1 _ _ (by omega)).trans hP.1.2.2.1]
      refine ps_icmpt rfl (decide_eq_true (nI_le (by omega) (by omega))) ?_
      refine ps_vret rfl rfl ?_
      exact kk I' L' q1 q2 q3 q4
    | succ d ih =>
      intro i hi h1 I' L' q1 q2 q3 q4 u4 hu
      have V' : cV cm ci p e s P S I' := by
        obtain ⟨⟨g1, g2, g3, g4⟩, g5, g6, g7, g8⟩ := hP
        exact ⟨hc, hp, he, by assumption, by assumption, ⟨⟨(q1 _ _ (by omega)).trans g1, (q1 _ _ (by omega)).trans g2, (q1 _ _ (by omega)).trans g3, g4⟩, (q1 _ _ (by omega)).trans g5, (q1 _ _ (by omega)).trans g6, (q1 _ _ (by omega)).trans g7, fun i hi => ⟨(q1 _ _ (by omega)).trans (g8 i hi).1, (q1 _ _ (by omega)).trans (g8 i hi).2⟩⟩, cSc_t hS (fun a j z1 z2 => q1 a j (by rcases he with (rfl | rfl) | ⟨t, ht, rfl⟩ <;> omega)), ok⟩
      have next := ih (i + 1) (by omega) (by omega)
      rw [pgL_s h1] at next
      have x9 := Nat.mod_lt i w0
      have y9 : i / P.w ≤ i := Nat.div_le_self _ _
      have go : ∀ u4 : Value, (u4 = .retAddr 0 ∨ ∃ x, u4 = .long x) → pm_W (g_P ys) 171 31 [.ref 170, .ref cm, .ref p, .int (nI i), u4, .retAddr 0] [] (I', L', g_R s, 306) (0, 0) Q := by
        intro u4 hu
        refine ps_aload rfl rfl ?_
        refine ps_aload rfl rfl ?_
        refine ps_aload rfl rfl ?_
        refine ps_iload rfl rfl ?_
        refine pv_k rfl rfl rfl rfl rfl (hS10 _ _) rfl ⟨Nat.zero_le _, Nat.zero_le _⟩ ?_
        refine B_xOfX hp V'.2.2.2.2.2.1.1 (by omega) ?_
        refine ps_aload rfl rfl ?_
        refine ps_iload rfl rfl ?_
        refine pv_k rfl rfl rfl rfl rfl (hS10 _ _) rfl ⟨Nat.zero_le _, Nat.zero_le _⟩ ?_
        refine B_yOfX hp V'.2.2.2.2.2.1.1 (by omega) ?_
        refine pv_k rfl rfl rfl rfl rfl (hS15 _ _) rfl ⟨Nat.zero_le _, Nat.zero_le _⟩ ?_
        refine B_sumAtX (row := row) V' (fun j hj => (q1 _ _ (by omega)).trans (ha j hj)) (fun j hj => (q1 _ _ (by omega)).trans (hr j hj)) (by omega) ?_
        show pm_W _ _ _ _ [.long (mtV P S row i)] _ _ _
        have fin : ∀ lv4 : List Value, lv4 = [.ref 170, .ref cm, .ref p, .int (nI i), .long (mtV P S row i), .retAddr 0] → pm_W (g_P ys) 171 48 lv4 [] (I', L', g_R s, 306) (0, 0) Q := by
          intro lv4 e4
          subst e4
          refine ps_lload rfl rfl ?_
          refine ps_aload rfl rfl ?_
          refine ps_gfl 7 4 rfl rfl rfl (hS15 _ _) rfl ?_
          rw [show ((I', L', g_R s, 306) : pm_H).2.1 170 4 = mtV P S row (pgL (mtV P S row) i) from q4]
          refine ps_ar rfl rfl rfl rfl rfl ?_
          by_cases c1 : mtV P S row (pgL (mtV P S row) i) < mtV P S row i
          · rw [if_pos c1] at next
            refine ps_iff rfl ((lc_le _ _).trans (decide_eq_false (fun z => z c1))) ?_
            refine ps_aload rfl rfl ?_
            refine ps_iload rfl rfl ?_
            refine ps_pfi 7 3 rfl rfl rfl (by first | exact hS0 _ _ | exact hS1 _ _ | exact hS2 _ _ | exact hS3 _ _ | exact hS4 _ _ | exact hS5 _ _ | exact hS6 _ _ | exact hS7 _ _ | exact hS8 _ _ | exact hS9 _ _ | exact hS10 _ _ | exact hS11 _ _ | exact hS12 _ _ | exact hS13 _ _ | exact hS14 _ _ | exact hS15 _ _ | exact hS16 _ _ | exact hS17 _ _ | exact hS18 _ _ | exact hS19 _ _ | exact hS20 _ _ | exact hS21 _ _ | exact hS22 _ _ | exact hS23 _ _ | assumption | rfl) rfl ?_
            refine ps_aload rfl rfl ?_
            refine ps_lload rfl rfl ?_
            refine ps_pfl 7 4 rfl rfl rfl (by first | exact hS0 _ _ | exact hS1 _ _ | exact hS2 _ _ | exact hS3 _ _ | exact hS4 _ _ | exact hS5 _ _ | exact hS6 _ _ | exact hS7 _ _ | exact hS8 _ _ | exact hS9 _ _ | exact hS10 _ _ | exact hS11 _ _ | exact hS12 _ _ | exact hS13 _ _ | exact hS14 _ _ | exact hS15 _ _ | exact hS16 _ _ | exact hS17 _ _ | exact hS18 _ _ | exact hS19 _ _ | exact hS20 _ _ | exact hS21 _ _ | exact hS22 _ _ | exact hS23 _ _ | assumption | rfl) rfl ?_
            refine ps_iinc rfl rfl ?_
            refine ps_goto rfl ?_
            rw [show nI i + Int32.ofInt 1 = nI (i + 1) from nI_1 i]
            refine next _ _ (fun a j z => (pu_x z).trans (q1 a j z)) (fun a j z => (pux z).trans (q2 a j z)) pu_s pus _ (Or.inr ⟨_, rfl⟩)
          · rw [if_neg c1] at next
            refine ps_ift rfl ((lc_le _ _).trans (decide_eq_true c1)) ?_
            refine ps_iinc rfl rfl ?_
            refine ps_goto rfl ?_
            rw [show nI i + Int32.ofInt 1 = nI (i + 1) from nI_1 i]
            exact next _ _ q1 q2 q3 q4 _ (Or.inr ⟨_, rfl⟩)
        rcases hu with rfl | ⟨x, rfl⟩
        · refine ps_lstore rfl rfl ?_
          exact fin _ rfl
        · refine ps_lstore rfl rfl ?_
          exact fin _ rfl
      refine ps_iload rfl rfl ?_
      refine ps_aload rfl rfl ?_
      refine ps_gfi 9 6 rfl rfl rfl (by first | exact hS0 _ _ | exact hS1 _ _ | exact hS2 _ _ | exact hS3 _ _ | exact hS4 _ _ | exact hS5 _ _ | exact hS6 _ _ | exact hS7 _ _ | exact hS8 _ _ | exact hS9 _ _ | exact hS10 _ _ | exact hS11 _ _ | exact hS12 _ _ | exact hS13 _ _ | exact hS14 _ _ | exact hS15 _ _ | exact hS16 _ _ | exact hS17 _ _ | exact hS18 _ _ | exact hS19 _ _ | exact hS20 _ _ | exact hS21 _ _ | exact hS22 _ _ | exact hS23 _ _ | assumption | rfl) rfl ?_
      rw [show ((I', L', g_R s, 306) : pm_H).1 p 6 = nI (P.w * P.v) from (q1 _ _ (by omega)).trans hP.1.2.2.1]
      refine ps_icmpf rfl (decide_eq_false (nI_ge (by omega) (by omega))) ?_
      exact go u4 hu
  refine ps_aload rfl rfl ?_
  refine ps_gfr 10 13 rfl rfl rfl (by first | exact hS0 _ _ | exact hS1 _ _ | exact hS2 _ _ | exact hS3 _ _ | exact hS4 _ _ | exact hS5 _ _ | exact hS6 _ _ | exact hS7 _ _ | exact hS8 _ _ | exact hS9 _ _ | exact hS10 _ _ | exact hS11 _ _ | exact hS12 _ _ | exact hS13 _ _ | exact hS14 _ _ | exact hS15 _ _ | exact hS16 _ _ | exact hS17 _ _ | exact hS18 _ _ | exact hS19 _ _ | exact hS20 _ _ | exact hS21 _ _ | exact hS22 _ _ | exact hS23 _ _ | assumption | rfl) rfl (by first | assumption | rfl) ?_
  refine ps_astore rfl rfl ?_
  refine ps_aload rfl rfl ?_
  refine pw_c rfl ?_
  refine ps_pfi 7 3 rfl rfl rfl (by first | exact hS0 _ _ | exact hS1 _ _ | exact hS2 _ _ | exact hS3 _ _ | exact hS4 _ _ | exact hS5 _ _ | exact hS6 _ _ | exact hS7 _ _ | exact hS8 _ _ | exact hS9 _ _ | exact hS10 _ _ | exact hS11 _ _ | exact hS12 _ _ | exact hS13 _ _ | exact hS14 _ _ | exact hS15 _ _ | exact hS16 _ _ | exact hS17 _ _ | exact hS18 _ _ | exact hS19 _ _ | exact hS20 _ _ | exact hS21 _ _ | exact hS22 _ _ | exact hS23 _ _ | assumption | rfl) rfl ?_
  refine ps_aload rfl rfl ?_
  refine ps_aload rfl rfl ?_
  refine ps_aload rfl rfl ?_
  refine pw_c rfl ?_
  refine pw_c rfl ?_
  have V1 : cV cm ci p e s P S (pm_u I 170 3 0) := by
    have q1 : ∀ a j, ¬ (a = 170 ∧ j = 3) → pm_u I 170 3 0 a j = I a j := fun a j z => pu_x z
    obtain ⟨⟨g1, g2, g3, g4⟩, g5, g6, g7, g8⟩ := hP
    exact ⟨hc, hp, he, by assumption, by assumption, ⟨⟨(q1 _ _ (by omega)).trans g1, (q1 _ _ (by omega)).trans g2, (q1 _ _ (by omega)).trans g3, g4⟩, (q1 _ _ (by omega)).trans g5, (q1 _ _ (by omega)).trans g6, (q1 _ _ (by omega)).trans g7, fun i hi => ⟨(q1 _ _ (by omega)).trans (g8 i hi).1, (q1 _ _ (by omega)).trans (g8 i hi).2⟩⟩, cSc_t hS (fun a j z1 z2 => q1 a j (by rcases he with (rfl | rfl) | ⟨t, ht, rfl⟩ <;> omega)), ok⟩
  refine pv_k rfl rfl rfl rfl rfl (hS15 _ _) rfl ⟨Nat.zero_le _, Nat.zero_le _⟩ ?_
  refine B_sumAtX (a := 0) (b := 0) (row := row) V1 (fun j hj => (pu_o (by omega)).trans (ha j hj)) (fun j hj => (pu_o (by omega)).trans (hr j hj)) (by omega) ?_
  refine ps_pfl 7 4 rfl rfl rfl (by first | exact hS0 _ _ | exact hS1 _ _ | exact hS2 _ _ | exact hS3 _ _ | exact hS4 _ _ | exact hS5 _ _ | exact hS6 _ _ | exact hS7 _ _ | exact hS8 _ _ | exact hS9 _ _ | exact hS10 _ _ | exact hS11 _ _ | exact hS12 _ _ | exact hS13 _ _ | exact hS14 _ _ | exact hS15 _ _ | exact hS16 _ _ | exact hS17 _ _ | exact hS18 _ _ | exact hS19 _ _ | exact hS20 _ _ | exact hS21 _ _ | exact hS22 _ _ | exact hS23 _ _ | assumption | rfl) rfl ?_
  refine pw_c rfl ?_
  refine ps_istore rfl rfl ?_
  have e0 : mtV P S row 0 = suL (mtG P S row 0 0) (P.w * P.v) := by
    unfold mtV
    rw [Nat.zero_mod, Nat.zero_div]
  refine loop (P.w * P.v - 1) 1 (by omega) (by omega) _ _ (fun a j z => pu_x z) (fun a j z => pux z) pu_s (pus.trans e0.symm) _ (Or.inl rfl)
/-- THE PICTURE, as the class has it: none, if it is 0 WIDE -/
abbrev sPc : Type := Nat × Nat × (Nat → Int32)
def sPc.ok (pc : sPc) : Prop := pc.1 < 1000 ∧ pc.2.1 < 1000 ∧ pc.1 * pc.2.1 ≤ 289
def cPc (pc : sPc) (I : Nat → Nat → Int32) : Prop := I 170 1 = nI pc.1 ∧ I 170 2 = nI pc.2.1 ∧ sPc.ok pc ∧ ∀ i, i < pc.1 * pc.2.1 → I 171 i = pc.2.2 i
theorem B_fitsX {pc : sPc} (hp : isP p) (hP : cP I p P.w P.v) (hc : cPc pc I) (kk : Q [.int (bI (decide (P.w = pc.1 ∧ P.v = pc.2.1)))] (I, L, g_R s, 306)) : pm_W (g_P ys) 170 0 [.ref 170, .ref p] [] (I, L, g_R s, 306) (0, 0) Q := by
  obtain ⟨hS10, hS11, hS12, hS13, hR15, hR16, hR17⟩ := pl_F (ys := ys) (s := s) hp
  obtain ⟨wb, vb⟩ := cP_b hP
  obtain ⟨k1, k2, ⟨k3, k4, k5⟩, _⟩ := hc
  have hS15 : ∀ I L, pm_sh (g_P ys) (I, L, g_R s, 306) 170 = some (.inl 7) := fun _ _ => rfl
  refine ps_aload rfl rfl ?_
  refine ps_gfi 9 4 rfl rfl rfl (by first | exact hS0 _ _ | exact hS1 _ _ | exact hS2 _ _ | exact hS3 _ _ | exact hS4 _ _ | exact hS5 _ _ | exact hS6 _ _ | exact hS7 _ _ | exact hS8 _ _ | exact hS9 _ _ | exact hS10 _ _ | exact hS11 _ _ | exact hS12 _ _ | exact hS13 _ _ | exact hS14 _ _ | exact hS15 _ _ | exact hS16 _ _ | exact hS17 _ _ | exact hS18 _ _ | exact hS19 _ _ | exact hS20 _ _ | exact hS21 _ _ | exact hS22 _ _ | exact hS23 _ _ | assumption | rfl) rfl ?_
  rw [show ((I, L, g_R s, 306) : pm_H).1 p 4 = nI P.w from hP.1]
  refine ps_aload rfl rfl ?_
  refine ps_gfi 7 1 rfl rfl rfl (by first | exact hS0 _ _ | exact hS1 _ _ | exact hS2 _ _ | exact hS3 _ _ | exact hS4 _ _ | exact hS5 _ _ | exact hS6 _ _ | exact hS7 _ _ | exact hS8 _ _ | exact hS9 _ _ | exact hS10 _ _ | exact hS11 _ _ | exact hS12 _ _ | exact hS13 _ _ | exact hS14 _ _ | exact hS15 _ _ | exact hS16 _ _ | exact hS17 _ _ | exact hS18 _ _ | exact hS19 _ _ | exact hS20 _ _ | exact hS21 _ _ | exact hS22 _ _ | exact hS23 _ _ | assumption | rfl) rfl ?_
  rw [show ((I, L, g_R s, 306) : pm_H).1 170 1 = nI pc.1 from k1]
  by_cases e1 : P.w = pc.1
  · refine ps_icmpf rfl (decide_eq_false (fun z => z (by rw [e1]))) ?_
    refine ps_aload rfl rfl ?_
    refine ps_gfi 9 5 rfl rfl rfl (by first | exact hS0 _ _ | exact hS1 _ _ | exact hS2 _ _ | exact hS3 _ _ | exact hS4 _ _ | exact hS5 _ _ | exact hS6 _ _ | exact hS7 _ _ | exact hS8 _ _ | exact hS9 _ _ | exact hS10 _ _ | exact hS11 _ _ | exact hS12 _ _ | exact hS13 _ _ | exact hS14 _ _ | exact hS15 _ _ | exact hS16 _ _ | exact hS17 _ _ | exact hS18 _ _ | exact hS19 _ _ | exact hS20 _ _ | exact hS21 _ _ | exact hS22 _ _ | exact hS23 _ _ | assumption | rfl) rfl ?_
    rw [show ((I, L, g_R s, 306) : pm_H).1 p 5 = nI P.v from hP.2.1]
    refine ps_aload rfl rfl ?_
    refine ps_gfi 7 2 rfl rfl rfl (by first | exact hS0 _ _ | exact hS1 _ _ | exact hS2 _ _ | exact hS3 _ _ | exact hS4 _ _ | exact hS5 _ _ | exact hS6 _ _ | exact hS7 _ _ | exact hS8 _ _ | exact hS9 _ _ | exact hS10 _ _ | exact hS11 _ _ | exact hS12 _ _ | exact hS13 _ _ | exact hS14 _ _ | exact hS15 _ _ | exact hS16 _ _ | exact hS17 _ _ | exact hS18 _ _ | exact hS19 _ _ | exact hS20 _ _ | exact hS21 _ _ | exact hS22 _ _ | exact hS23 _ _ | assumption | rfl) rfl ?_
    rw [show ((I, L, g_R s, 306) : pm_H).1 170 2 = nI pc.2.1 from k2]
    by_cases e2 : P.v = pc.2.1
    · rw [decide_eq_true ⟨e1, e2⟩] at kk
      refine ps_icmpf rfl (decide_eq_false (fun z => z (by rw [e2]))) ?_
      refine pw_c rfl ?_
      refine ps_goto rfl ?_
      refine ps_zret rfl rfl (Or.inr rfl) ?_
      exact kk
    · rw [decide_eq_false (fun z => e2 z.2)] at kk
      refine ps_icmpt rfl (decide_eq_true (fun z => e2 (nI_eqv (by omega) (by omega) z))) ?_
      refine pw_c rfl ?_
      refine ps_zret rfl rfl (Or.inl rfl) ?_
      exact kk
  · rw [decide_eq_false (fun z => e1 z.1)] at kk
    refine ps_icmpt rfl (decide_eq_true (fun z => e1 (nI_eqv (by omega) (by omega) z))) ?_
    refine pw_c rfl ?_
    refine ps_zret rfl rfl (Or.inl rfl) ?_
    exact kk
theorem B_takePX (hV : cV cm ci p e s P S I) (ha : ∀ i, i < P.w * P.v → I (cm + 3) i = shadF P S i) (kk : ∀ I', (∀ a j, ¬ (a = 170 ∨ a = 171) → I' a j = I a j) → cPc (P.w, P.v, shadF P S) I' → Q [] (I', L, g_R s, 306)) : pm_W (g_P ys) 168 0 [.ref 170, .ref cm] [] (I, L, g_R s, 306) (0, 0) Q := by
  have hV0 := hV
  obtain ⟨hc, hp, he, h1, h2, hP, hS, ok⟩ := hV
  have cg := isC_ge hc
  have el := isE_lt he
  have pl := isP_lt hp
  have w0 := hP.1.2.2.2.1
  have v0 := hP.1.2.2.2.2.1
  have n9 := hP.1.2.2.2.2.2
  have n0 : 0 < P.w * P.v := Nat.mul_pos w0 v0
  obtain ⟨hS0, hS1, hS2, hS3, hS4, hS5, hS6, hS7, hS8, hS9⟩ := cam_F (ys := ys) (s := s) hc
  obtain ⟨hR0, hR1, hR2, hR3, hR4, hR5, hR6, hR7, hR8, hR13, hR14⟩ := cam_R (s := s) hc
  rw [h1] at hR13
  rw [h2] at hR14
  obtain ⟨hS10, hS11, hS12, hS13, hR15, hR16, hR17⟩ := pl_F (ys := ys) (s := s) hp
  obtain ⟨hS14, hR18, hR19, hR20⟩ := en_F (ys := ys) (s := s) he
  obtain ⟨wb, vb⟩ := cP_b hP.1
  have hS15 : ∀ I L, pm_sh (g_P ys) (I, L, g_R s, 306) 170 = some (.inl 7) := fun _ _ => rfl
  have hS16 : ∀ I L, pm_sh (g_P ys) (I, L, g_R s, 306) 171 = some (.inr (0, 289)) := fun _ _ => rfl
  refine ps_aload rfl rfl ?_
  refine ps_aload rfl rfl ?_
  refine ps_gfr 10 13 rfl rfl rfl (by first | exact hS0 _ _ | exact hS1 _ _ | exact hS2 _ _ | exact hS3 _ _ | exact hS4 _ _ | exact hS5 _ _ | exact hS6 _ _ | exact hS7 _ _ | exact hS8 _ _ | exact hS9 _ _ | exact hS10 _ _ | exact hS11 _ _ | exact hS12 _ _ | exact hS13 _ _ | exact hS14 _ _ | exact hS15 _ _ | exact hS16 _ _ | exact hS17 _ _ | exact hS18 _ _ | exact hS19 _ _ | exact hS20 _ _ | exact hS21 _ _ | exact hS22 _ _ | exact hS23 _ _ | assumption | rfl) rfl (by first | assumption | rfl) ?_
  refine ps_gfi 9 4 rfl rfl rfl (by first | exact hS0 _ _ | exact hS1 _ _ | exact hS2 _ _ | exact hS3 _ _ | exact hS4 _ _ | exact hS5 _ _ | exact hS6 _ _ | exact hS7 _ _ | exact hS8 _ _ | exact hS9 _ _ | exact hS10 _ _ | exact hS11 _ _ | exact hS12 _ _ | exact hS13 _ _ | exact hS14 _ _ | exact hS15 _ _ | exact hS16 _ _ | exact hS17 _ _ | exact hS18 _ _ | exact hS19 _ _ | exact hS20 _ _ | exact hS21 _ _ | exact hS22 _ _ | exact hS23 _ _ | assumption | rfl) rfl ?_
  rw [show ((I, L, g_R s, 306) : pm_H).1 p 4 = nI P.w from hP.1.1]
  refine ps_pfi 7 1 rfl rfl rfl (by first | exact hS0 _ _ | exact hS1 _ _ | exact hS2 _ _ | exact hS3 _ _ | exact hS4 _ _ | exact hS5 _ _ | exact hS6 _ _ | exact hS7 _ _ | exact hS8 _ _ | exact hS9 _ _ | exact hS10 _ _ | exact hS11 _ _ | exact hS12 _ _ | exact hS13 _ _ | exact hS14 _ _ | exact hS15 _ _ | exact hS16 _ _ | exact hS17 _ _ | exact hS18 _ _ | exact hS19 _ _ | exact hS20 _ _ | exact hS21 _ _ | exact hS22 _ _ | exact hS23 _ _ | assumption | rfl) rfl ?_
  refine ps_aload rfl rfl ?_
  refine ps_aload rfl rfl ?_
  refine ps_gfr 10 13 rfl rfl rfl (by first | exact hS0 _ _ | exact hS1 _ _ | exact hS2 _ _ | exact hS3 _ _ | exact hS4 _ _ | exact hS5 _ _ | exact hS6 _ _ | exact hS7 _ _ | exact hS8 _ _ | exact hS9 _ _ | exact hS10 _ _ | exact hS11 _ _ | exact hS12 _ _ | exact hS13 _ _ | exact hS14 _ _ | exact hS15 _ _ | exact hS16 _ _ | exact hS17 _ _ | exact hS18 _ _ | exact hS19 _ _ | exact hS20 _ _ | exact hS21 _ _ | exact hS22 _ _ | exact hS23 _ _ | assumption | rfl) rfl (by first | assumption | rfl) ?_
  refine ps_gfi 9 5 rfl rfl rfl (by first | exact hS0 _ _ | exact hS1 _ _ | exact hS2 _ _ | exact hS3 _ _ | exact hS4 _ _ | exact hS5 _ _ | exact hS6 _ _ | exact hS7 _ _ | exact hS8 _ _ | exact hS9 _ _ | exact hS10 _ _ | exact hS11 _ _ | exact hS12 _ _ | exact hS13 _ _ | exact hS14 _ _ | exact hS15 _ _ | exact hS16 _ _ | exact hS17 _ _ | exact hS18 _ _ | exact hS19 _ _ | exact hS20 _ _ | exact hS21 _ _ | exact hS22 _ _ | exact hS23 _ _ | assumption | rfl) rfl ?_
  show pm_W _ _ _ _ [.int (pm_u I 170 1 (nI P.w) p 5), .ref 170] (pm_u I 170 1 (nI P.w), L, g_R s, 306) _ _
  rw [pu_o (by omega), hP.1.2.1]
  refine ps_pfi 7 2 rfl rfl rfl (by first | exact hS0 _ _ | exact hS1 _ _ | exact hS2 _ _ | exact hS3 _ _ | exact hS4 _ _ | exact hS5 _ _ | exact hS6 _ _ | exact hS7 _ _ | exact hS8 _ _ | exact hS9 _ _ | exact hS10 _ _ | exact hS11 _ _ | exact hS12 _ _ | exact hS13 _ _ | exact hS14 _ _ | exact hS15 _ _ | exact hS16 _ _ | exact hS17 _ _ | exact hS18 _ _ | exact hS19 _ _ | exact hS20 _ _ | exact hS21 _ _ | exact hS22 _ _ | exact hS23 _ _ | assumption | rfl) rfl ?_
  refine ps_aload rfl rfl ?_
  refine ps_gfr 10 2 rfl rfl rfl (by first | exact hS0 _ _ | exact hS1 _ _ | exact hS2 _ _ | exact hS3 _ _ | exact hS4 _ _ | exact hS5 _ _ | exact hS6 _ _ | exact hS7 _ _ | exact hS8 _ _ | exact hS9 _ _ | exact hS10 _ _ | exact hS11 _ _ | exact hS12 _ _ | exact hS13 _ _ | exact hS14 _ _ | exact hS15 _ _ | exact hS16 _ _ | exact hS17 _ _ | exact hS18 _ _ | exact hS19 _ _ | exact hS20 _ _ | exact hS21 _ _ | exact hS22 _ _ | exact hS23 _ _ | assumption | rfl) rfl (by first | assumption | rfl) ?_
  refine pw_c rfl ?_
  refine ps_aload rfl rfl ?_
  refine ps_gfr 7 0 rfl rfl rfl (by first | exact hS0 _ _ | exact hS1 _ _ | exact hS2 _ _ | exact hS3 _ _ | exact hS4 _ _ | exact hS5 _ _ | exact hS6 _ _ | exact hS7 _ _ | exact hS8 _ _ | exact hS9 _ _ | exact hS10 _ _ | exact hS11 _ _ | exact hS12 _ _ | exact hS13 _ _ | exact hS14 _ _ | exact hS15 _ _ | exact hS16 _ _ | exact hS17 _ _ | exact hS18 _ _ | exact hS19 _ _ | exact hS20 _ _ | exact hS21 _ _ | exact hS22 _ _ | exact hS23 _ _ | assumption | rfl) rfl (by first | assumption | rfl) ?_
  refine pw_c rfl ?_
  refine ps_aload rfl rfl ?_
  refine ps_gfr 10 13 rfl rfl rfl (by first | exact hS0 _ _ | exact hS1 _ _ | exact hS2 _ _ | exact hS3 _ _ | exact hS4 _ _ | exact hS5 _ _ | exact hS6 _ _ | exact hS7 _ _ | exact hS8 _ _ | exact hS9 _ _ | exact hS10 _ _ | exact hS11 _ _ | exact hS12 _ _ | exact hS13 _ _ | exact hS14 _ _ | exact hS15 _ _ | exact hS16 _ _ | exact hS17 _ _ | exact hS18 _ _ | exact hS19 _ _ | exact hS20 _ _ | exact hS21 _ _ | exact hS22 _ _ | exact hS23 _ _ | assumption | rfl) rfl (by first | assumption | rfl) ?_
  refine ps_gfi 9 6 rfl rfl rfl (by first | exact hS0 _ _ | exact hS1 _ _ | exact hS2 _ _ | exact hS3 _ _ | exact hS4 _ _ | exact hS5 _ _ | exact hS6 _ _ | exact hS7 _ _ | exact hS8 _ _ | exact hS9 _ _ | exact hS10 _ _ | exact hS11 _ _ | exact hS12 _ _ | exact hS13 _ _ | exact hS14 _ _ | exact hS15 _ _ | exact hS16 _ _ | exact hS17 _ _ | exact hS18 _ _ | exact hS19 _ _ | exact hS20 _ _ | exact hS21 _ _ | exact hS22 _ _ | exact hS23 _ _ | assumption | rfl) rfl ?_
  obtain ⟨I1, hI1⟩ : ∃ I1, I1 = pm_u (pm_u I 170 1 (nI P.w)) 170 2 (nI P.v) := ⟨_, rfl⟩
  show pm_W _ _ _ _ [.int (pm_u (pm_u I 170 1 (nI P.w)) 170 2 (nI P.v) p 6), .int 0, .ref 171, .int 0, .ref (cm + 3)] (pm_u (pm_u I 170 1 (nI P.w)) 170 2 (nI P.v), L, g_R s, 306) _ _
  rw [← hI1]
  have o1 : ∀ a j, ¬ a = 170 → I1 a j = I a j := fun a j z => by
    rw [hI1]
    exact (pu_o z).trans (pu_o z)
  have i1 : I1 170 1 = nI P.w ∧ I1 170 2 = nI P.v := by
    rw [hI1]
    exact ⟨(pu_n (by decide)).trans pu_s, pu_s⟩
  clear hI1
  rw [o1 _ _ (by omega), hP.1.2.2.1]
  refine ps_acpy (n0 := 289) (n1 := 289) rfl (hS3 _ _) (hS16 _ _) n9 n9 (by omega) (Nat.zero_le _) ?_
  refine ps_vret rfl rfl ?_
  refine kk _ (fun a j z => (sA_o (by omega)).trans (o1 a j (by omega))) ⟨(sA_o (by decide)).trans i1.1, (sA_o (by decide)).trans i1.2, ⟨by show P.w < 1000; omega, by show P.v < 1000; omega, n9⟩, fun i hi => (sA_s hi).trans ((o1 _ _ (by omega)).trans (ha i hi))⟩
end TQ
