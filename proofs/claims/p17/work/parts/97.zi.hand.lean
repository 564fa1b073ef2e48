/-! BY HAND: class and reference beside each other: tapes, FAULTS, words, benches; feed, load, fault -/
section LI
variable {ys : List Int32} {Q : List Value → pm_H → Prop} {h h' : pm_H} {I I' : Nat → Nat → Int32} {L L' : Nat → Nat → Int64} {s : Nat → Option Nat}
/-- words, benches -/
def Rw (h : pm_H) (b0 b1 : Nat) : Prop := (∀ j, j < 13 → h.2.1 304 j = wC j) ∧ isB b0 ∧ isB b1 ∧ ¬ b0 = b1 ∧ h.2.2.1 0 6 = some b0 ∧ h.2.2.1 0 7 = some b1
/-- tapes -/
def Rt (h : pm_H) (t : Nat) : Prop := t ≤ 800 ∧ h.1 1 1 = nI t ∧ h.1 275 43 = nI t ∧ tpE (fun j => h.1 2 j) (fun j => h.1 303 j) t
def Rf (h : pm_H) : Prop := h.1 0 11 = h.1 275 44 ∧ h.1 0 12 = h.1 275 45
def R4 (h : pm_H) : Prop := (∃ b0 b1, Rw h b0 b1) ∧ (∃ t, Rt h t) ∧ Rf h
def rel4 (W : sx_W) : Bool := W.all fun q => !Nat.beq q.1 3 && !Nat.beq q.1 78 && (!Nat.beq q.1 2 || (decide (1 < q.2.1) || decide (q.2.2 < 1))) && (!Nat.beq q.1 1 || decide (q.2.2 < 11)) && (!Nat.beq q.1 50 || (decide (45 < q.2.1) || decide (q.2.2 < 43)))
theorem rel4_o {W : sx_W} {D : Bool × Bool} (hW : rel4 W = true) (fr : sx_fr xtg xVP W D h h') : (∀ j, h'.1 2 j = h.1 2 j) ∧ (∀ j, h'.1 303 j = h.1 303 j) ∧ h'.1 1 1 = h.1 1 1 ∧ (∀ j, 11 ≤ j → h'.1 0 j = h.1 0 j) ∧ (∀ j, 43 ≤ j → j ≤ 45 → h'.1 275 j = h.1 275 j) := by
  have key : ∀ q : Nat × Int × Int, q ∈ W → (!Nat.beq q.1 3 && !Nat.beq q.1 78 && (!Nat.beq q.1 2 || (decide (1 < q.2.1) || decide (q.2.2 < 1))) && (!Nat.beq q.1 1 || decide (q.2.2 < 11)) && (!Nat.beq q.1 50 || (decide (45 < q.2.1) || decide (q.2.2 < 43)))) = true := fun q m => List.all_eq_true.mp hW q m
  refine ⟨fun j => fr.1 2 j (fun q => ?_), fun j => fr.1 303 j (fun q => ?_), fr.1 1 1 (fun q => ?_), fun j hj => fr.1 0 j (fun q => ?_), fun j h1 h2 => fr.1 275 j (fun q => ?_)⟩
  all_goals
    obtain ⟨q, m, e, l1, l2⟩ := q
    have z := key q m
    simp only [Bool.and_eq_true] at z
    obtain ⟨⟨⟨⟨z1, z2⟩, z3⟩, z4⟩, z5⟩ := z
  · have e : q.1 = 3 := e
    rw [e] at z1
    cases z1
  · have e : q.1 = 78 := e
    rw [e, Nat.beq_refl] at z2
    cases z2
  · have e : q.1 = 2 := e
    rw [e, Nat.beq_refl, decide_eq_false (by omega), decide_eq_false (by omega)] at z3
    cases z3
  · have e : q.1 = 1 := e
    rw [e, Nat.beq_refl, decide_eq_false (by omega)] at z4
    cases z4
  · have e : q.1 = 50 := e
    rw [e, Nat.beq_refl, decide_eq_false (by omega), decide_eq_false (by omega)] at z5
    cases z5
theorem Rw_fr {W : sx_W} {D : Bool × Bool} {b0 b1 : Nat} (hD : D.1 = false) (fr : sx_fr xtg xVP W D h h') (r : Rw h b0 b1) : Rw h' b0 b1 := by
  obtain ⟨r1, r2, r3, r4, r5, r6⟩ := r
  have k := fr.2.1 hD
  refine ⟨k 10 0 r1, r2, r3, r4, ?_, ?_⟩
  · exact k 7 (b0 : Int) r5
  · exact k 8 (b1 : Int) r6
theorem R4_fr {W : sx_W} {D : Bool × Bool} (hW : rel4 W = true ∧ D.1 = false) (fr : sx_fr xtg xVP W D h h') (r : R4 h) : R4 h' := by
  obtain ⟨⟨b0, b1, rw_⟩, ⟨t, t1, t2, t3, t4⟩, f1, f2⟩ := r
  obtain ⟨e1, e2, e3, e4, e5⟩ := rel4_o hW.1 fr
  refine ⟨⟨b0, b1, Rw_fr hW.2 fr rw_⟩, ⟨t, t1, e3.trans t2, (e5 _ (by decide) (by decide)).trans t3, fun j hj => ?_⟩, ?_, ?_⟩
  · show (h'.1 2 j).toInt = (h'.1 303 j).toInt % 256 ∧ -128 ≤ (h'.1 303 j).toInt ∧ (h'.1 303 j).toInt ≤ 127
    rw [e1, e2]
    exact t4 j hj
  · rw [e4 _ (by decide), e5 _ (by decide) (by decide)]
    exact f1
  · rw [e4 _ (by decide), e5 _ (by decide) (by decide)]
    exact f2
theorem R4_0 {ρ : Nat → Int32} (hr : se_hr ρ g_H1 h) (e : h.1 = gi0) : R4 h := by
  obtain ⟨_, h2, h3, _⟩ := hr
  refine ⟨⟨173, 214, fun j hj => ?_, Or.inl rfl, Or.inr rfl, by decide, ?_, ?_⟩, ⟨0, by omega, ?_, ?_, fun j hj => absurd hj (by omega)⟩, ?_, ?_⟩
  · rw [h2]
    rcases (show j = 0 ∨ j = 1 ∨ j = 2 ∨ j = 3 ∨ j = 4 ∨ j = 5 ∨ j = 6 ∨ j = 7 ∨ j = 8 ∨ j = 9 ∨ j = 10 ∨ j = 11 ∨ j = 12 by omega) with rfl | rfl | rfl | rfl | rfl | rfl | rfl | rfl | rfl | rfl | rfl | rfl | rfl <;> decide +kernel
  · rw [h3]
    decide +kernel
  · rw [h3]
    decide +kernel
  · rw [e]
    decide +kernel
  · rw [e]
    decide +kernel
  · rw [e]
    decide +kernel
  · rw [e]
    decide +kernel
/-- behind the class's feed -/
def FM (a b c d e : Int32) (r : Int32) (h1 : pm_H) : Prop := ∃ I L s t, t ≤ 800 ∧ R4 (I, L, g_R s, 306) ∧ I 1 1 = nI t ∧ I 275 43 = nI t ∧ tpE (fun j => I 2 j) (fun j => I 303 j) t ∧ ((780 < t ∧ r = -1 ∧ h1 = (I, L, g_R s, 306)) ∨ (t ≤ 780 ∧ r = nI (t + 20) ∧ h1 = (cT I t (c4 a ++ (c4 b ++ (c4 c ++ (c4 d ++ c4 e)))), L, g_R s, 306)))
theorem B_feed4 (iv : sx_IV xT xtg xPH h) (re : R4 h) (a b c d e : Int32) (kk : ∀ r h1, sx_IV xT xtg xPH h1 → FM a b c d e r h1 → Q [.int r] h1) : pm_W (g_P ys) 14 0 [.ref 0, .int a, .int b, .int c, .int d, .int e] [] h (0, 0) Q := by
  obtain ⟨I, L, s, rfl⟩ := x_form iv
  have re0 := re
  obtain ⟨_, ⟨t, t1, t2, t3, t4⟩, _⟩ := re
  refine B_feedX t2 t1 a b c d e (fun q => kk _ _ iv ⟨I, L, s, t, t1, re0, t2, t3, t4, Or.inl ⟨q, rfl, rfl⟩⟩) (fun q => ?_)
  obtain ⟨g1, g2⟩ := cT_iv (t := t) (l := c4 a ++ (c4 b ++ (c4 c ++ (c4 d ++ c4 e)))) iv (fun x hx => c4_bd hx) (by show t + 20 ≤ 800; omega)
  exact kk _ _ g1 ⟨I, L, s, t, t1, re0, t2, t3, t4, Or.inr ⟨q, rfl, rfl⟩⟩
theorem M_feed4 {h1 : pm_H} {r : Int32} {a b c d e : Int32} (iv : sx_IV xT xtg xPH h1) (m : FM a b c d e r h1) (kk : ∀ h2, sx_IV xT xtg xPH h2 → R4 h2 → Q [.int r] h2) : pm_W (g_P ys) 276 0 [.ref 275, .int a, .int b, .int c, .int d, .int e] [] h1 (0, 0) Q := by
  obtain ⟨I, L, s, t, t1, re, t2, t3, t4, m⟩ := m
  rcases m with ⟨q, rfl, rfl⟩ | ⟨q, rfl, rfl⟩
  · refine M_feedX t3 t1 a b c d e (fun _ => ?_) (fun q2 => absurd q2 (by omega))
    have g := sx_mw_ok (xC []) iv (W := [(50, .ofNat 1, .ofNat 1)]) (D := (false, false)) (a := 275) (t := 50) (k := 1) (lo := 1) (hi := 1) (b := (0, 0)) (by decide) (by decide) (by decide) (by decide) (x := 0) (by decide) (by decide)
    exact kk _ g.1 (R4_fr (by decide) g.2.1 re)
  · have o1 : ∀ x j, ¬ (x = 2) → ¬ (x = 1 ∧ j = 1) → cT I t (c4 a ++ (c4 b ++ (c4 c ++ (c4 d ++ c4 e)))) x j = I x j := fun x j h1 h2 => ptL_o (by omega) (by omega)
    have l1 : cT I t (c4 a ++ (c4 b ++ (c4 c ++ (c4 d ++ c4 e)))) 1 1 = nI (t + 20) := ptL_len t2
    have e2 := tpE_feed (I := I) (I' := I) (t := t) (l := c4 a ++ (c4 b ++ (c4 c ++ (c4 d ++ c4 e)))) (m := m4 a ++ (m4 b ++ (m4 c ++ (m4 d ++ m4 e)))) t4 (bsE_app (bsE_4 a) (bsE_app (bsE_4 b) (bsE_app (bsE_4 c) (bsE_app (bsE_4 d) (bsE_4 e)))))
    have ce : ∀ j, cT I t (c4 a ++ (c4 b ++ (c4 c ++ (c4 d ++ c4 e)))) 2 j = cT I t (c4 a ++ (c4 b ++ (c4 c ++ (c4 d ++ c4 e)))) 2 j := fun _ => rfl
    generalize cT I t (c4 a ++ (c4 b ++ (c4 c ++ (c4 d ++ c4 e)))) = I1 at iv o1 l1 e2
    have g := sx_mw_ok (xC []) iv (W := [(50, .ofNat 1, .ofNat 1)]) (D := (false, false)) (a := 275) (t := 50) (k := 1) (lo := 1) (hi := 1) (b := (0, 0)) (by decide) (by decide) (by decide) (by decide) (x := 0) (by decide) (by decide)
    refine M_feedX ((o1 _ _ (by decide) (by decide)).trans t3) t1 a b c d e (fun q2 => absurd q2 (by omega)) (fun _ => ?_)
    obtain ⟨g1, g2⟩ := mT_iv (L := L) (s := s) (t := t) (l := m4 a ++ (m4 b ++ (m4 c ++ (m4 d ++ m4 e)))) (I := pm_u I1 275 1 0) g.1 (fun x hx => m4_bd hx) (by show t + 20 ≤ 800; omega)
    refine kk _ g1 ?_
    obtain ⟨⟨b0, b1, rw_⟩, _, f1, f2⟩ := re
    have o2 : ∀ x j, ¬ x = 303 → ¬ (x = 275 ∧ (j = 43 ∨ j = 1)) → mT (pm_u I1 275 1 0) t (m4 a ++ (m4 b ++ (m4 c ++ (m4 d ++ m4 e)))) x j = I1 x j := fun x j h1 h2 => (ptL_o (by omega) (by omega)).trans (pu_x (by omega))
    have l2 : mT (pm_u I1 275 1 0) t (m4 a ++ (m4 b ++ (m4 c ++ (m4 d ++ m4 e)))) 275 43 = nI (t + 20) := ptL_len ((pu_n (by decide)).trans ((o1 _ _ (by decide) (by decide)).trans t3))
    refine ⟨⟨b0, b1, rw_⟩, ⟨t + 20, by omega, (o2 _ _ (by decide) (by decide)).trans l1, l2, fun j hj => ?_⟩, ?_, ?_⟩
    · have z := e2 j (by show j < t + 20; exact hj)
      have em : mT (pm_u I1 275 1 0) t (m4 a ++ (m4 b ++ (m4 c ++ (m4 d ++ m4 e)))) 303 j = mT I t (m4 a ++ (m4 b ++ (m4 c ++ (m4 d ++ m4 e)))) 303 j := by
        by_cases hj2 : j < t
        · have z1 : mT (pm_u I1 275 1 0) t (m4 a ++ (m4 b ++ (m4 c ++ (m4 d ++ m4 e)))) 303 j = pm_u I1 275 1 0 303 j := ptL_o (by omega) (by omega)
          have z2 : mT I t (m4 a ++ (m4 b ++ (m4 c ++ (m4 d ++ m4 e)))) 303 j = I 303 j := ptL_o (by omega) (by omega)
          rw [z1, z2, pu_o (by decide), o1 _ _ (by decide) (by omega)]
        · obtain ⟨i, rfl⟩ := Nat.exists_eq_add_of_le (show t ≤ j by omega)
          obtain ⟨x, y, _, z2, _⟩ := bsE_get (i := i) (bsE_app (bsE_4 a) (bsE_app (bsE_4 b) (bsE_app (bsE_4 c) (bsE_app (bsE_4 d) (bsE_4 e))))) (by show i < 20; omega)
          have y1 : mT (pm_u I1 275 1 0) t (m4 a ++ (m4 b ++ (m4 c ++ (m4 d ++ m4 e)))) 303 (t + i) = y := ptL_get (by decide) z2
          have y2 : mT I t (m4 a ++ (m4 b ++ (m4 c ++ (m4 d ++ m4 e)))) 303 (t + i) = y := ptL_get (by decide) z2
          rw [y1, y2]
      have ei : mT (pm_u I1 275 1 0) t (m4 a ++ (m4 b ++ (m4 c ++ (m4 d ++ m4 e)))) 2 j = I1 2 j := o2 _ _ (by decide) (by omega)
      show (mT (pm_u I1 275 1 0) t (m4 a ++ (m4 b ++ (m4 c ++ (m4 d ++ m4 e)))) 2 j).toInt = (mT (pm_u I1 275 1 0) t (m4 a ++ (m4 b ++ (m4 c ++ (m4 d ++ m4 e)))) 303 j).toInt % 256 ∧ -128 ≤ (mT (pm_u I1 275 1 0) t (m4 a ++ (m4 b ++ (m4 c ++ (m4 d ++ m4 e)))) 303 j).toInt ∧ (mT (pm_u I1 275 1 0) t (m4 a ++ (m4 b ++ (m4 c ++ (m4 d ++ m4 e)))) 303 j).toInt ≤ 127
      rw [em, ei]
      exact z
    · show mT (pm_u I1 275 1 0) t (m4 a ++ (m4 b ++ (m4 c ++ (m4 d ++ m4 e)))) 0 11 = mT (pm_u I1 275 1 0) t (m4 a ++ (m4 b ++ (m4 c ++ (m4 d ++ m4 e)))) 275 44
      rw [o2 _ _ (by decide) (by decide), o2 _ _ (by decide) (by decide), o1 _ _ (by decide) (by decide), o1 _ _ (by decide) (by decide)]
      exact f1
    · show mT (pm_u I1 275 1 0) t (m4 a ++ (m4 b ++ (m4 c ++ (m4 d ++ m4 e)))) 0 12 = mT (pm_u I1 275 1 0) t (m4 a ++ (m4 b ++ (m4 c ++ (m4 d ++ m4 e)))) 275 45
      rw [o2 _ _ (by decide) (by decide), o2 _ _ (by decide) (by decide), o1 _ _ (by decide) (by decide), o1 _ _ (by decide) (by decide)]
      exact f2
end LI
