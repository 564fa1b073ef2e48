/-! BY HAND: how a text is read, tenth: load's contract -/
section IP
variable {ys : List Int32} {J : Nat → Nat → Int32} {L : Nat → Nat → Int64} {s : Nat → Option Nat} {Q : List Value → pm_H → Prop}
abbrev ldW : sx_W := [(50, .ofNat 0, .ofNat 1)] ++ rdW ++ muW ++ nwW ++ [(50, .ofNat 52, .ofNat 52), (50, .ofNat 15, .ofNat 15), (50, .ofNat 43, .ofNat 43), (50, .ofNat 44, .ofNat 44), (50, .ofNat 45, .ofNat 45), (50, .ofNat 14, .ofNat 14), (50, .ofNat 19, .ofNat 19), (50, .ofNat 41, .ofNat 41), (64, .ofNat 0, .ofNat 88), (53, .ofNat 0, .ofNat 41), (55, .ofNat 0, .ofNat 1733), (57, .ofNat 0, .ofNat 1733), (51, .ofNat 0, .ofNat 281), (69, .ofNat 0, .ofNat 5), (63, .ofNat 0, .ofNat 88)]
theorem fr_D {W : sx_W} {h h' : pm_H} (k : sx_fr xtg xVP W (false, false) h h') : sx_fr xtg xVP W (true, false) h h' := ⟨k.1, fun q => (by cases q), k.2.2⟩
theorem lays_iv (iv : sx_IV xT xtg xPH (J, L, g_R s, 306)) (hw : (J 275 46).toInt = 0) {I' : Nat → Nat → Int32} {L' : Nat → Nat → Int64} (k : ldS J I' 42 1734 282 6 89) : sx_IV xT xtg xPH (pm_u (pm_u I' 275 19 0) 275 41 0, L', g_R s, 306) ∧ sx_fr xtg xVP ldW (true, false) (J, L, g_R s, 306) (pm_u (pm_u I' 275 19 0) 275 41 0, L', g_R s, 306) := by
  obtain ⟨h1, h2, h3, h4, h5, h6, h7, h8, h9⟩ := k
  have nb := iv.1 275 15 (.ofNat 15, .ofNat 15, .ofNat 0, .ofNat 6) (by decide) (by decide) (by decide)
  have base : sx_IB xT xtg I' := by
    intro c j q hq k1 k2
    by_cases c1 : c = 275
    · subst c1
      by_cases e : j = 14
      · subst e
        rw [h3]
        exact sx_wr_ok (g := sx_sb xT (xtg 275)) (lo := 14) (hi := 14) (b := (0, 6)) (by decide) (Int.le_refl _) (Int.le_refl _) nb.1 nb.2 q hq k1 k2
      · rw [h2 j e]
        exact iv.1 275 j q hq k1 k2
    by_cases c2 : c = 278
    · subst c2
      rw [h4 j]
      split
      · exact iv.1 279 j q hq k1 k2
      · exact iv.1 _ j q hq k1 k2
    by_cases c3 : c = 280
    · subst c3
      rw [h5 j]
      split
      · exact iv.1 281 j q hq k1 k2
      · exact iv.1 _ j q hq k1 k2
    by_cases c4 : c = 282
    · subst c4
      cases hq
    by_cases c5 : c = 276
    · subst c5
      rw [h7 j]
      split
      · exact iv.1 277 j q hq k1 k2
      · exact iv.1 _ j q hq k1 k2
    by_cases c6 : c = 294
    · subst c6
      rw [h8 j]
      split
      · have hq' : q ∈ [((.ofNat 0, .ofNat 5, .ofNat 0, .ofNat 1) : Int × Int × Int × Int)] := hq
        rcases List.mem_cons.mp hq' with rfl | hq'
        · decide
        · cases hq'
      · exact iv.1 _ j q hq k1 k2
    by_cases c7 : c = 288
    · subst c7
      rw [h9 j]
      split
      · exact iv.1 289 j q hq k1 k2
      · exact iv.1 _ j q hq k1 k2
    rw [h1 c j c1 c2 c3 c4 c5 c6 c7]
    exact iv.1 c j q hq k1 k2
  have oo : ∀ a, ¬ a = 275 → ¬ a = 278 → ¬ a = 280 → ¬ a = 282 → ¬ a = 276 → ¬ a = 294 → ¬ a = 288 → ∀ j, (pm_u (pm_u I' 275 19 0) 275 41 0) a j = J a j := fun a q0 q1 q2 q3 q4 q5 q6 j => by rw [pu_o q0, pu_o q0]; exact h1 a j q0 q1 q2 q3 q4 q5 q6
  have o5 : ∀ j, ¬ j = 14 → ¬ j = 19 → ¬ j = 41 → (pm_u (pm_u I' 275 19 0) 275 41 0) 275 j = J 275 j := fun j q0 q1 q2 => by rw [pu_n q2, pu_n q1]; exact h2 j q0
  have opl : (pm_u (pm_u I' 275 19 0) 275 41 0) 275 14 = J 275 15 := by rw [pu_n (by decide), pu_n (by decide)]; exact h3
  have opa : (pm_u (pm_u I' 275 19 0) 275 41 0) 275 19 = 0 := by rw [pu_n (by decide), pu_s]
  have op : ∀ j, j < 42 → (pm_u (pm_u I' 275 19 0) 275 41 0) 278 j = J 279 j := fun j hj => by rw [pu_o (by decide), pu_o (by decide), h4 j, if_pos hj]
  have on : (pm_u (pm_u I' 275 19 0) 275 41 0) 288 4 = J 289 4 := by rw [pu_o (by decide), pu_o (by decide), h9 4, if_pos (by omega)]
  obtain ⟨k1, k2, k3, k4, k5⟩ := iv.2.2.2.2.2
  obtain ⟨w1, w2⟩ := k5 hw
  have iv1 : sx_IV xT xtg xPH (pm_u (pm_u I' 275 19 0) 275 41 0, L, g_R s, 306) := by
    refine iv_new iv (ib_u (lo := 0) (hi := 1) (ib_u (lo := 0) (hi := 12) base (by decide) (by decide) (by decide)) (by decide) (by decide) (by decide)) ⟨fun a ha => ?_, fun j hj hk => ?_, fun m hm => ?_, fun hm => ?_, fun hw2 => ?_⟩
    · have nt : ∀ b, ¬ xtg b = 36 → ¬ a = b := fun b hb e => hb (by rw [← e]; exact ha)
      rw [oo a (nt _ (by decide)) (nt _ (by decide)) (nt _ (by decide)) (nt _ (by decide)) (nt _ (by decide)) (nt _ (by decide)) (nt _ (by decide)), oo a (nt _ (by decide)) (nt _ (by decide)) (nt _ (by decide)) (nt _ (by decide)) (nt _ (by decide)) (nt _ (by decide)) (nt _ (by decide)), oo a (nt _ (by decide)) (nt _ (by decide)) (nt _ (by decide)) (nt _ (by decide)) (nt _ (by decide)) (nt _ (by decide)) (nt _ (by decide))]
      exact k1 a ha
    · rw [oo 7 (by decide) (by decide) (by decide) (by decide) (by decide) (by decide) (by decide)] at hk
      rw [oo 8 (by decide) (by decide) (by decide) (by decide) (by decide) (by decide) (by decide), oo 10 (by decide) (by decide) (by decide) (by decide) (by decide) (by decide) (by decide)]
      exact k2 j hj hk
    · rw [opl] at hm
      obtain ⟨⟨w, v, q⟩, q2⟩ := w1 m hm
      have hm6 := q.1
      refine ⟨⟨w, v, ?_⟩, ?_⟩
      · unfold mPl
        rw [op _ (by omega), op _ (by omega)]
        exact q
      · unfold mFm
        rw [op _ (by omega), op _ (by omega), op _ (by omega)]
        exact q2
    · rw [opl] at hm
      rw [opl, on, opa]
      refine ⟨?_, fun j _ hj => ?_⟩
      · rcases w2 with q | q
        · rw [q]; exact hm
        · exact q
      · have e0 : (0 : Int32).toInt = 0 := rfl
        omega
    · have oN : ∀ j, (pm_u (pm_u I' 275 19 0) 275 41 0) 279 j = J 279 j := oo _ (by decide) (by decide) (by decide) (by decide) (by decide) (by decide) (by decide)
      unfold nPl nFm
      simp only [oN, oo 289 (by decide) (by decide) (by decide) (by decide) (by decide) (by decide) (by decide), o5 15 (by decide) (by decide) (by decide)]
      exact ⟨w1, w2⟩
  refine ⟨iv_L (h := (J, L, g_R s, 306)) iv1 L', fun c j hn => ?_, fun q => (by cases q), fun _ => rfl⟩
  show (pm_u (pm_u I' 275 19 0) 275 41 0) c j = J c j
  have nW : ∀ {t lo hi : Nat}, (t, .ofNat lo, .ofNat hi) ∈ ldW → xtg c = t → lo ≤ j → j ≤ hi → False := fun hm e q1 q2 => hn ⟨_, hm, e.symm, by show ((_ : Nat) : Int) ≤ _; omega, by show _ ≤ ((_ : Nat) : Int); omega⟩
  by_cases c1 : c = 275
  · subst c1
    by_cases e : j = 14
    · exact (nW (t := 50) (lo := 14) (hi := 14) (by simp [ldW]) rfl (by omega) (by omega)).elim
    by_cases e2 : j = 19
    · exact (nW (t := 50) (lo := 19) (hi := 19) (by simp [ldW]) rfl (by omega) (by omega)).elim
    by_cases e3 : j = 41
    · exact (nW (t := 50) (lo := 41) (hi := 41) (by simp [ldW]) rfl (by omega) (by omega)).elim
    exact o5 j e e2 e3
  rw [pu_o c1, pu_o c1]
  by_cases c2 : c = 278
  · subst c2
    by_cases e : j < 42
    · exact (nW (t := 53) (lo := 0) (hi := 41) (by simp [ldW]) rfl (by omega) (by omega)).elim
    · rw [h4 j, if_neg e]
  by_cases c3 : c = 280
  · subst c3
    by_cases e : j < 1734
    · exact (nW (t := 55) (lo := 0) (hi := 1733) (by simp [ldW]) rfl (by omega) (by omega)).elim
    · rw [h5 j, if_neg e]
  by_cases c4 : c = 282
  · subst c4
    by_cases e : j < 1734
    · exact (nW (t := 57) (lo := 0) (hi := 1733) (by simp [ldW]) rfl (by omega) (by omega)).elim
    · exact h6 j e
  by_cases c5 : c = 276
  · subst c5
    by_cases e : j < 282
    · exact (nW (t := 51) (lo := 0) (hi := 281) (by simp [ldW]) rfl (by omega) (by omega)).elim
    · rw [h7 j, if_neg e]
  by_cases c6 : c = 294
  · subst c6
    by_cases e : j < 6
    · exact (nW (t := 69) (lo := 0) (hi := 5) (by simp [ldW]) rfl (by omega) (by omega)).elim
    · rw [h8 j, if_neg e]
  by_cases c7 : c = 288
  · subst c7
    by_cases e : j < 89
    · exact (nW (t := 63) (lo := 0) (hi := 88) (by simp [ldW]) rfl (by omega) (by omega)).elim
    · rw [h9 j, if_neg e]
  exact h1 c j c1 c2 c3 c4 c5 c6 c7
end IP
