/-! BY HAND: the class's ACTS, exactly -/
section SE
variable {I I' I1 I2 J : Nat → Nat → Int32} {L : Nat → Nat → Int64} {s : Nat → Option Nat} {Q : List Value → pm_H → Prop} {ys : List Int32} {ps m b f n len : Nat} {S S' : sS} {H H' : Nat → sS}
theorem aft_mk {m' f' : Nat} (hb : isB b) (o1 : ∀ a j, ¬ (12 ≤ a ∧ a ≤ 169) → ¬ (a = 255 ∧ j = 15) → I1 a j = I a j) (a1 : I1 255 15 = 0) (c1 : cHs H' m' f' I1) (o2 : ∀ a j, ¬ (b + 2 ≤ a ∧ a ≤ b + 14) → I2 a j = I1 a j) (c2 : cSc (b + 2) S' I2) : aftB b S' H' m' I (pm_u I2 0 10 0) := by
  have bb := isB_b hb
  refine ⟨fun a j h1 h2 h3 h4 => (pu_x h1).trans ((o2 a j h4).trans (o1 a j h2 h3)), pu_s, (pu_o (by decide)).trans ((o2 _ _ (by omega)).trans a1), cSc_t c2 (fun a j h1 h2 => pu_o (by omega)), f', ?_⟩
  obtain ⟨g1, g2, g3, g4, g5⟩ := c1
  exact ⟨g1, g2, (pu_o (by decide)).trans ((o2 _ _ (by omega)).trans g3), (pu_o (by decide)).trans ((o2 _ _ (by omega)).trans g4), fun i hi => cSc_t (g5 i hi) (fun a j h1 h2 => (pu_o (by omega)).trans (o2 _ _ (by omega)))⟩
theorem B_mAppend (hm : isM m len) (hn : I m 3 = nI n) (lt : n < len) (x y z : Int32) (kk : Q [] (apdI I m n x y z, L, g_R s, 306)) : pm_W (g_P ys) 76 0 [.ref m, .int x, .int y, .int z] [] (I, L, g_R s, 306) (0, 0) Q := by
  obtain ⟨hS0, hS1, hS2, hS3, hR0, hR1, hR2, l12⟩ := mm_F (ys := ys) (s := s) hm
  have nb : Nat.blt len 2147483648 = true := Nat.blt_eq.mpr (by omega)
  refine ps_aload rfl rfl ?_
  refine pv_k rfl rfl rfl rfl rfl (hS0 _ _) rfl ⟨Nat.zero_le _, Nat.zero_le _⟩ ?_
  refine B_mFull hm hn (by omega) ?_
  rw [decide_eq_false (by omega)]
  refine ps_ift rfl (rfl) ?_
  refine ps_aload rfl rfl ?_
  refine ps_gfr 6 0 rfl rfl rfl (by first | exact hS0 _ _ | exact hS1 _ _ | exact hS2 _ _ | exact hS3 _ _ | exact hS4 _ _ | exact hS5 _ _ | exact hS6 _ _ | exact hS7 _ _ | exact hS8 _ _ | exact hS9 _ _ | exact hS10 _ _ | exact hS11 _ _ | exact hS12 _ _ | exact hS13 _ _ | assumption | rfl) rfl (by first | assumption | rfl) ?_
  refine ps_aload rfl rfl ?_
  refine ps_gfi 6 3 rfl rfl rfl (by first | exact hS0 _ _ | exact hS1 _ _ | exact hS2 _ _ | exact hS3 _ _ | exact hS4 _ _ | exact hS5 _ _ | exact hS6 _ _ | exact hS7 _ _ | exact hS8 _ _ | exact hS9 _ _ | exact hS10 _ _ | exact hS11 _ _ | exact hS12 _ _ | exact hS13 _ _ | assumption | rfl) rfl ?_
  rw [show ((I, L, g_R s, 306) : pm_H).1 m 3 = nI n from hn]
  refine ps_iload rfl rfl ?_
  refine ps_iast (n) rfl (by first | exact hS0 _ _ | exact hS1 _ _ | exact hS2 _ _ | exact hS3 _ _ | exact hS4 _ _ | exact hS5 _ _ | exact hS6 _ _ | exact hS7 _ _ | exact hS8 _ _ | exact hS9 _ _ | exact hS10 _ _ | exact hS11 _ _ | exact hS12 _ _ | exact hS13 _ _ | assumption | rfl) nb (rfl) (by omega) ?_
  refine ps_aload rfl rfl ?_
  refine ps_gfr 6 1 rfl rfl rfl (by first | exact hS0 _ _ | exact hS1 _ _ | exact hS2 _ _ | exact hS3 _ _ | exact hS4 _ _ | exact hS5 _ _ | exact hS6 _ _ | exact hS7 _ _ | exact hS8 _ _ | exact hS9 _ _ | exact hS10 _ _ | exact hS11 _ _ | exact hS12 _ _ | exact hS13 _ _ | assumption | rfl) rfl (by first | assumption | rfl) ?_
  refine ps_aload rfl rfl ?_
  refine ps_gfi 6 3 rfl rfl rfl (by first | exact hS0 _ _ | exact hS1 _ _ | exact hS2 _ _ | exact hS3 _ _ | exact hS4 _ _ | exact hS5 _ _ | exact hS6 _ _ | exact hS7 _ _ | exact hS8 _ _ | exact hS9 _ _ | exact hS10 _ _ | exact hS11 _ _ | exact hS12 _ _ | exact hS13 _ _ | assumption | rfl) rfl ?_
  show pm_W _ _ _ _ [.int (pm_u I (m + 1) n x m 3), .ref (m + 2)] (pm_u I (m + 1) n x, L, g_R s, 306) _ _
  rw [pu_o (by omega), hn]
  refine ps_iload rfl rfl ?_
  refine ps_iast (n) rfl (by first | exact hS0 _ _ | exact hS1 _ _ | exact hS2 _ _ | exact hS3 _ _ | exact hS4 _ _ | exact hS5 _ _ | exact hS6 _ _ | exact hS7 _ _ | exact hS8 _ _ | exact hS9 _ _ | exact hS10 _ _ | exact hS11 _ _ | exact hS12 _ _ | exact hS13 _ _ | assumption | rfl) nb (rfl) (by omega) ?_
  refine ps_aload rfl rfl ?_
  refine ps_gfr 6 2 rfl rfl rfl (by first | exact hS0 _ _ | exact hS1 _ _ | exact hS2 _ _ | exact hS3 _ _ | exact hS4 _ _ | exact hS5 _ _ | exact hS6 _ _ | exact hS7 _ _ | exact hS8 _ _ | exact hS9 _ _ | exact hS10 _ _ | exact hS11 _ _ | exact hS12 _ _ | exact hS13 _ _ | assumption | rfl) rfl (by first | assumption | rfl) ?_
  refine ps_aload rfl rfl ?_
  refine ps_gfi 6 3 rfl rfl rfl (by first | exact hS0 _ _ | exact hS1 _ _ | exact hS2 _ _ | exact hS3 _ _ | exact hS4 _ _ | exact hS5 _ _ | exact hS6 _ _ | exact hS7 _ _ | exact hS8 _ _ | exact hS9 _ _ | exact hS10 _ _ | exact hS11 _ _ | exact hS12 _ _ | exact hS13 _ _ | assumption | rfl) rfl ?_
  show pm_W _ _ _ _ [.int (pm_u (pm_u I (m + 1) n x) (m + 2) n y m 3), .ref (m + 3)] (pm_u (pm_u I (m + 1) n x) (m + 2) n y, L, g_R s, 306) _ _
  rw [pu_o (by omega), pu_o (by omega), hn]
  refine ps_iload rfl rfl ?_
  refine ps_iast (n) rfl (by first | exact hS0 _ _ | exact hS1 _ _ | exact hS2 _ _ | exact hS3 _ _ | exact hS4 _ _ | exact hS5 _ _ | exact hS6 _ _ | exact hS7 _ _ | exact hS8 _ _ | exact hS9 _ _ | exact hS10 _ _ | exact hS11 _ _ | exact hS12 _ _ | exact hS13 _ _ | assumption | rfl) nb (rfl) (by omega) ?_
  refine ps_aload rfl rfl ?_
  refine ps_ar rfl rfl rfl rfl rfl ?_
  refine ps_gfi 6 3 rfl rfl rfl (by first | exact hS0 _ _ | exact hS1 _ _ | exact hS2 _ _ | exact hS3 _ _ | exact hS4 _ _ | exact hS5 _ _ | exact hS6 _ _ | exact hS7 _ _ | exact hS8 _ _ | exact hS9 _ _ | exact hS10 _ _ | exact hS11 _ _ | exact hS12 _ _ | exact hS13 _ _ | assumption | rfl) rfl ?_
  show pm_W _ _ _ _ [.int (pm_u (pm_u (pm_u I (m + 1) n x) (m + 2) n y) (m + 3) n z m 3), .ref m] (pm_u (pm_u (pm_u I (m + 1) n x) (m + 2) n y) (m + 3) n z, L, g_R s, 306) _ _
  rw [pu_o (by omega), pu_o (by omega), pu_o (by omega), hn]
  refine pw_c rfl ?_
  refine ps_ar rfl rfl rfl rfl rfl ?_
  rw [show nI n + (1 : Int32) = nI (n + 1) from nI_1 _]
  refine ps_pfi 6 3 rfl rfl rfl (by first | exact hS0 _ _ | exact hS1 _ _ | exact hS2 _ _ | exact hS3 _ _ | exact hS4 _ _ | exact hS5 _ _ | exact hS6 _ _ | exact hS7 _ _ | exact hS8 _ _ | exact hS9 _ _ | exact hS10 _ _ | exact hS11 _ _ | exact hS12 _ _ | exact hS13 _ _ | assumption | rfl) rfl ?_
  refine ps_vret rfl rfl ?_
  exact kk
theorem apd_c {q : Nat} (hq : q < 3) (h : cSc (b + 2) S I) (ok : S.ok) (lt : S.n q < mst q) {x y z : Int32} : cSc (b + 2) (S.add q x y z) (apdI I (b + 2 + 1 + 4 * q) (S.n q) x y z) := by
  have e : b + mkO q = b + 2 + 1 + 4 * q := by rw [mkO_b hq]; omega
  have z := apd_s (b := b) (B := ((0, fun _ => (0, 1, 1, fun _ => 0, fun _ => 0), S) : sB)) hq (cBs_c.mpr h) ⟨by show 0 ≤ 6; omega, fun k hk => absurd hk (Nat.not_lt_zero k), ok 0 (by omega), ok 1 (by omega), ok 2 (by omega)⟩ lt (x := x) (y := y) (z := z)
  rw [e] at z
  exact cBs_c.mp z
theorem out_c {q k : Nat} (hq : q < 3) (h : cSc (b + 2) S I1) (a2 : mAg (b + 2 + 1 + 4 * q) I1 I2) (c2 : I2 (b + 2 + 1 + 4 * q) 3 = nI (S.n q - 1)) (r2 : ∀ j, j < 3 → ∀ i, i < S.n q - 1 → I2 (b + 2 + 1 + 4 * q + 1 + j) i = if i < k then I1 (b + 2 + 1 + 4 * q + 1 + j) i else I1 (b + 2 + 1 + 4 * q + 1 + j) (i + 1)) : cSc (b + 2) (S.out q k) I2 := by
  obtain ⟨h1, h2, h3, h4⟩ := h
  refine ⟨fun r hr => ?_, (a2 _ _ (by omega)).trans h2, (a2 _ _ (by omega)).trans h3, fun r hr i hi j hj => ?_⟩
  · show _ = nI (if r = q then S.n r - 1 else S.n r)
    by_cases e : r = q
    · rw [if_pos e, e]
      exact c2
    · rw [if_neg e]
      exact (a2 _ _ (by omega)).trans (h1 r hr)
  · have hi : i < (if r = q then S.n r - 1 else S.n r) := hi
    show _ = if r = q ∧ k ≤ i then S.sc r (i + 1) j else S.sc r i j
    by_cases e : r = q
    · subst e
      rw [if_pos rfl] at hi
      rw [r2 j hj i hi]
      by_cases e2 : i < k
      · rw [if_pos e2, if_neg (by omega)]
        exact h4 r hr i (by omega) j hj
      · rw [if_neg e2, if_pos ⟨rfl, by omega⟩]
        exact h4 r hr (i + 1) (by omega) j hj
    · rw [if_neg e] at hi
      rw [if_neg (fun z => e z.1)]
      exact (a2 _ _ (by omega)).trans (h4 r hr i hi j hj)
theorem B_takeOut6 (hb : isB b) (h0 : s 0 = some b) (hH : cHs H m f I) (h : cSc (b + 2) S I) (ok : S.ok) {q : Nat} (hq : q < 3) (k : Int32) (kE : ∀ e, aOut S q k = .error e → Q [.int (-1)] (pm_u I 0 10 e, L, g_R s, 306)) (kO : ∀ r S', aOut S q k = .ok (r, S') → ∀ I', aftB b S' (psh H m S) (rmM m) I I' → Q [.int r] (I', L, g_R s, 306)) : pm_W (g_P ys) 109 0 [.ref 0, .ref (b + 2 + 1 + 4 * q), .int k] [] (I, L, g_R s, 306) (0, 0) Q := by
  have bb := isB_b hb
  have hm := isM_of (isE_b hb) hq
  obtain ⟨hS0, _⟩ := mm_F (ys := ys) (s := s) hm
  have h1 := h.1
  refine ps_aload rfl rfl ?_
  refine ps_brr rfl rfl rfl rfl rfl rfl ?_
  refine ps_aload rfl rfl ?_
  refine ps_iload rfl rfl ?_
  refine pv_k rfl rfl rfl rfl rfl (hS0 _ _) rfl ⟨Nat.zero_le _, Nat.zero_le _⟩ ?_
  refine B_mHas hm (h1 q hq) (ok q hq) k ?_
  by_cases hkk : 0 ≤ k.toInt ∧ k.toInt < S.n q
  · rw [decide_eq_true hkk]
    obtain ⟨i, hi⟩ : ∃ i, i = k.toInt.toNat := ⟨_, rfl⟩
    have ek := nI_oz hi hkk.1
    have ea : aOut S q k = .ok (nI (S.n q - 1), S.out q i) := by
      unfold aOut
      rw [if_neg (fun z => z hkk), hi]
    subst ek
    refine ps_ift rfl (rfl) ?_
    refine ps_aload rfl rfl ?_
    refine pw_k rfl rfl rfl rfl ⟨Nat.zero_le _, Nat.zero_le _⟩ ?_
    refine B_beginAct hb h0 hH h ok (fun I1 f1 o1 a1 c1 => ?_)
    have c3 : cSc (b + 2) S I1 := cSc_t h (fun a j z1 z2 => o1 a j (by omega) (by omega))
    refine ps_aload rfl rfl ?_
    refine ps_iload rfl rfl ?_
    refine pv_k rfl rfl rfl rfl rfl (hS0 _ _) rfl ⟨Nat.zero_le _, Nat.zero_le _⟩ ?_
    refine B_mTakeOut hm (c3.1 q hq) (ok q hq) (k := i) (by omega) (fun I2 a2 n2 r2 => ?_)
    refine ps_aload rfl rfl ?_
    refine ps_aload rfl rfl ?_
    refine ps_gfi 6 3 rfl rfl rfl (by first | exact hS0 _ _ | exact hS1 _ _ | exact hS2 _ _ | exact hS3 _ _ | exact hS4 _ _ | exact hS5 _ _ | exact hS6 _ _ | exact hS7 _ _ | exact hS8 _ _ | exact hS9 _ _ | exact hS10 _ _ | exact hS11 _ _ | exact hS12 _ _ | exact hS13 _ _ | assumption | rfl) rfl ?_
    rw [show ((I2, L, g_R s, 306) : pm_H).1 (b + 2 + 1 + 4 * q) 3 = nI (S.n q - 1) from n2]
    refine pv_k rfl rfl rfl rfl rfl (by first | exact hS0 _ _ | exact hS1 _ _ | exact hS2 _ _ | exact hS3 _ _ | exact hS4 _ _ | exact hS5 _ _ | exact hS6 _ _ | exact hS7 _ _ | exact hS8 _ _ | exact hS9 _ _ | exact hS10 _ _ | exact hS11 _ _ | exact hS12 _ _ | exact hS13 _ _ | assumption | rfl) rfl ⟨Nat.zero_le _, Nat.zero_le _⟩ ?_
    refine B_answer ?_
    refine ps_iret rfl rfl ?_
    exact kO _ _ ea _ (aft_mk hb o1 a1 c1 (fun a j z => a2 a j (by omega)) (out_c hq c3 a2 n2 r2))
  · rw [decide_eq_false hkk]
    refine ps_iff rfl (rfl) ?_
    refine ps_aload rfl rfl ?_
    refine pw_c rfl ?_
    refine pv_k rfl rfl rfl rfl rfl (by first | exact hS0 _ _ | exact hS1 _ _ | exact hS2 _ _ | exact hS3 _ _ | exact hS4 _ _ | exact hS5 _ _ | exact hS6 _ _ | exact hS7 _ _ | exact hS8 _ _ | exact hS9 _ _ | exact hS10 _ _ | exact hS11 _ _ | exact hS12 _ _ | exact hS13 _ _ | assumption | rfl) rfl ⟨Nat.zero_le _, Nat.zero_le _⟩ ?_
    refine B_refuse ?_
    refine ps_iret rfl rfl ?_
    exact kE 2 (by unfold aOut; rw [if_pos hkk])
theorem B_drop6 (hb : isB b) (h0 : s 0 = some b) (hH : cHs H m f I) (h : cSc (b + 2) S I) (ok : S.ok) (kd k : Int32) (kE : ∀ e, aDrop S kd k = .error e → Q [.int (-1)] (pm_u I 0 10 e, L, g_R s, 306)) (kO : ∀ r S', aDrop S kd k = .ok (r, S') → ∀ I', aftB b S' (psh H m S) (rmM m) I I' → Q [.int r] (I', L, g_R s, 306)) : pm_W (g_P ys) 108 0 [.ref 0, .int kd, .int k] [] (I, L, g_R s, 306) (0, 0) Q := by
  obtain ⟨hS0, hS1, hS2, hS3, hS4, hR0, hR1, hR2, hR3, hR4, hR5, hR6, hR7⟩ := bn_F (ys := ys) (s := s) hb
  refine ps_iload rfl rfl ?_
  refine pw_k rfl rfl rfl rfl ⟨Nat.zero_le _, Nat.zero_le _⟩ ?_
  refine B_isCounting _ ?_
  by_cases hk : kd = 0 ∨ kd = 2
  · have ea : aDrop S kd k = aOut S kd.toInt.toNat k := by
      unfold aDrop
      rw [if_neg (fun z => z hk)]
    have go : ∀ q, q < 3 → kd = nI q → kd.toInt.toNat = q → pm_W (g_P ys) 108 13 [.ref 0, .int kd, .int k] [] (I, L, g_R s, 306) (0, 0) Q := by
      intro q hq e1 e2
      subst e1
      rw [e2] at ea
      rw [ea] at kE kO
      refine ps_aload rfl rfl ?_
      refine ps_aload rfl rfl ?_
      refine ps_gfr 0 6 rfl rfl rfl (by first | exact hS0 _ _ | exact hS1 _ _ | exact hS2 _ _ | exact hS3 _ _ | exact hS4 _ _ | exact hS5 _ _ | exact hS6 _ _ | exact hS7 _ _ | exact hS8 _ _ | exact hS9 _ _ | exact hS10 _ _ | exact hS11 _ _ | exact hS12 _ _ | exact hS13 _ _ | assumption | rfl) rfl ( h0) ?_
      refine ps_gfr 8 1 rfl rfl rfl (by first | exact hS0 _ _ | exact hS1 _ _ | exact hS2 _ _ | exact hS3 _ _ | exact hS4 _ _ | exact hS5 _ _ | exact hS6 _ _ | exact hS7 _ _ | exact hS8 _ _ | exact hS9 _ _ | exact hS10 _ _ | exact hS11 _ _ | exact hS12 _ _ | exact hS13 _ _ | assumption | rfl) rfl (by first | assumption | rfl) ?_
      refine ps_iload rfl rfl ?_
      refine pv_k rfl rfl rfl rfl rfl (hS2 _ _) rfl ⟨Nat.zero_le _, Nat.zero_le _⟩ ?_
      refine B_marksOfX (isE_b hb) hq ?_
      refine ps_iload rfl rfl ?_
      refine pw_k rfl rfl rfl rfl ⟨Nat.zero_le _, Nat.zero_le _⟩ ?_
      refine B_takeOut6 hb h0 hH h ok hq k (fun e z => ?_) (fun r S' z I' z2 => ?_)
      · refine ps_iret rfl rfl ?_
        exact kE e z
      · refine ps_iret rfl rfl ?_
        exact kO r S' z I' z2
    rw [decide_eq_true hk]
    refine ps_ift rfl (rfl) ?_
    rcases hk with rfl | rfl
    · exact go 0 (by omega) rfl rfl
    · exact go 2 (by omega) rfl rfl
  · rw [decide_eq_false hk]
    refine ps_iff rfl (rfl) ?_
    refine ps_aload rfl rfl ?_
    refine pw_c rfl ?_
    refine pv_k rfl rfl rfl rfl rfl (by first | exact hS0 _ _ | exact hS1 _ _ | exact hS2 _ _ | exact hS3 _ _ | exact hS4 _ _ | exact hS5 _ _ | exact hS6 _ _ | exact hS7 _ _ | exact hS8 _ _ | exact hS9 _ _ | exact hS10 _ _ | exact hS11 _ _ | exact hS12 _ _ | exact hS13 _ _ | assumption | rfl) rfl ⟨Nat.zero_le _, Nat.zero_le _⟩ ?_
    refine B_refuse ?_
    refine ps_iret rfl rfl ?_
    exact kE 1 (by unfold aDrop; rw [if_pos hk])
theorem B_heal6 (hb : isB b) (h0 : s 0 = some b) (hH : cHs H m f I) (h : cSc (b + 2) S I) (ok : S.ok) (k : Int32) (kE : ∀ e, aOut S 1 k = .error e → Q [.int (-1)] (pm_u I 0 10 e, L, g_R s, 306)) (kO : ∀ r S', aOut S 1 k = .ok (r, S') → ∀ I', aftB b S' (psh H m S) (rmM m) I I' → Q [.int r] (I', L, g_R s, 306)) : pm_W (g_P ys) 113 0 [.ref 0, .int k] [] (I, L, g_R s, 306) (0, 0) Q := by
  obtain ⟨hS0, hS1, hS2, hS3, hS4, hR0, hR1, hR2, hR3, hR4, hR5, hR6, hR7⟩ := bn_F (ys := ys) (s := s) hb
  refine ps_aload rfl rfl ?_
  refine ps_aload rfl rfl ?_
  refine ps_gfr 0 6 rfl rfl rfl (by first | exact hS0 _ _ | exact hS1 _ _ | exact hS2 _ _ | exact hS3 _ _ | exact hS4 _ _ | exact hS5 _ _ | exact hS6 _ _ | exact hS7 _ _ | exact hS8 _ _ | exact hS9 _ _ | exact hS10 _ _ | exact hS11 _ _ | exact hS12 _ _ | exact hS13 _ _ | assumption | rfl) rfl ( h0) ?_
  refine ps_gfr 8 1 rfl rfl rfl (by first | exact hS0 _ _ | exact hS1 _ _ | exact hS2 _ _ | exact hS3 _ _ | exact hS4 _ _ | exact hS5 _ _ | exact hS6 _ _ | exact hS7 _ _ | exact hS8 _ _ | exact hS9 _ _ | exact hS10 _ _ | exact hS11 _ _ | exact hS12 _ _ | exact hS13 _ _ | assumption | rfl) rfl (by first | assumption | rfl) ?_
  refine ps_gfr 5 1 rfl rfl rfl (by first | exact hS0 _ _ | exact hS1 _ _ | exact hS2 _ _ | exact hS3 _ _ | exact hS4 _ _ | exact hS5 _ _ | exact hS6 _ _ | exact hS7 _ _ | exact hS8 _ _ | exact hS9 _ _ | exact hS10 _ _ | exact hS11 _ _ | exact hS12 _ _ | exact hS13 _ _ | assumption | rfl) rfl (by first | assumption | rfl) ?_
  refine ps_iload rfl rfl ?_
  refine pw_k rfl rfl rfl rfl ⟨Nat.zero_le _, Nat.zero_le _⟩ ?_
  refine B_takeOut6 hb h0 hH h ok (q := 1) (by omega) k (fun e z => ?_) (fun r S' z I' z2 => ?_)
  · refine ps_iret rfl rfl ?_
    exact kE e z
  · refine ps_iret rfl rfl ?_
    exact kO r S' z I' z2
theorem B_light6 (hb : isB b) (h0 : s 0 = some b) (hH : cHs H m f I) (h : cSc (b + 2) S I) (ok : S.ok) (v : Int32) (kE : ∀ e, aLight S v = .error e → Q [.int (-1)] (pm_u I 0 10 e, L, g_R s, 306)) (kO : ∀ r S', aLight S v = .ok (r, S') → ∀ I', aftB b S' (psh H m S) (rmM m) I I' → Q [.int r] (I', L, g_R s, 306)) : pm_W (g_P ys) 114 0 [.ref 0, .int v, .retAddr 0] [] (I, L, g_R s, 306) (0, 0) Q := by
  obtain ⟨hS0, hS1, hS2, hS3, hS4, hR0, hR1, hR2, hR3, hR4, hR5, hR6, hR7⟩ := bn_F (ys := ys) (s := s) hb
  have bb := isB_b hb
  have e0 : (0 : Int32).toInt = 0 := rfl
  have e99 : (99 : Int32).toInt = 99 := rfl
  have no : ¬ (0 ≤ v.toInt ∧ v.toInt ≤ 99) → pm_W (g_P ys) 114 10 [.ref 0, .int v, .retAddr 0] [] (I, L, g_R s, 306) (0, 0) Q := by
    intro z
    refine ps_aload rfl rfl ?_
    refine pw_c rfl ?_
    refine pw_k rfl rfl rfl rfl ⟨Nat.zero_le _, Nat.zero_le _⟩ ?_
    refine B_refuse ?_
    refine ps_iret rfl rfl ?_
    exact kE 1 (by unfold aLight; rw [if_pos z])
  by_cases h1 : v.toInt < 0
  · refine ps_iload rfl rfl ?_
    refine ps_ift rfl (decide_eq_true ((i_lt _ _).mpr (by omega))) ?_
    exact no (by omega)
  · by_cases h2 : 99 < v.toInt
    · refine ps_iload rfl rfl ?_
      refine ps_iff rfl (decide_eq_false (fun z => h1 (by have := (i_lt _ _).mp z; omega))) ?_
      refine ps_iload rfl rfl ?_
      refine pw_c rfl ?_
      refine ps_icmpf rfl (decide_eq_false (fun z => by have := (i_le _ _).mp z; omega)) ?_
      exact no (by omega)
    · have ea : aLight S v = if S.bk = v then .error 4 else .ok (S.bk, S.light v) := by
        unfold aLight
        rw [if_neg (fun z => z (by omega))]
      refine ps_iload rfl rfl ?_
      refine ps_iff rfl (decide_eq_false (fun z => h1 (by have := (i_lt _ _).mp z; omega))) ?_
      refine ps_iload rfl rfl ?_
      refine pw_c rfl ?_
      refine ps_icmpt rfl (decide_eq_true ((i_le _ _).mpr (by omega))) ?_
      refine ps_aload rfl rfl ?_
      refine ps_gfr 0 6 rfl rfl rfl (by first | exact hS0 _ _ | exact hS1 _ _ | exact hS2 _ _ | exact hS3 _ _ | exact hS4 _ _ | exact hS5 _ _ | exact hS6 _ _ | exact hS7 _ _ | exact hS8 _ _ | exact hS9 _ _ | exact hS10 _ _ | exact hS11 _ _ | exact hS12 _ _ | exact hS13 _ _ | assumption | rfl) rfl ( h0) ?_
      refine ps_gfr 8 1 rfl rfl rfl (by first | exact hS0 _ _ | exact hS1 _ _ | exact hS2 _ _ | exact hS3 _ _ | exact hS4 _ _ | exact hS5 _ _ | exact hS6 _ _ | exact hS7 _ _ | exact hS8 _ _ | exact hS9 _ _ | exact hS10 _ _ | exact hS11 _ _ | exact hS12 _ _ | exact hS13 _ _ | assumption | rfl) rfl (by first | assumption | rfl) ?_
      refine ps_gfi 5 3 rfl rfl rfl (by first | exact hS0 _ _ | exact hS1 _ _ | exact hS2 _ _ | exact hS3 _ _ | exact hS4 _ _ | exact hS5 _ _ | exact hS6 _ _ | exact hS7 _ _ | exact hS8 _ _ | exact hS9 _ _ | exact hS10 _ _ | exact hS11 _ _ | exact hS12 _ _ | exact hS13 _ _ | assumption | rfl) rfl ?_
      rw [show ((I, L, g_R s, 306) : pm_H).1 (b + 2) 3 = S.bk from h.2.1]
      by_cases e : S.bk = v
      · rw [if_pos e] at ea
        refine ps_istore rfl rfl ?_
        refine ps_iload rfl rfl ?_
        refine ps_iload rfl rfl ?_
        refine ps_icmpf rfl (decide_eq_false (fun z => z e)) ?_
        refine ps_aload rfl rfl ?_
        refine pw_c rfl ?_
        refine pv_k rfl rfl rfl rfl rfl (by first | exact hS0 _ _ | exact hS1 _ _ | exact hS2 _ _ | exact hS3 _ _ | exact hS4 _ _ | exact hS5 _ _ | exact hS6 _ _ | exact hS7 _ _ | exact hS8 _ _ | exact hS9 _ _ | exact hS10 _ _ | exact hS11 _ _ | exact hS12 _ _ | exact hS13 _ _ | assumption | rfl) rfl ⟨Nat.zero_le _, Nat.zero_le _⟩ ?_
        refine B_refuse ?_
        refine ps_iret rfl rfl ?_
        exact kE 4 ea
      · rw [if_neg e] at ea
        refine ps_istore rfl rfl ?_
        refine ps_iload rfl rfl ?_
        refine ps_iload rfl rfl ?_
        refine ps_icmpt rfl (decide_eq_true e) ?_
        refine ps_aload rfl rfl ?_
        refine pw_k rfl rfl rfl rfl ⟨Nat.zero_le _, Nat.zero_le _⟩ ?_
        refine B_beginAct hb h0 hH h ok (fun I1 f1 o1 a1 c1 => ?_)
        have c3 : cSc (b + 2) S I1 := cSc_t h (fun a j z1 z2 => o1 a j (by omega) (by omega))
        refine ps_aload rfl rfl ?_
        refine ps_gfr 0 6 rfl rfl rfl (by first | exact hS0 _ _ | exact hS1 _ _ | exact hS2 _ _ | exact hS3 _ _ | exact hS4 _ _ | exact hS5 _ _ | exact hS6 _ _ | exact hS7 _ _ | exact hS8 _ _ | exact hS9 _ _ | exact hS10 _ _ | exact hS11 _ _ | exact hS12 _ _ | exact hS13 _ _ | assumption | rfl) rfl ( h0) ?_
        refine ps_gfr 8 1 rfl rfl rfl (by first | exact hS0 _ _ | exact hS1 _ _ | exact hS2 _ _ | exact hS3 _ _ | exact hS4 _ _ | exact hS5 _ _ | exact hS6 _ _ | exact hS7 _ _ | exact hS8 _ _ | exact hS9 _ _ | exact hS10 _ _ | exact hS11 _ _ | exact hS12 _ _ | exact hS13 _ _ | assumption | rfl) rfl (by first | assumption | rfl) ?_
        refine ps_iload rfl rfl ?_
        refine ps_pfi 5 3 rfl rfl rfl (by first | exact hS0 _ _ | exact hS1 _ _ | exact hS2 _ _ | exact hS3 _ _ | exact hS4 _ _ | exact hS5 _ _ | exact hS6 _ _ | exact hS7 _ _ | exact hS8 _ _ | exact hS9 _ _ | exact hS10 _ _ | exact hS11 _ _ | exact hS12 _ _ | exact hS13 _ _ | assumption | rfl) rfl ?_
        refine ps_aload rfl rfl ?_
        refine ps_iload rfl rfl ?_
        refine pv_k rfl rfl rfl rfl rfl (by first | exact hS0 _ _ | exact hS1 _ _ | exact hS2 _ _ | exact hS3 _ _ | exact hS4 _ _ | exact hS5 _ _ | exact hS6 _ _ | exact hS7 _ _ | exact hS8 _ _ | exact hS9 _ _ | exact hS10 _ _ | exact hS11 _ _ | exact hS12 _ _ | exact hS13 _ _ | assumption | rfl) rfl ⟨Nat.zero_le _, Nat.zero_le _⟩ ?_
        refine B_answer ?_
        refine ps_iret rfl rfl ?_
        refine kO _ _ ea _ (aft_mk hb o1 a1 c1 (fun a j z => pu_o (by omega)) ?_)
        obtain ⟨g1, g2, g3, g4⟩ := c3
        refine ⟨fun q hq => (pu_o (by omega)).trans (g1 q hq), pu_s, (pu_n (by decide)).trans g3, fun q hq i hi j hj => (pu_o (by omega)).trans (g4 q hq i hi j hj)⟩
theorem B_use6 (hb : isB b) (h0 : s 0 = some b) {B : sB} (hP : I b 3 = nI B.ps) (p6 : B.ps ≤ 6) (hH : cHs H m f I) (h : cSc (b + 2) S I) (ok : S.ok) (k : Int32) (kE : ∀ e, aUse S B.ps k = .error e → Q [.int (-1)] (pm_u I 0 10 e, L, g_R s, 306)) (kO : ∀ r S', aUse S B.ps k = .ok (r, S') → ∀ I', aftB b S' (psh H m S) (rmM m) I I' → Q [.int r] (I', L, g_R s, 306)) : pm_W (g_P ys) 115 0 [.ref 0, .int k, .retAddr 0] [] (I, L, g_R s, 306) (0, 0) Q := by
  obtain ⟨hS0, hS1, hS2, hS3, hS4, hR0, hR1, hR2, hR3, hR4, hR5, hR6, hR7⟩ := bn_F (ys := ys) (s := s) hb
  have bb := isB_b hb
  refine ps_aload rfl rfl ?_
  refine ps_gfr 0 6 rfl rfl rfl (by first | exact hS0 _ _ | exact hS1 _ _ | exact hS2 _ _ | exact hS3 _ _ | exact hS4 _ _ | exact hS5 _ _ | exact hS6 _ _ | exact hS7 _ _ | exact hS8 _ _ | exact hS9 _ _ | exact hS10 _ _ | exact hS11 _ _ | exact hS12 _ _ | exact hS13 _ _ | assumption | rfl) rfl ( h0) ?_
  refine ps_iload rfl rfl ?_
  refine pv_k rfl rfl rfl rfl rfl (hS0 _ _) rfl ⟨Nat.zero_le _, Nat.zero_le _⟩ ?_
  by_cases hk : 0 ≤ k.toInt ∧ k.toInt < B.ps
  · have ea : aUse S B.ps k = if S.us = k then .error 4 else .ok (S.us, S.use k) := by
      unfold aUse
      rw [if_neg (fun z => z hk)]
    obtain ⟨i, hi⟩ : ∃ i, i = k.toInt.toNat := ⟨_, rfl⟩
    have ek := nI_oz hi hk.1
    subst ek
    refine B_plateOfX hb hP p6 (k := i) (by omega) ?_
    refine ps_brr rfl rfl rfl rfl rfl rfl ?_
    refine ps_aload rfl rfl ?_
    refine ps_gfr 0 6 rfl rfl rfl (by first | exact hS0 _ _ | exact hS1 _ _ | exact hS2 _ _ | exact hS3 _ _ | exact hS4 _ _ | exact hS5 _ _ | exact hS6 _ _ | exact hS7 _ _ | exact hS8 _ _ | exact hS9 _ _ | exact hS10 _ _ | exact hS11 _ _ | exact hS12 _ _ | exact hS13 _ _ | assumption | rfl) rfl ( h0) ?_
    refine ps_gfr 8 1 rfl rfl rfl (by first | exact hS0 _ _ | exact hS1 _ _ | exact hS2 _ _ | exact hS3 _ _ | exact hS4 _ _ | exact hS5 _ _ | exact hS6 _ _ | exact hS7 _ _ | exact hS8 _ _ | exact hS9 _ _ | exact hS10 _ _ | exact hS11 _ _ | exact hS12 _ _ | exact hS13 _ _ | assumption | rfl) rfl (by first | assumption | rfl) ?_
    refine ps_gfi 5 4 rfl rfl rfl (by first | exact hS0 _ _ | exact hS1 _ _ | exact hS2 _ _ | exact hS3 _ _ | exact hS4 _ _ | exact hS5 _ _ | exact hS6 _ _ | exact hS7 _ _ | exact hS8 _ _ | exact hS9 _ _ | exact hS10 _ _ | exact hS11 _ _ | exact hS12 _ _ | exact hS13 _ _ | assumption | rfl) rfl ?_
    rw [show ((I, L, g_R s, 306) : pm_H).1 (b + 2) 4 = S.us from h.2.2.1]
    by_cases e : S.us = nI i
    · rw [if_pos e] at ea
      refine ps_istore rfl rfl ?_
      refine ps_iload rfl rfl ?_
      refine ps_iload rfl rfl ?_
      refine ps_icmpf rfl (decide_eq_false (fun z => z e)) ?_
      refine ps_aload rfl rfl ?_
      refine pw_c rfl ?_
      refine pv_k rfl rfl rfl rfl rfl (by first | exact hS0 _ _ | exact hS1 _ _ | exact hS2 _ _ | exact hS3 _ _ | exact hS4 _ _ | exact hS5 _ _ | exact hS6 _ _ | exact hS7 _ _ | exact hS8 _ _ | exact hS9 _ _ | exact hS10 _ _ | exact hS11 _ _ | exact hS12 _ _ | exact hS13 _ _ | assumption | rfl) rfl ⟨Nat.zero_le _, Nat.zero_le _⟩ ?_
      refine B_refuse ?_
      refine ps_iret rfl rfl ?_
      exact kE 4 ea
    · rw [if_neg e] at ea
      refine ps_istore rfl rfl ?_
      refine ps_iload rfl rfl ?_
      refine ps_iload rfl rfl ?_
      refine ps_icmpt rfl (decide_eq_true e) ?_
      refine ps_aload rfl rfl ?_
      refine pw_k rfl rfl rfl rfl ⟨Nat.zero_le _, Nat.zero_le _⟩ ?_
      refine B_beginAct hb h0 hH h ok (fun I1 f1 o1 a1 c1 => ?_)
      have c3 : cSc (b + 2) S I1 := cSc_t h (fun a j z1 z2 => o1 a j (by omega) (by omega))
      refine ps_aload rfl rfl ?_
      refine ps_gfr 0 6 rfl rfl rfl (by first | exact hS0 _ _ | exact hS1 _ _ | exact hS2 _ _ | exact hS3 _ _ | exact hS4 _ _ | exact hS5 _ _ | exact hS6 _ _ | exact hS7 _ _ | exact hS8 _ _ | exact hS9 _ _ | exact hS10 _ _ | exact hS11 _ _ | exact hS12 _ _ | exact hS13 _ _ | assumption | rfl) rfl ( h0) ?_
      refine ps_gfr 8 1 rfl rfl rfl (by first | exact hS0 _ _ | exact hS1 _ _ | exact hS2 _ _ | exact hS3 _ _ | exact hS4 _ _ | exact hS5 _ _ | exact hS6 _ _ | exact hS7 _ _ | exact hS8 _ _ | exact hS9 _ _ | exact hS10 _ _ | exact hS11 _ _ | exact hS12 _ _ | exact hS13 _ _ | assumption | rfl) rfl (by first | assumption | rfl) ?_
      refine ps_iload rfl rfl ?_
      refine ps_pfi 5 4 rfl rfl rfl (by first | exact hS0 _ _ | exact hS1 _ _ | exact hS2 _ _ | exact hS3 _ _ | exact hS4 _ _ | exact hS5 _ _ | exact hS6 _ _ | exact hS7 _ _ | exact hS8 _ _ | exact hS9 _ _ | exact hS10 _ _ | exact hS11 _ _ | exact hS12 _ _ | exact hS13 _ _ | assumption | rfl) rfl ?_
      refine ps_aload rfl rfl ?_
      refine ps_iload rfl rfl ?_
      refine pv_k rfl rfl rfl rfl rfl (by first | exact hS0 _ _ | exact hS1 _ _ | exact hS2 _ _ | exact hS3 _ _ | exact hS4 _ _ | exact hS5 _ _ | exact hS6 _ _ | exact hS7 _ _ | exact hS8 _ _ | exact hS9 _ _ | exact hS10 _ _ | exact hS11 _ _ | exact hS12 _ _ | exact hS13 _ _ | assumption | rfl) rfl ⟨Nat.zero_le _, Nat.zero_le _⟩ ?_
      refine B_answer ?_
      refine ps_iret rfl rfl ?_
      refine kO _ _ ea _ (aft_mk hb o1 a1 c1 (fun a j z => pu_o (by omega)) ?_)
      obtain ⟨g1, g2, g3, g4⟩ := c3
      refine ⟨fun q hq => (pu_o (by omega)).trans (g1 q hq), (pu_n (by decide)).trans g2, pu_s, fun q hq i hi j hj => (pu_o (by omega)).trans (g4 q hq i hi j hj)⟩
  · refine B_plateOfN hb hP p6 hk ?_
    refine ps_brr rfl rfl rfl rfl rfl rfl ?_
    refine ps_aload rfl rfl ?_
    refine pw_c rfl ?_
    refine pv_k rfl rfl rfl rfl rfl (by first | exact hS0 _ _ | exact hS1 _ _ | exact hS2 _ _ | exact hS3 _ _ | exact hS4 _ _ | exact hS5 _ _ | exact hS6 _ _ | exact hS7 _ _ | exact hS8 _ _ | exact hS9 _ _ | exact hS10 _ _ | exact hS11 _ _ | exact hS12 _ _ | exact hS13 _ _ | assumption | rfl) rfl ⟨Nat.zero_le _, Nat.zero_le _⟩ ?_
    refine B_refuse ?_
    refine ps_iret rfl rfl ?_
    exact kE 2 (by unfold aUse; rw [if_pos hk])
theorem B_slide6 (hb : isB b) (h0 : s 0 = some b) (hH : cHs H m f I) (h : cSc (b + 2) S I) (ok : S.ok) (x y : Int32) (kE : ∀ e, aSlide S x y = .error e → Q [.int (-1)] (pm_u I 0 10 e, L, g_R s, 306)) (kO : ∀ r S', aSlide S x y = .ok (r, S') → ∀ I', aftB b S' (psh H m S) (rmM m) I I' → Q [.int r] (I', L, g_R s, 306)) : pm_W (g_P ys) 116 0 [.ref 0, .int x, .int y, .retAddr 0] [] (I, L, g_R s, 306) (0, 0) Q := by
  obtain ⟨hS0, hS1, hS2, hS3, hS4, hR0, hR1, hR2, hR3, hR4, hR5, hR6, hR7⟩ := bn_F (ys := ys) (s := s) hb
  have bb := isB_b hb
  have hm := isM_of (isE_b hb) (q := 0) (by omega)
  obtain ⟨hS5, _⟩ := mm_F (ys := ys) (s := s) hm
  have n8 : S.n 0 ≤ 8 := ok 0 (by omega)
  refine ps_iload rfl rfl ?_
  refine ps_iload rfl rfl ?_
  refine pw_k rfl rfl rfl rfl ⟨Nat.zero_le _, Nat.zero_le _⟩ ?_
  refine B_isPlace x y (fun hp => ?_) (fun hp => ?_)
  · have ea : aSlide S x y = if x = 0 ∧ y = 0 then .error 4 else if S.n 0 = 0 then .error 5 else .ok (nI (S.n 0), S.slide x y) := by
      unfold aSlide
      rw [if_neg (fun z => z hp)]
    have go : ¬ (x = 0 ∧ y = 0) → pm_W (g_P ys) 116 28 [.ref 0, .int x, .int y, .retAddr 0] [] (I, L, g_R s, 306) (0, 0) Q := by
      intro z
      rw [if_neg z] at ea
      refine ps_aload rfl rfl ?_
      refine ps_gfr 0 6 rfl rfl rfl (by first | exact hS0 _ _ | exact hS1 _ _ | exact hS2 _ _ | exact hS3 _ _ | exact hS4 _ _ | exact hS5 _ _ | exact hS6 _ _ | exact hS7 _ _ | exact hS8 _ _ | exact hS9 _ _ | exact hS10 _ _ | exact hS11 _ _ | exact hS12 _ _ | exact hS13 _ _ | assumption | rfl) rfl ( h0) ?_
      refine ps_gfr 8 1 rfl rfl rfl (by first | exact hS0 _ _ | exact hS1 _ _ | exact hS2 _ _ | exact hS3 _ _ | exact hS4 _ _ | exact hS5 _ _ | exact hS6 _ _ | exact hS7 _ _ | exact hS8 _ _ | exact hS9 _ _ | exact hS10 _ _ | exact hS11 _ _ | exact hS12 _ _ | exact hS13 _ _ | assumption | rfl) rfl (by first | assumption | rfl) ?_
      refine ps_gfr 5 0 rfl rfl rfl (by first | exact hS0 _ _ | exact hS1 _ _ | exact hS2 _ _ | exact hS3 _ _ | exact hS4 _ _ | exact hS5 _ _ | exact hS6 _ _ | exact hS7 _ _ | exact hS8 _ _ | exact hS9 _ _ | exact hS10 _ _ | exact hS11 _ _ | exact hS12 _ _ | exact hS13 _ _ | assumption | rfl) rfl (by first | assumption | rfl) ?_
      refine ps_astore rfl rfl ?_
      refine ps_aload rfl rfl ?_
      refine ps_gfi 6 3 rfl rfl rfl (by first | exact hS0 _ _ | exact hS1 _ _ | exact hS2 _ _ | exact hS3 _ _ | exact hS4 _ _ | exact hS5 _ _ | exact hS6 _ _ | exact hS7 _ _ | exact hS8 _ _ | exact hS9 _ _ | exact hS10 _ _ | exact hS11 _ _ | exact hS12 _ _ | exact hS13 _ _ | assumption | rfl) rfl ?_
      rw [show ((I, L, g_R s, 306) : pm_H).1 (b + 2 + 1 + 4 * 0) 3 = nI (S.n 0) from h.1 0 (by omega)]
      by_cases e : S.n 0 = 0
      · rw [if_pos e] at ea
        refine ps_iff rfl (decide_eq_false (fun z => z (by rw [e]; rfl))) ?_
        refine ps_aload rfl rfl ?_
        refine pw_c rfl ?_
        refine pv_k rfl rfl rfl rfl rfl (by first | exact hS0 _ _ | exact hS1 _ _ | exact hS2 _ _ | exact hS3 _ _ | exact hS4 _ _ | exact hS5 _ _ | exact hS6 _ _ | exact hS7 _ _ | exact hS8 _ _ | exact hS9 _ _ | exact hS10 _ _ | exact hS11 _ _ | exact hS12 _ _ | exact hS13 _ _ | assumption | rfl) rfl ⟨Nat.zero_le _, Nat.zero_le _⟩ ?_
        refine B_refuse ?_
        refine ps_iret rfl rfl ?_
        exact kE 5 ea
      · rw [if_neg e] at ea
        refine ps_ift rfl (decide_eq_true (nI_nz (by omega) (by omega))) ?_
        refine ps_aload rfl rfl ?_
        refine pw_k rfl rfl rfl rfl ⟨Nat.zero_le _, Nat.zero_le _⟩ ?_
        refine B_beginAct hb h0 hH h ok (fun I1 f1 o1 a1 c1 => ?_)
        have c3 : cSc (b + 2) S I1 := cSc_t h (fun a j z1 z2 => o1 a j (by omega) (by omega))
        refine ps_aload rfl rfl ?_
        refine ps_iload rfl rfl ?_
        refine ps_iload rfl rfl ?_
        refine pv_k rfl rfl rfl rfl rfl (hS5 _ _) rfl ⟨Nat.zero_le _, Nat.zero_le _⟩ ?_
        refine B_mShift hm (c3.1 0 (by omega)) (ok 0 (by omega)) x y (fun I2 a2 n2 r2 => ?_)
        refine ps_aload rfl rfl ?_
        refine ps_aload rfl rfl ?_
        refine ps_gfi 6 3 rfl rfl rfl (by first | exact hS0 _ _ | exact hS1 _ _ | exact hS2 _ _ | exact hS3 _ _ | exact hS4 _ _ | exact hS5 _ _ | exact hS6 _ _ | exact hS7 _ _ | exact hS8 _ _ | exact hS9 _ _ | exact hS10 _ _ | exact hS11 _ _ | exact hS12 _ _ | exact hS13 _ _ | assumption | rfl) rfl ?_
        rw [show ((I2, L, g_R s, 306) : pm_H).1 (b + 2 + 1 + 4 * 0) 3 = nI (S.n 0) from n2]
        refine pv_k rfl rfl rfl rfl rfl (by first | exact hS0 _ _ | exact hS1 _ _ | exact hS2 _ _ | exact hS3 _ _ | exact hS4 _ _ | exact hS5 _ _ | exact hS6 _ _ | exact hS7 _ _ | exact hS8 _ _ | exact hS9 _ _ | exact hS10 _ _ | exact hS11 _ _ | exact hS12 _ _ | exact hS13 _ _ | assumption | rfl) rfl ⟨Nat.zero_le _, Nat.zero_le _⟩ ?_
        refine B_answer ?_
        refine ps_iret rfl rfl ?_
        refine kO _ _ ea _ (aft_mk hb o1 a1 c1 (fun a j z => a2 a j (by omega)) ?_)
        obtain ⟨g1, g2, g3, g4⟩ := c3
        refine ⟨fun q hq => ?_, (a2 _ _ (by omega)).trans g2, (a2 _ _ (by omega)).trans g3, fun q hq i hi j hj => ?_⟩
        · by_cases q0 : q = 0
          · rw [q0]
            exact n2
          · exact (a2 _ _ (by omega)).trans (g1 q hq)
        · have hi : i < S.n q := hi
          show _ = if q = 0 ∧ j = 0 then md100 (S.sc 0 i 0 + x) else if q = 0 ∧ j = 1 then md100 (S.sc 0 i 1 + y) else S.sc q i j
          by_cases q0 : q = 0
          · subst q0
            obtain ⟨v1, v2, v3⟩ := r2 i hi
            rcases q3 hj with rfl | rfl | rfl
            · rw [if_pos ⟨rfl, rfl⟩, ← g4 0 hq i hi 0 (by omega)]
              exact v1
            · rw [if_neg (by omega), if_pos ⟨rfl, rfl⟩, ← g4 0 hq i hi 1 (by omega)]
              exact v2
            · rw [if_neg (by omega), if_neg (by omega), ← g4 0 hq i hi 2 (by omega)]
              exact v3
          · rw [if_neg (fun z => q0 z.1), if_neg (fun z => q0 z.1)]
            exact (a2 _ _ (by omega)).trans (g4 q hq i hi j hj)
    by_cases h1 : x = 0
    · by_cases h2 : y = 0
      · rw [if_pos ⟨h1, h2⟩] at ea
        refine ps_ift rfl (rfl) ?_
        refine ps_iload rfl rfl ?_
        refine ps_iff rfl (decide_eq_false (fun z => z h1)) ?_
        refine ps_iload rfl rfl ?_
        refine ps_iff rfl (decide_eq_false (fun z => z h2)) ?_
        refine ps_aload rfl rfl ?_
        refine pw_c rfl ?_
        refine pv_k rfl rfl rfl rfl rfl (by first | exact hS0 _ _ | exact hS1 _ _ | exact hS2 _ _ | exact hS3 _ _ | exact hS4 _ _ | exact hS5 _ _ | exact hS6 _ _ | exact hS7 _ _ | exact hS8 _ _ | exact hS9 _ _ | exact hS10 _ _ | exact hS11 _ _ | exact hS12 _ _ | exact hS13 _ _ | assumption | rfl) rfl ⟨Nat.zero_le _, Nat.zero_le _⟩ ?_
        refine B_refuse ?_
        refine ps_iret rfl rfl ?_
        exact kE 4 ea
      · refine ps_ift rfl (rfl) ?_
        refine ps_iload rfl rfl ?_
        refine ps_iff rfl (decide_eq_false (fun z => z h1)) ?_
        refine ps_iload rfl rfl ?_
        refine ps_ift rfl (decide_eq_true h2) ?_
        exact go (fun z => h2 z.2)
    · refine ps_ift rfl (rfl) ?_
      refine ps_iload rfl rfl ?_
      refine ps_ift rfl (decide_eq_true h1) ?_
      exact go (fun z => h1 z.1)
  · refine ps_iff rfl (rfl) ?_
    refine ps_aload rfl rfl ?_
    refine pw_c rfl ?_
    refine pv_k rfl rfl rfl rfl rfl (by first | exact hS0 _ _ | exact hS1 _ _ | exact hS2 _ _ | exact hS3 _ _ | exact hS4 _ _ | exact hS5 _ _ | exact hS6 _ _ | exact hS7 _ _ | exact hS8 _ _ | exact hS9 _ _ | exact hS10 _ _ | exact hS11 _ _ | exact hS12 _ _ | exact hS13 _ _ | assumption | rfl) rfl ⟨Nat.zero_le _, Nat.zero_le _⟩ ?_
    refine B_refuse ?_
    refine ps_iret rfl rfl ?_
    exact kE 1 (by unfold aSlide; rw [if_pos hp])
end SE
