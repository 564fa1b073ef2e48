/-! BY HAND: the class's scenes, copied; the ring of scenes -/
section SB
variable {I I' J : Nat → Nat → Int32} {L : Nat → Nat → Int64} {s : Nat → Option Nat} {Q : List Value → pm_H → Prop} {ys : List Int32} {n m d e len : Nat} {S : sS}
theorem B_mCopy {m' : Nat} (hm : isM m len) (hm' : isM m' len) (dj : m + 3 < m' ∨ m' + 3 < m) (hn : I m' 3 = nI n) (nl : n ≤ len) (kk : ∀ I', mAg m I I' → I' m 3 = nI n → (∀ j, j < 3 → ∀ i, i < n → I' (m + 1 + j) i = I (m' + 1 + j) i) → Q [] (I', L, g_R s, 306)) : pm_W (g_P ys) 107 0 [.ref m, .ref m', .retAddr 0] [] (I, L, g_R s, 306) (0, 0) Q := by
  obtain ⟨hS0, hS1, hS2, hS3, hR0, hR1, hR2, l12⟩ := mm_F (ys := ys) (s := s) hm
  obtain ⟨hS4, hS5, hS6, hS7, hR4, hR5, hR6, _⟩ := mm_F (ys := ys) (s := s) hm'
  have nb : Nat.blt len 2147483648 = true := Nat.blt_eq.mpr (by omega)
  have go : ∀ d i : Nat, i + d = n → ∀ I', mAg m I I' → I' m 3 = nI n → (∀ j, j < 3 → ∀ p, p < i → I' (m + 1 + j) p = I (m' + 1 + j) p) → pm_W (g_P ys) 107 18 [.ref m, .ref m', .int (nI i)] [] (I', L, g_R s, 306) (0, 0) Q := by
    intro d
    induction d with
    | zero =>
      intro i hi I' ag hc hr
      refine ps_iload rfl rfl ?_
      refine ps_aload rfl rfl ?_
      refine ps_gfi 6 3 rfl rfl rfl (by first | exact hS0 _ _ | exact hS1 _ _ | exact hS2 _ _ | exact hS3 _ _ | exact hS4 _ _ | exact hS5 _ _ | exact hS6 _ _ | exact hS7 _ _ | exact hS8 _ _ | exact hS9 _ _ | exact hS10 _ _ | exact hS11 _ _ | exact hS12 _ _ | exact hS13 _ _ | assumption | rfl) rfl ?_
      rw [show ((I', L, g_R s, 306) : pm_H).1 m 3 = nI n from hc]
      refine ps_icmpt rfl (decide_eq_true (nI_le (by omega) (by omega))) ?_
      refine ps_vret rfl rfl ?_
      exact kk _ ag hc (fun j hj p hp => hr j hj p (by omega))
    | succ d ih =>
      intro i hi I' ag hc hr
      refine ps_iload rfl rfl ?_
      refine ps_aload rfl rfl ?_
      refine ps_gfi 6 3 rfl rfl rfl (by first | exact hS0 _ _ | exact hS1 _ _ | exact hS2 _ _ | exact hS3 _ _ | exact hS4 _ _ | exact hS5 _ _ | exact hS6 _ _ | exact hS7 _ _ | exact hS8 _ _ | exact hS9 _ _ | exact hS10 _ _ | exact hS11 _ _ | exact hS12 _ _ | exact hS13 _ _ | assumption | rfl) rfl ?_
      rw [show ((I', L, g_R s, 306) : pm_H).1 m 3 = nI n from hc]
      refine ps_icmpf rfl (decide_eq_false (nI_ge (by omega) (by omega))) ?_
      refine ps_aload rfl rfl ?_
      refine ps_gfr 6 0 rfl rfl rfl (by first | exact hS0 _ _ | exact hS1 _ _ | exact hS2 _ _ | exact hS3 _ _ | exact hS4 _ _ | exact hS5 _ _ | exact hS6 _ _ | exact hS7 _ _ | exact hS8 _ _ | exact hS9 _ _ | exact hS10 _ _ | exact hS11 _ _ | exact hS12 _ _ | exact hS13 _ _ | assumption | rfl) rfl (by first | assumption | rfl) ?_
      refine ps_iload rfl rfl ?_
      refine ps_aload rfl rfl ?_
      refine ps_gfr 6 0 rfl rfl rfl (by first | exact hS0 _ _ | exact hS1 _ _ | exact hS2 _ _ | exact hS3 _ _ | exact hS4 _ _ | exact hS5 _ _ | exact hS6 _ _ | exact hS7 _ _ | exact hS8 _ _ | exact hS9 _ _ | exact hS10 _ _ | exact hS11 _ _ | exact hS12 _ _ | exact hS13 _ _ | assumption | rfl) rfl (by first | assumption | rfl) ?_
      refine ps_iload rfl rfl ?_
      refine ps_iald (i) rfl (by first | exact hS0 _ _ | exact hS1 _ _ | exact hS2 _ _ | exact hS3 _ _ | exact hS4 _ _ | exact hS5 _ _ | exact hS6 _ _ | exact hS7 _ _ | exact hS8 _ _ | exact hS9 _ _ | exact hS10 _ _ | exact hS11 _ _ | exact hS12 _ _ | exact hS13 _ _ | assumption | rfl) nb (rfl) (by omega) ?_
      refine ps_iast (i) rfl (by first | exact hS0 _ _ | exact hS1 _ _ | exact hS2 _ _ | exact hS3 _ _ | exact hS4 _ _ | exact hS5 _ _ | exact hS6 _ _ | exact hS7 _ _ | exact hS8 _ _ | exact hS9 _ _ | exact hS10 _ _ | exact hS11 _ _ | exact hS12 _ _ | exact hS13 _ _ | assumption | rfl) nb (rfl) (by omega) ?_
      refine ps_aload rfl rfl ?_
      refine ps_gfr 6 1 rfl rfl rfl (by first | exact hS0 _ _ | exact hS1 _ _ | exact hS2 _ _ | exact hS3 _ _ | exact hS4 _ _ | exact hS5 _ _ | exact hS6 _ _ | exact hS7 _ _ | exact hS8 _ _ | exact hS9 _ _ | exact hS10 _ _ | exact hS11 _ _ | exact hS12 _ _ | exact hS13 _ _ | assumption | rfl) rfl (by first | assumption | rfl) ?_
      refine ps_iload rfl rfl ?_
      refine ps_aload rfl rfl ?_
      refine ps_gfr 6 1 rfl rfl rfl (by first | exact hS0 _ _ | exact hS1 _ _ | exact hS2 _ _ | exact hS3 _ _ | exact hS4 _ _ | exact hS5 _ _ | exact hS6 _ _ | exact hS7 _ _ | exact hS8 _ _ | exact hS9 _ _ | exact hS10 _ _ | exact hS11 _ _ | exact hS12 _ _ | exact hS13 _ _ | assumption | rfl) rfl (by first | assumption | rfl) ?_
      refine ps_iload rfl rfl ?_
      refine ps_iald (i) rfl (by first | exact hS0 _ _ | exact hS1 _ _ | exact hS2 _ _ | exact hS3 _ _ | exact hS4 _ _ | exact hS5 _ _ | exact hS6 _ _ | exact hS7 _ _ | exact hS8 _ _ | exact hS9 _ _ | exact hS10 _ _ | exact hS11 _ _ | exact hS12 _ _ | exact hS13 _ _ | assumption | rfl) nb (rfl) (by omega) ?_
      refine ps_iast (i) rfl (by first | exact hS0 _ _ | exact hS1 _ _ | exact hS2 _ _ | exact hS3 _ _ | exact hS4 _ _ | exact hS5 _ _ | exact hS6 _ _ | exact hS7 _ _ | exact hS8 _ _ | exact hS9 _ _ | exact hS10 _ _ | exact hS11 _ _ | exact hS12 _ _ | exact hS13 _ _ | assumption | rfl) nb (rfl) (by omega) ?_
      refine ps_aload rfl rfl ?_
      refine ps_gfr 6 2 rfl rfl rfl (by first | exact hS0 _ _ | exact hS1 _ _ | exact hS2 _ _ | exact hS3 _ _ | exact hS4 _ _ | exact hS5 _ _ | exact hS6 _ _ | exact hS7 _ _ | exact hS8 _ _ | exact hS9 _ _ | exact hS10 _ _ | exact hS11 _ _ | exact hS12 _ _ | exact hS13 _ _ | assumption | rfl) rfl (by first | assumption | rfl) ?_
      refine ps_iload rfl rfl ?_
      refine ps_aload rfl rfl ?_
      refine ps_gfr 6 2 rfl rfl rfl (by first | exact hS0 _ _ | exact hS1 _ _ | exact hS2 _ _ | exact hS3 _ _ | exact hS4 _ _ | exact hS5 _ _ | exact hS6 _ _ | exact hS7 _ _ | exact hS8 _ _ | exact hS9 _ _ | exact hS10 _ _ | exact hS11 _ _ | exact hS12 _ _ | exact hS13 _ _ | assumption | rfl) rfl (by first | assumption | rfl) ?_
      refine ps_iload rfl rfl ?_
      refine ps_iald (i) rfl (by first | exact hS0 _ _ | exact hS1 _ _ | exact hS2 _ _ | exact hS3 _ _ | exact hS4 _ _ | exact hS5 _ _ | exact hS6 _ _ | exact hS7 _ _ | exact hS8 _ _ | exact hS9 _ _ | exact hS10 _ _ | exact hS11 _ _ | exact hS12 _ _ | exact hS13 _ _ | assumption | rfl) nb (rfl) (by omega) ?_
      refine ps_iast (i) rfl (by first | exact hS0 _ _ | exact hS1 _ _ | exact hS2 _ _ | exact hS3 _ _ | exact hS4 _ _ | exact hS5 _ _ | exact hS6 _ _ | exact hS7 _ _ | exact hS8 _ _ | exact hS9 _ _ | exact hS10 _ _ | exact hS11 _ _ | exact hS12 _ _ | exact hS13 _ _ | assumption | rfl) nb (rfl) (by omega) ?_
      refine ps_iinc rfl rfl ?_
      refine ps_goto rfl ?_
      rw [show nI i + Int32.ofInt 1 = nI (i + 1) from nI_1 i]
      have v : ∀ j, j < 3 → I' (m' + 1 + j) i = I (m' + 1 + j) i := fun j hj => ag _ _ (by omega)
      refine ih (i + 1) (by omega) _ (fun a j h => ?_) ?_ (fun j hj p hp => ?_)
      · show pm_u (pm_u (pm_u I' (m + 1) i _) (m + 2) i _) (m + 3) i _ a j = _
        rw [pu_o (by omega), pu_o (by omega), pu_o (by omega)]
        exact ag a j h
      · show pm_u (pm_u (pm_u I' (m + 1) i _) (m + 2) i _) (m + 3) i _ m 3 = _
        rw [pu_o (by omega), pu_o (by omega), pu_o (by omega)]
        exact hc
      · show pm_u (pm_u (pm_u I' (m + 1) i (I' (m' + 1) i)) (m + 2) i (pm_u I' (m + 1) i (I' (m' + 1) i) (m' + 2) i)) (m + 3) i (pm_u (pm_u I' (m + 1) i (I' (m' + 1) i)) (m + 2) i (pm_u I' (m + 1) i (I' (m' + 1) i) (m' + 2) i) (m' + 3) i) (m + 1 + j) p = _
        have e2 : pm_u I' (m + 1) i (I' (m' + 1) i) (m' + 2) i = I' (m' + 2) i := pu_o (by omega)
        have e3 : pm_u (pm_u I' (m + 1) i (I' (m' + 1) i)) (m + 2) i (I' (m' + 2) i) (m' + 3) i = I' (m' + 3) i := (pu_o (by omega)).trans (pu_o (by omega))
        rw [e2, e3]
        by_cases ep : p = i
        · rw [ep, ← v j hj]
          rcases q3 hj with rfl | rfl | rfl
          · rw [pu_o (by omega), pu_o (by omega)]
            exact pu_s
          · rw [pu_o (by omega)]
            exact pu_s
          · exact pu_s
        · rw [pu_x (by omega), pu_x (by omega), pu_x (by omega)]
          exact hr j hj p (by omega)
  refine ps_aload rfl rfl ?_
  refine ps_aload rfl rfl ?_
  refine ps_gfi 6 3 rfl rfl rfl (by first | exact hS0 _ _ | exact hS1 _ _ | exact hS2 _ _ | exact hS3 _ _ | exact hS4 _ _ | exact hS5 _ _ | exact hS6 _ _ | exact hS7 _ _ | exact hS8 _ _ | exact hS9 _ _ | exact hS10 _ _ | exact hS11 _ _ | exact hS12 _ _ | exact hS13 _ _ | assumption | rfl) rfl ?_
  rw [show ((I, L, g_R s, 306) : pm_H).1 m' 3 = nI n from hn]
  refine ps_aload rfl rfl ?_
  refine ps_gfr 6 0 rfl rfl rfl (by first | exact hS0 _ _ | exact hS1 _ _ | exact hS2 _ _ | exact hS3 _ _ | exact hS4 _ _ | exact hS5 _ _ | exact hS6 _ _ | exact hS7 _ _ | exact hS8 _ _ | exact hS9 _ _ | exact hS10 _ _ | exact hS11 _ _ | exact hS12 _ _ | exact hS13 _ _ | assumption | rfl) rfl (by first | assumption | rfl) ?_
  refine ps_alen rfl (by first | exact hS0 _ _ | exact hS1 _ _ | exact hS2 _ _ | exact hS3 _ _ | exact hS4 _ _ | exact hS5 _ _ | exact hS6 _ _ | exact hS7 _ _ | exact hS8 _ _ | exact hS9 _ _ | exact hS10 _ _ | exact hS11 _ _ | exact hS12 _ _ | exact hS13 _ _ | assumption | rfl) ?_
  refine pw_k rfl rfl rfl rfl ⟨Nat.zero_le _, Nat.zero_le _⟩ ?_
  refine B_min (a := n) (b := len) (by omega) (by omega) ?_
  rw [show min n len = n by omega]
  refine ps_pfi 6 3 rfl rfl rfl (by first | exact hS0 _ _ | exact hS1 _ _ | exact hS2 _ _ | exact hS3 _ _ | exact hS4 _ _ | exact hS5 _ _ | exact hS6 _ _ | exact hS7 _ _ | exact hS8 _ _ | exact hS9 _ _ | exact hS10 _ _ | exact hS11 _ _ | exact hS12 _ _ | exact hS13 _ _ | assumption | rfl) rfl ?_
  refine pw_c rfl ?_
  refine ps_istore rfl rfl ?_
  refine go n 0 (by omega) _ (fun a j h => pu_o (by omega)) pu_s (fun j hj p hp => absurd hp (by omega))
/-- the class's scene at e is S -/
def cSc (e : Nat) (S : sS) (I : Nat → Nat → Int32) : Prop := (∀ q, q < 3 → I (e + 1 + 4 * q) 3 = nI (S.n q)) ∧ I e 3 = S.bk ∧ I e 4 = S.us ∧ ∀ q, q < 3 → ∀ k, k < S.n q → ∀ j, j < 3 → I (e + 1 + 4 * q + 1 + j) k = S.sc q k j
/-- the model's scene, in a row, from o on -/
def mSc (a o : Nat) (S : sS) (I : Nat → Nat → Int32) : Prop := (∀ q, q < 3 → I a (o + q) = nI (S.n q)) ∧ I a (o + 3) = S.bk ∧ I a (o + 4) = S.us ∧ ∀ q, q < 3 → ∀ k, k < S.n q → ∀ j, j < 3 → I a (o + (rwK q + 3 * k + j)) = S.sc q k j
theorem cBs_c {b : Nat} {B : sB} : cBs b B I ↔ cSc (b + 2) B.S I := by
  have e : ∀ q, q < 3 → b + mkO q = b + 2 + 1 + 4 * q := fun q hq => by rw [mkO_b hq]; omega
  constructor
  · rintro ⟨h1, h2, h3, h4⟩
    refine ⟨fun q hq => ?_, h2, h3, fun q hq k hk j hj => ?_⟩
    · rw [← e q hq]
      exact h1 q hq
    · rw [← e q hq]
      exact h4 q hq k hk j hj
  · rintro ⟨h1, h2, h3, h4⟩
    refine ⟨fun q hq => ?_, h2, h3, fun q hq k hk j hj => ?_⟩
    · rw [e q hq]
      exact h1 q hq
    · rw [e q hq]
      exact h4 q hq k hk j hj
theorem mBs_c {B : sB} : mBs B I ↔ mSc 288 0 B.S I := by
  constructor
  · rintro ⟨h1, h2, h3, h4⟩
    refine ⟨fun q hq => ?_, h2, h3, fun q hq k hk j hj => ?_⟩
    · rw [Nat.zero_add]
      exact h1 q hq
    · rw [Nat.zero_add]
      exact h4 q hq k hk j hj
  · rintro ⟨h1, h2, h3, h4⟩
    refine ⟨fun q hq => ?_, h2, h3, fun q hq k hk j hj => ?_⟩
    · have z := h1 q hq
      rw [Nat.zero_add] at z
      exact z
    · have z := h4 q hq k hk j hj
      rw [Nat.zero_add] at z
      exact z
/-- outside the scene at e all stays -/
def eAg (e : Nat) (I I' : Nat → Nat → Int32) : Prop := ∀ a j : Nat, ¬ (e ≤ a ∧ a ≤ e + 12) → I' a j = I a j
theorem cSc_t (h : cSc e S I) (k : ∀ a j, e ≤ a → a ≤ e + 12 → I' a j = I a j) : cSc e S I' := by
  obtain ⟨h1, h2, h3, h4⟩ := h
  refine ⟨fun q hq => (k _ _ (by omega) (by omega)).trans (h1 q hq), (k _ _ (by omega) (by omega)).trans h2, (k _ _ (by omega) (by omega)).trans h3, fun q hq i hi j hj => (k _ _ (by omega) (by omega)).trans (h4 q hq i hi j hj)⟩
theorem mSc_t {a o a' o' : Nat} (h : mSc a o S I) (ok : S.ok) (k : ∀ j, j < 89 → I' a' (o' + j) = I a (o + j)) : mSc a' o' S I' := by
  obtain ⟨h1, h2, h3, h4⟩ := h
  refine ⟨fun q hq => (k _ (by omega)).trans (h1 q hq), (k 3 (by omega)).trans h2, (k 4 (by omega)).trans h3, fun q hq i hi j hj => (k _ ?_).trans (h4 q hq i hi j hj)⟩
  have z := ok q hq
  rcases q3 hq with rfl | rfl | rfl
  · have z : S.n 0 ≤ 8 := z
    show 5 + 3 * i + j < 89
    omega
  · have z : S.n 1 ≤ 12 := z
    show 29 + 3 * i + j < 89
    omega
  · have z : S.n 2 ≤ 8 := z
    show 65 + 3 * i + j < 89
    omega
theorem B_sceneCopy (he : isE e) (hd : isE d) (dj : e + 12 < d ∨ d + 12 < e) (h : cSc d S I) (ok : S.ok) (kk : ∀ I', eAg e I I' → cSc e S I' → Q [] (I', L, g_R s, 306)) : pm_W (g_P ys) 106 0 [.ref e, .ref d] [] (I, L, g_R s, 306) (0, 0) Q := by
  obtain ⟨hS0, hR0, hR1, hR2⟩ := en_F (ys := ys) (s := s) he
  obtain ⟨hS1, hR3, hR4, hR5⟩ := en_F (ys := ys) (s := s) hd
  have hS2 := (mm_F (ys := ys) (s := s) (isM_of he (q := 0) (by omega))).1
  have hS3 := (mm_F (ys := ys) (s := s) (isM_of he (q := 1) (by omega))).1
  have hS4 := (mm_F (ys := ys) (s := s) (isM_of he (q := 2) (by omega))).1
  obtain ⟨h1, h2, h3, h4⟩ := h
  refine ps_aload rfl rfl ?_
  refine ps_gfr 5 0 rfl rfl rfl (by first | exact hS0 _ _ | exact hS1 _ _ | exact hS2 _ _ | exact hS3 _ _ | exact hS4 _ _ | exact hS5 _ _ | exact hS6 _ _ | exact hS7 _ _ | exact hS8 _ _ | exact hS9 _ _ | exact hS10 _ _ | exact hS11 _ _ | exact hS12 _ _ | exact hS13 _ _ | assumption | rfl) rfl (by first | assumption | rfl) ?_
  refine ps_aload rfl rfl ?_
  refine ps_gfr 5 0 rfl rfl rfl (by first | exact hS0 _ _ | exact hS1 _ _ | exact hS2 _ _ | exact hS3 _ _ | exact hS4 _ _ | exact hS5 _ _ | exact hS6 _ _ | exact hS7 _ _ | exact hS8 _ _ | exact hS9 _ _ | exact hS10 _ _ | exact hS11 _ _ | exact hS12 _ _ | exact hS13 _ _ | assumption | rfl) rfl (by first | assumption | rfl) ?_
  refine pv_k rfl rfl rfl rfl rfl (hS2 _ _) rfl ⟨Nat.zero_le _, Nat.zero_le _⟩ ?_
  refine B_mCopy (isM_of he (q := 0) (by omega)) (isM_of hd (q := 0) (by omega)) (by omega) (h1 0 (by omega)) (ok 0 (by omega)) (fun I1 a1 c1 r1 => ?_)
  refine ps_aload rfl rfl ?_
  refine ps_gfr 5 1 rfl rfl rfl (by first | exact hS0 _ _ | exact hS1 _ _ | exact hS2 _ _ | exact hS3 _ _ | exact hS4 _ _ | exact hS5 _ _ | exact hS6 _ _ | exact hS7 _ _ | exact hS8 _ _ | exact hS9 _ _ | exact hS10 _ _ | exact hS11 _ _ | exact hS12 _ _ | exact hS13 _ _ | assumption | rfl) rfl (by first | assumption | rfl) ?_
  refine ps_aload rfl rfl ?_
  refine ps_gfr 5 1 rfl rfl rfl (by first | exact hS0 _ _ | exact hS1 _ _ | exact hS2 _ _ | exact hS3 _ _ | exact hS4 _ _ | exact hS5 _ _ | exact hS6 _ _ | exact hS7 _ _ | exact hS8 _ _ | exact hS9 _ _ | exact hS10 _ _ | exact hS11 _ _ | exact hS12 _ _ | exact hS13 _ _ | assumption | rfl) rfl (by first | assumption | rfl) ?_
  refine pv_k rfl rfl rfl rfl rfl (hS3 _ _) rfl ⟨Nat.zero_le _, Nat.zero_le _⟩ ?_
  refine B_mCopy (isM_of he (q := 1) (by omega)) (isM_of hd (q := 1) (by omega)) (by omega) ((a1 _ _ (by omega)).trans (h1 1 (by omega))) (ok 1 (by omega)) (fun I2 a2 c2 r2 => ?_)
  refine ps_aload rfl rfl ?_
  refine ps_gfr 5 2 rfl rfl rfl (by first | exact hS0 _ _ | exact hS1 _ _ | exact hS2 _ _ | exact hS3 _ _ | exact hS4 _ _ | exact hS5 _ _ | exact hS6 _ _ | exact hS7 _ _ | exact hS8 _ _ | exact hS9 _ _ | exact hS10 _ _ | exact hS11 _ _ | exact hS12 _ _ | exact hS13 _ _ | assumption | rfl) rfl (by first | assumption | rfl) ?_
  refine ps_aload rfl rfl ?_
  refine ps_gfr 5 2 rfl rfl rfl (by first | exact hS0 _ _ | exact hS1 _ _ | exact hS2 _ _ | exact hS3 _ _ | exact hS4 _ _ | exact hS5 _ _ | exact hS6 _ _ | exact hS7 _ _ | exact hS8 _ _ | exact hS9 _ _ | exact hS10 _ _ | exact hS11 _ _ | exact hS12 _ _ | exact hS13 _ _ | assumption | rfl) rfl (by first | assumption | rfl) ?_
  refine pv_k rfl rfl rfl rfl rfl (hS4 _ _) rfl ⟨Nat.zero_le _, Nat.zero_le _⟩ ?_
  refine B_mCopy (isM_of he (q := 2) (by omega)) (isM_of hd (q := 2) (by omega)) (by omega) ((a2 _ _ (by omega)).trans ((a1 _ _ (by omega)).trans (h1 2 (by omega)))) (ok 2 (by omega)) (fun I3 a3 c3 r3 => ?_)
  have o3 : ∀ a j, ¬ (e + 1 ≤ a ∧ a ≤ e + 12) → I3 a j = I a j := fun a j h => (a3 a j (by omega)).trans ((a2 a j (by omega)).trans (a1 a j (by omega)))
  refine ps_aload rfl rfl ?_
  refine ps_aload rfl rfl ?_
  refine ps_gfi 5 3 rfl rfl rfl (by first | exact hS0 _ _ | exact hS1 _ _ | exact hS2 _ _ | exact hS3 _ _ | exact hS4 _ _ | exact hS5 _ _ | exact hS6 _ _ | exact hS7 _ _ | exact hS8 _ _ | exact hS9 _ _ | exact hS10 _ _ | exact hS11 _ _ | exact hS12 _ _ | exact hS13 _ _ | assumption | rfl) rfl ?_
  rw [show ((I3, L, g_R s, 306) : pm_H).1 d 3 = S.bk from (o3 _ _ (by omega)).trans h2]
  refine ps_pfi 5 3 rfl rfl rfl (by first | exact hS0 _ _ | exact hS1 _ _ | exact hS2 _ _ | exact hS3 _ _ | exact hS4 _ _ | exact hS5 _ _ | exact hS6 _ _ | exact hS7 _ _ | exact hS8 _ _ | exact hS9 _ _ | exact hS10 _ _ | exact hS11 _ _ | exact hS12 _ _ | exact hS13 _ _ | assumption | rfl) rfl ?_
  refine ps_aload rfl rfl ?_
  refine ps_aload rfl rfl ?_
  refine ps_gfi 5 4 rfl rfl rfl (by first | exact hS0 _ _ | exact hS1 _ _ | exact hS2 _ _ | exact hS3 _ _ | exact hS4 _ _ | exact hS5 _ _ | exact hS6 _ _ | exact hS7 _ _ | exact hS8 _ _ | exact hS9 _ _ | exact hS10 _ _ | exact hS11 _ _ | exact hS12 _ _ | exact hS13 _ _ | assumption | rfl) rfl ?_
  show pm_W _ _ _ _ [.int (pm_u I3 e 3 S.bk d 4), .ref e] (pm_u I3 e 3 S.bk, L, g_R s, 306) _ _
  rw [pu_o (by omega), o3 _ _ (by omega), h3]
  refine ps_pfi 5 4 rfl rfl rfl (by first | exact hS0 _ _ | exact hS1 _ _ | exact hS2 _ _ | exact hS3 _ _ | exact hS4 _ _ | exact hS5 _ _ | exact hS6 _ _ | exact hS7 _ _ | exact hS8 _ _ | exact hS9 _ _ | exact hS10 _ _ | exact hS11 _ _ | exact hS12 _ _ | exact hS13 _ _ | assumption | rfl) rfl ?_
  refine ps_vret rfl rfl ?_
  have o5 : ∀ a j, ¬ a = e → pm_u (pm_u I3 e 3 S.bk) e 4 S.us a j = I3 a j := fun a j h => (pu_o h).trans (pu_o h)
  refine kk _ (fun a j h => (o5 a j (by omega)).trans (o3 a j (by omega))) ⟨fun q hq => (o5 _ _ (by omega)).trans ?_, ?_, pu_s, fun q hq k hk j hj => (o5 _ _ (by omega)).trans ?_⟩
  · rcases q3 hq with rfl | rfl | rfl
    · exact (a3 _ _ (by omega)).trans ((a2 _ _ (by omega)).trans c1)
    · exact (a3 _ _ (by omega)).trans c2
    · exact c3
  · show pm_u (pm_u I3 e 3 S.bk) e 4 S.us e 3 = _
    rw [pu_n (by decide)]
    exact pu_s
  · rcases q3 hq with rfl | rfl | rfl
    · exact (a3 _ _ (by omega)).trans ((a2 _ _ (by omega)).trans ((r1 j hj k hk).trans (h4 0 (by omega) k hk j hj)))
    · exact (a3 _ _ (by omega)).trans ((r2 j hj k hk).trans ((a1 _ _ (by omega)).trans (h4 1 (by omega) k hk j hj)))
    · exact (r3 j hj k hk).trans ((a2 _ _ (by omega)).trans ((a1 _ _ (by omega)).trans (h4 2 (by omega) k hk j hj)))
/-- the class's ring: m scenes, the oldest one first -/
def cHs (H : Nat → sS) (m f : Nat) (I : Nat → Nat → Int32) : Prop := f < 12 ∧ m ≤ 12 ∧ I 12 1 = nI f ∧ I 12 2 = nI m ∧ ∀ i, i < m → cSc (14 + 13 * ((f + i) % 12)) (H i) I
/-- one more; the oldest one makes room -/
def psh (H : Nat → sS) (m : Nat) (S : sS) : Nat → sS := fun i => if m < 12 then (if i = m then S else H i) else (if i = 11 then S else H (i + 1))
/-- outside the ring all stays -/
def hAg (I I' : Nat → Nat → Int32) : Prop := ∀ a j : Nat, ¬ (12 ≤ a ∧ a ≤ 169) → I' a j = I a j
theorem ring_F : (∀ I L, pm_sh (g_P ys) (I, L, g_R s, 306) 13 = some (.inr (9, 12))) ∧ ∀ k, k < 12 → g_R s 13 k = some (14 + 13 * k) := by
  refine ⟨fun _ _ => rfl, fun k hk => ?_⟩
  rcases (show k = 0 ∨ k = 1 ∨ k = 2 ∨ k = 3 ∨ k = 4 ∨ k = 5 ∨ k = 6 ∨ k = 7 ∨ k = 8 ∨ k = 9 ∨ k = 10 ∨ k = 11 by omega) with rfl | rfl | rfl | rfl | rfl | rfl | rfl | rfl | rfl | rfl | rfl | rfl <;> rfl
end SB
