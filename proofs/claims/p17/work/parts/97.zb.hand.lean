/-! BY HAND: how the class reads a text, exactly, fifth: things, what is told -/
section LB
variable {I I' J : Nat → Nat → Int32} {L : Nat → Nat → Int64} {s : Nat → Option Nat} {Q : List Value → pm_H → Prop} {ys : List Int32} {B : sB} {b n c t p : Nat} {T : Nat → Int32}
theorem mkO_b {q : Nat} (hq : q < 3) : mkO q = 3 + 4 * q := by rcases q3 hq with rfl | rfl | rfl <;> rfl
def apdI (I : Nat → Nat → Int32) (m n : Nat) (x y z : Int32) : Nat → Nat → Int32 := pm_u (pm_u (pm_u (pm_u I (m + 1) n x) (m + 2) n y) (m + 3) n z) m 3 (nI (n + 1))
theorem B_appendX {q : Nat} (hb : isB b) (hq : q < 3) (ok : B.ok) (hn : I (b + mkO q) 3 = nI (B.n q)) (lt : B.n q < mst q) (x y z : Int32) (kk : Q [] (apdI I (b + mkO q) (B.n q) x y z, L, g_R s, 306)) : pm_W (g_P ys) 76 0 [.ref (b + mkO q), .int x, .int y, .int z] [] (I, L, g_R s, 306) (0, 0) Q := by
  obtain ⟨hS0, hS1, hS2, hS3, hR0, hR1, hR2⟩ := mk_F (ys := ys) (s := s) hb hq
  have m12 : mst q ≤ 12 := by rcases q3 hq with rfl | rfl | rfl <;> decide
  obtain ⟨m, hm⟩ : ∃ m, m = b + mkO q := ⟨_, rfl⟩
  have nb : Nat.blt (mst q) 2147483648 = true := Nat.blt_eq.mpr (by omega)
  refine ps_aload rfl rfl ?_
  refine pv_k rfl rfl rfl rfl rfl (hS0 _ _) rfl ⟨Nat.zero_le _, Nat.zero_le _⟩ ?_
  refine B_isFullX hb hq hn ok ?_
  rw [decide_eq_false (fun q => q lt)]
  rw [← hm] at hS0 hS1 hS2 hS3 hR0 hR1 hR2 hn ⊢
  refine ps_ift rfl (rfl) ?_
  refine ps_aload rfl rfl ?_
  refine ps_gfr 6 0 rfl rfl rfl (by first | exact hS0 _ _ | exact hS1 _ _ | exact hS2 _ _ | exact hS3 _ _ | exact hS4 _ _ | exact hS5 _ _ | exact hS6 _ _ | exact hS7 _ _ | exact hS8 _ _ | exact hS9 _ _ | exact hS10 _ _ | exact hS11 _ _ | exact hS12 _ _ | exact hS13 _ _ | assumption | rfl) rfl (by first | assumption | rfl) ?_
  refine ps_aload rfl rfl ?_
  refine ps_gfi 6 3 rfl rfl rfl (by first | exact hS0 _ _ | exact hS1 _ _ | exact hS2 _ _ | exact hS3 _ _ | exact hS4 _ _ | exact hS5 _ _ | exact hS6 _ _ | exact hS7 _ _ | exact hS8 _ _ | exact hS9 _ _ | exact hS10 _ _ | exact hS11 _ _ | exact hS12 _ _ | exact hS13 _ _ | assumption | rfl) rfl ?_
  rw [show ((I, L, g_R s, 306) : pm_H).1 m 3 = nI (B.n q) from hn]
  refine ps_iload rfl rfl ?_
  refine ps_iast (B.n q) rfl (hS1 _ _) nb rfl lt ?_
  refine ps_aload rfl rfl ?_
  refine ps_gfr 6 1 rfl rfl rfl (by first | exact hS0 _ _ | exact hS1 _ _ | exact hS2 _ _ | exact hS3 _ _ | exact hS4 _ _ | exact hS5 _ _ | exact hS6 _ _ | exact hS7 _ _ | exact hS8 _ _ | exact hS9 _ _ | exact hS10 _ _ | exact hS11 _ _ | exact hS12 _ _ | exact hS13 _ _ | assumption | rfl) rfl (by first | assumption | rfl) ?_
  refine ps_aload rfl rfl ?_
  refine ps_gfi 6 3 rfl rfl rfl (by first | exact hS0 _ _ | exact hS1 _ _ | exact hS2 _ _ | exact hS3 _ _ | exact hS4 _ _ | exact hS5 _ _ | exact hS6 _ _ | exact hS7 _ _ | exact hS8 _ _ | exact hS9 _ _ | exact hS10 _ _ | exact hS11 _ _ | exact hS12 _ _ | exact hS13 _ _ | assumption | rfl) rfl ?_
  show pm_W _ _ _ _ [.int (pm_u I (m + 1) (B.n q) x m 3), .ref (m + 2)] (pm_u I (m + 1) (B.n q) x, L, g_R s, 306) _ _
  rw [pu_o (by omega), hn]
  refine ps_iload rfl rfl ?_
  refine ps_iast (B.n q) rfl (hS2 _ _) nb rfl lt ?_
  refine ps_aload rfl rfl ?_
  refine ps_gfr 6 2 rfl rfl rfl (by first | exact hS0 _ _ | exact hS1 _ _ | exact hS2 _ _ | exact hS3 _ _ | exact hS4 _ _ | exact hS5 _ _ | exact hS6 _ _ | exact hS7 _ _ | exact hS8 _ _ | exact hS9 _ _ | exact hS10 _ _ | exact hS11 _ _ | exact hS12 _ _ | exact hS13 _ _ | assumption | rfl) rfl (by first | assumption | rfl) ?_
  refine ps_aload rfl rfl ?_
  refine ps_gfi 6 3 rfl rfl rfl (by first | exact hS0 _ _ | exact hS1 _ _ | exact hS2 _ _ | exact hS3 _ _ | exact hS4 _ _ | exact hS5 _ _ | exact hS6 _ _ | exact hS7 _ _ | exact hS8 _ _ | exact hS9 _ _ | exact hS10 _ _ | exact hS11 _ _ | exact hS12 _ _ | exact hS13 _ _ | assumption | rfl) rfl ?_
  show pm_W _ _ _ _ [.int (pm_u (pm_u I (m + 1) (B.n q) x) (m + 2) (B.n q) y m 3), .ref (m + 3)] (pm_u (pm_u I (m + 1) (B.n q) x) (m + 2) (B.n q) y, L, g_R s, 306) _ _
  rw [pu_o (by omega), pu_o (by omega), hn]
  refine ps_iload rfl rfl ?_
  refine ps_iast (B.n q) rfl (hS3 _ _) nb rfl lt ?_
  refine ps_aload rfl rfl ?_
  refine ps_ar rfl rfl rfl rfl rfl ?_
  refine ps_gfi 6 3 rfl rfl rfl (by first | exact hS0 _ _ | exact hS1 _ _ | exact hS2 _ _ | exact hS3 _ _ | exact hS4 _ _ | exact hS5 _ _ | exact hS6 _ _ | exact hS7 _ _ | exact hS8 _ _ | exact hS9 _ _ | exact hS10 _ _ | exact hS11 _ _ | exact hS12 _ _ | exact hS13 _ _ | assumption | rfl) rfl ?_
  show pm_W _ _ _ _ [.int (pm_u (pm_u (pm_u I (m + 1) (B.n q) x) (m + 2) (B.n q) y) (m + 3) (B.n q) z m 3), .ref m] (pm_u (pm_u (pm_u I (m + 1) (B.n q) x) (m + 2) (B.n q) y) (m + 3) (B.n q) z, L, g_R s, 306) _ _
  rw [pu_o (by omega), pu_o (by omega), pu_o (by omega), hn]
  refine pw_c rfl ?_
  refine ps_ar rfl rfl rfl rfl rfl ?_
  rw [show nI (B.n q) + (1 : Int32) = nI (B.n q + 1) from nI_1 _]
  refine ps_pfi 6 3 rfl rfl rfl (by first | exact hS0 _ _ | exact hS1 _ _ | exact hS2 _ _ | exact hS3 _ _ | exact hS4 _ _ | exact hS5 _ _ | exact hS6 _ _ | exact hS7 _ _ | exact hS8 _ _ | exact hS9 _ _ | exact hS10 _ _ | exact hS11 _ _ | exact hS12 _ _ | exact hS13 _ _ | assumption | rfl) rfl ?_
  refine ps_vret rfl rfl ?_
  rw [hm]
  exact kk
theorem apd_o {m n a j : Nat} {x y z : Int32} (h : ¬ (m ≤ a ∧ a ≤ m + 3)) : apdI I m n x y z a j = I a j := by
  unfold apdI
  rw [pu_o (by omega), pu_o (by omega), pu_o (by omega), pu_o (by omega)]
theorem apd_s {q : Nat} (hq : q < 3) (h : cBs b B I) (ok : B.ok) (lt : B.n q < mst q) {x y z : Int32} : cBs b (B.adT q x y z) (apdI I (b + mkO q) (B.n q) x y z) := by
  obtain ⟨h1, h2, h3, h4⟩ := h
  have mq := mkO_b hq
  refine ⟨fun r hr => ?_, (apd_o (by omega)).trans h2, (apd_o (by omega)).trans h3, fun r hr k hk j hj => ?_⟩
  · have mr := mkO_b hr
    show _ = nI (if r = q then B.n r + 1 else B.n r)
    by_cases e : r = q
    · subst e
      rw [if_pos rfl]
      exact pu_s
    · rw [if_neg e, apd_o (by omega)]
      exact h1 r hr
  · have mr := mkO_b hr
    have hk : k < (if r = q then B.n r + 1 else B.n r) := hk
    show _ = if r = q ∧ k = B.n r then (if j = 0 then x else if j = 1 then y else z) else B.sc r k j
    by_cases e : r = q
    · subst e
      rw [if_pos rfl] at hk
      unfold apdI
      rw [pu_o (by omega)]
      by_cases ek : k = B.n r
      · rw [if_pos ⟨rfl, ek⟩, ek]
        rcases q3 hj with rfl | rfl | rfl
        · rw [pu_o (by omega), pu_o (by omega), if_pos rfl]
          exact pu_s
        · rw [pu_o (by omega), if_neg (by omega), if_pos rfl]
          exact pu_s
        · rw [if_neg (by omega), if_neg (by omega)]
          exact pu_s
      · rw [if_neg (fun z => ek z.2), pu_x (by omega), pu_x (by omega), pu_x (by omega)]
        exact h4 r hr k (by omega) j hj
    · rw [if_neg e] at hk
      rw [if_neg (fun z => e z.1), apd_o (by omega)]
      exact h4 r hr k hk j hj
/-- where a scene's LINE writes -/
def cS (b : Nat) (I I' : Nat → Nat → Int32) : Prop := ∀ a j, ¬ (b + 2 ≤ a ∧ a ≤ b + 14) → I' a j = I a j
theorem B_finThingX {q : Nat} {w x y z : Int32} (hw : (q = 0 ∧ w = 8) ∨ (q = 1 ∧ w = 9 ∧ z = 0) ∨ (q = 2 ∧ w = 10)) (hb : isB b) (hS : cBs b B I) (ok : B.ok) (lt : B.n q < mst q) (g0 : I 11 0 = x) (g1 : I 11 1 = y) (g2 : ¬ q = 1 → I 11 2 = z) (kk : ∀ I', cS b I I' → cBs b (B.adT q x y z) I' → Q [] (I', L, g_R s, 306)) : pm_W (g_P ys) 75 0 [.ref 5, .int w, .ref (b + 2)] [] (I, L, g_R s, 306) (0, 0) Q := by
  obtain ⟨hS0, hS1, hS2, hS3, hS4, hR0, hR1, hR2, hR3, hR4, hR5, hR6, hR7⟩ := bn_F (ys := ys) (s := s) hb
  have hS5 := (mk_F (ys := ys) (s := s) hb (q := 0) (by omega)).1
  have hS6 := (mk_F (ys := ys) (s := s) hb (q := 1) (by omega)).1
  have hS7 := (mk_F (ys := ys) (s := s) hb (q := 2) (by omega)).1
  rcases hw with ⟨rfl, rfl⟩ | ⟨rfl, rfl, rfl⟩ | ⟨rfl, rfl⟩
  · have g2 := g2 (by decide)
    refine ps_iload rfl rfl ?_
    refine ps_brr rfl rfl rfl rfl rfl rfl ?_
    refine ps_aload rfl rfl ?_
    refine ps_gfr 5 0 rfl rfl rfl (by first | exact hS0 _ _ | exact hS1 _ _ | exact hS2 _ _ | exact hS3 _ _ | exact hS4 _ _ | exact hS5 _ _ | exact hS6 _ _ | exact hS7 _ _ | exact hS8 _ _ | exact hS9 _ _ | exact hS10 _ _ | exact hS11 _ _ | exact hS12 _ _ | exact hS13 _ _ | assumption | rfl) rfl (by first | assumption | rfl) ?_
    refine ps_aload rfl rfl ?_
    refine ps_gfr 2 1 rfl rfl rfl (by first | exact hS0 _ _ | exact hS1 _ _ | exact hS2 _ _ | exact hS3 _ _ | exact hS4 _ _ | exact hS5 _ _ | exact hS6 _ _ | exact hS7 _ _ | exact hS8 _ _ | exact hS9 _ _ | exact hS10 _ _ | exact hS11 _ _ | exact hS12 _ _ | exact hS13 _ _ | assumption | rfl) rfl (by first | assumption | rfl) ?_
    refine pw_c rfl ?_
    refine ps_iald (0) rfl (by first | exact hS0 _ _ | exact hS1 _ _ | exact hS2 _ _ | exact hS3 _ _ | exact hS4 _ _ | exact hS5 _ _ | exact hS6 _ _ | exact hS7 _ _ | exact hS8 _ _ | exact hS9 _ _ | exact hS10 _ _ | exact hS11 _ _ | exact hS12 _ _ | exact hS13 _ _ | assumption | rfl) rfl (rfl) (by omega) ?_
    rw [show ((I, L, g_R s, 306) : pm_H).1 11 0 = x from g0]
    refine ps_aload rfl rfl ?_
    refine ps_gfr 2 1 rfl rfl rfl (by first | exact hS0 _ _ | exact hS1 _ _ | exact hS2 _ _ | exact hS3 _ _ | exact hS4 _ _ | exact hS5 _ _ | exact hS6 _ _ | exact hS7 _ _ | exact hS8 _ _ | exact hS9 _ _ | exact hS10 _ _ | exact hS11 _ _ | exact hS12 _ _ | exact hS13 _ _ | assumption | rfl) rfl (by first | assumption | rfl) ?_
    refine pw_c rfl ?_
    refine ps_iald (1) rfl (by first | exact hS0 _ _ | exact hS1 _ _ | exact hS2 _ _ | exact hS3 _ _ | exact hS4 _ _ | exact hS5 _ _ | exact hS6 _ _ | exact hS7 _ _ | exact hS8 _ _ | exact hS9 _ _ | exact hS10 _ _ | exact hS11 _ _ | exact hS12 _ _ | exact hS13 _ _ | assumption | rfl) rfl (rfl) (by omega) ?_
    rw [show ((I, L, g_R s, 306) : pm_H).1 11 1 = y from g1]
    refine ps_aload rfl rfl ?_
    refine ps_gfr 2 1 rfl rfl rfl (by first | exact hS0 _ _ | exact hS1 _ _ | exact hS2 _ _ | exact hS3 _ _ | exact hS4 _ _ | exact hS5 _ _ | exact hS6 _ _ | exact hS7 _ _ | exact hS8 _ _ | exact hS9 _ _ | exact hS10 _ _ | exact hS11 _ _ | exact hS12 _ _ | exact hS13 _ _ | assumption | rfl) rfl (by first | assumption | rfl) ?_
    refine pw_c rfl ?_
    refine ps_iald (2) rfl (by first | exact hS0 _ _ | exact hS1 _ _ | exact hS2 _ _ | exact hS3 _ _ | exact hS4 _ _ | exact hS5 _ _ | exact hS6 _ _ | exact hS7 _ _ | exact hS8 _ _ | exact hS9 _ _ | exact hS10 _ _ | exact hS11 _ _ | exact hS12 _ _ | exact hS13 _ _ | assumption | rfl) rfl (rfl) (by omega) ?_
    rw [show ((I, L, g_R s, 306) : pm_H).1 11 2 = z from g2]
    refine pv_k rfl rfl rfl rfl rfl (hS5 _ _) rfl ⟨Nat.zero_le _, Nat.zero_le _⟩ ?_
    refine B_appendX hb (q := 0) (by omega) ok (hS.1 0 (by omega)) lt x y z ?_
    refine ps_goto rfl ?_
    refine ps_vret rfl rfl ?_
    exact kk _ (fun a j n => apd_o (by show ¬ (b + 3 ≤ a ∧ a ≤ b + 3 + 3); omega)) (apd_s (by omega) hS ok lt)
  · refine ps_iload rfl rfl ?_
    refine ps_brr rfl rfl rfl rfl rfl rfl ?_
    refine ps_aload rfl rfl ?_
    refine ps_gfr 5 1 rfl rfl rfl (by first | exact hS0 _ _ | exact hS1 _ _ | exact hS2 _ _ | exact hS3 _ _ | exact hS4 _ _ | exact hS5 _ _ | exact hS6 _ _ | exact hS7 _ _ | exact hS8 _ _ | exact hS9 _ _ | exact hS10 _ _ | exact hS11 _ _ | exact hS12 _ _ | exact hS13 _ _ | assumption | rfl) rfl (by first | assumption | rfl) ?_
    refine ps_aload rfl rfl ?_
    refine ps_gfr 2 1 rfl rfl rfl (by first | exact hS0 _ _ | exact hS1 _ _ | exact hS2 _ _ | exact hS3 _ _ | exact hS4 _ _ | exact hS5 _ _ | exact hS6 _ _ | exact hS7 _ _ | exact hS8 _ _ | exact hS9 _ _ | exact hS10 _ _ | exact hS11 _ _ | exact hS12 _ _ | exact hS13 _ _ | assumption | rfl) rfl (by first | assumption | rfl) ?_
    refine pw_c rfl ?_
    refine ps_iald (0) rfl (by first | exact hS0 _ _ | exact hS1 _ _ | exact hS2 _ _ | exact hS3 _ _ | exact hS4 _ _ | exact hS5 _ _ | exact hS6 _ _ | exact hS7 _ _ | exact hS8 _ _ | exact hS9 _ _ | exact hS10 _ _ | exact hS11 _ _ | exact hS12 _ _ | exact hS13 _ _ | assumption | rfl) rfl (rfl) (by omega) ?_
    rw [show ((I, L, g_R s, 306) : pm_H).1 11 0 = x from g0]
    refine ps_aload rfl rfl ?_
    refine ps_gfr 2 1 rfl rfl rfl (by first | exact hS0 _ _ | exact hS1 _ _ | exact hS2 _ _ | exact hS3 _ _ | exact hS4 _ _ | exact hS5 _ _ | exact hS6 _ _ | exact hS7 _ _ | exact hS8 _ _ | exact hS9 _ _ | exact hS10 _ _ | exact hS11 _ _ | exact hS12 _ _ | exact hS13 _ _ | assumption | rfl) rfl (by first | assumption | rfl) ?_
    refine pw_c rfl ?_
    refine ps_iald (1) rfl (by first | exact hS0 _ _ | exact hS1 _ _ | exact hS2 _ _ | exact hS3 _ _ | exact hS4 _ _ | exact hS5 _ _ | exact hS6 _ _ | exact hS7 _ _ | exact hS8 _ _ | exact hS9 _ _ | exact hS10 _ _ | exact hS11 _ _ | exact hS12 _ _ | exact hS13 _ _ | assumption | rfl) rfl (rfl) (by omega) ?_
    rw [show ((I, L, g_R s, 306) : pm_H).1 11 1 = y from g1]
    refine pw_c rfl ?_
    refine pv_k rfl rfl rfl rfl rfl (hS6 _ _) rfl ⟨Nat.zero_le _, Nat.zero_le _⟩ ?_
    refine B_appendX hb (q := 1) (by omega) ok (hS.1 1 (by omega)) lt x y 0 ?_
    refine ps_goto rfl ?_
    refine ps_vret rfl rfl ?_
    exact kk _ (fun a j n => apd_o (by show ¬ (b + 7 ≤ a ∧ a ≤ b + 7 + 3); omega)) (apd_s (by omega) hS ok lt)
  · have g2 := g2 (by decide)
    refine ps_iload rfl rfl ?_
    refine ps_brr rfl rfl rfl rfl rfl rfl ?_
    refine ps_aload rfl rfl ?_
    refine ps_gfr 5 2 rfl rfl rfl (by first | exact hS0 _ _ | exact hS1 _ _ | exact hS2 _ _ | exact hS3 _ _ | exact hS4 _ _ | exact hS5 _ _ | exact hS6 _ _ | exact hS7 _ _ | exact hS8 _ _ | exact hS9 _ _ | exact hS10 _ _ | exact hS11 _ _ | exact hS12 _ _ | exact hS13 _ _ | assumption | rfl) rfl (by first | assumption | rfl) ?_
    refine ps_aload rfl rfl ?_
    refine ps_gfr 2 1 rfl rfl rfl (by first | exact hS0 _ _ | exact hS1 _ _ | exact hS2 _ _ | exact hS3 _ _ | exact hS4 _ _ | exact hS5 _ _ | exact hS6 _ _ | exact hS7 _ _ | exact hS8 _ _ | exact hS9 _ _ | exact hS10 _ _ | exact hS11 _ _ | exact hS12 _ _ | exact hS13 _ _ | assumption | rfl) rfl (by first | assumption | rfl) ?_
    refine pw_c rfl ?_
    refine ps_iald (0) rfl (by first | exact hS0 _ _ | exact hS1 _ _ | exact hS2 _ _ | exact hS3 _ _ | exact hS4 _ _ | exact hS5 _ _ | exact hS6 _ _ | exact hS7 _ _ | exact hS8 _ _ | exact hS9 _ _ | exact hS10 _ _ | exact hS11 _ _ | exact hS12 _ _ | exact hS13 _ _ | assumption | rfl) rfl (rfl) (by omega) ?_
    rw [show ((I, L, g_R s, 306) : pm_H).1 11 0 = x from g0]
    refine ps_aload rfl rfl ?_
    refine ps_gfr 2 1 rfl rfl rfl (by first | exact hS0 _ _ | exact hS1 _ _ | exact hS2 _ _ | exact hS3 _ _ | exact hS4 _ _ | exact hS5 _ _ | exact hS6 _ _ | exact hS7 _ _ | exact hS8 _ _ | exact hS9 _ _ | exact hS10 _ _ | exact hS11 _ _ | exact hS12 _ _ | exact hS13 _ _ | assumption | rfl) rfl (by first | assumption | rfl) ?_
    refine pw_c rfl ?_
    refine ps_iald (1) rfl (by first | exact hS0 _ _ | exact hS1 _ _ | exact hS2 _ _ | exact hS3 _ _ | exact hS4 _ _ | exact hS5 _ _ | exact hS6 _ _ | exact hS7 _ _ | exact hS8 _ _ | exact hS9 _ _ | exact hS10 _ _ | exact hS11 _ _ | exact hS12 _ _ | exact hS13 _ _ | assumption | rfl) rfl (rfl) (by omega) ?_
    rw [show ((I, L, g_R s, 306) : pm_H).1 11 1 = y from g1]
    refine ps_aload rfl rfl ?_
    refine ps_gfr 2 1 rfl rfl rfl (by first | exact hS0 _ _ | exact hS1 _ _ | exact hS2 _ _ | exact hS3 _ _ | exact hS4 _ _ | exact hS5 _ _ | exact hS6 _ _ | exact hS7 _ _ | exact hS8 _ _ | exact hS9 _ _ | exact hS10 _ _ | exact hS11 _ _ | exact hS12 _ _ | exact hS13 _ _ | assumption | rfl) rfl (by first | assumption | rfl) ?_
    refine pw_c rfl ?_
    refine ps_iald (2) rfl (by first | exact hS0 _ _ | exact hS1 _ _ | exact hS2 _ _ | exact hS3 _ _ | exact hS4 _ _ | exact hS5 _ _ | exact hS6 _ _ | exact hS7 _ _ | exact hS8 _ _ | exact hS9 _ _ | exact hS10 _ _ | exact hS11 _ _ | exact hS12 _ _ | exact hS13 _ _ | assumption | rfl) rfl (rfl) (by omega) ?_
    rw [show ((I, L, g_R s, 306) : pm_H).1 11 2 = z from g2]
    refine pv_k rfl rfl rfl rfl rfl (hS7 _ _) rfl ⟨Nat.zero_le _, Nat.zero_le _⟩ ?_
    refine B_appendX hb (q := 2) (by omega) ok (hS.1 2 (by omega)) lt x y z ?_
    refine ps_goto rfl ?_
    refine ps_vret rfl rfl ?_
    exact kk _ (fun a j n => apd_o (by show ¬ (b + 11 ≤ a ∧ a ≤ b + 11 + 3); omega)) (apd_s (by omega) hS ok lt)
theorem cBs_5 {x : Int32} {i : Nat} {B' : sB} (hB : cBs b B I) (e3 : B'.n = B.n) (e4 : B'.sc = B.sc) (hi : i = 3 ∨ i = 4) (e5 : B'.bk = if i = 3 then x else B.bk) (e6 : B'.us = if i = 4 then x else B.us) : cBs b B' (pm_u I (b + 2) i x) := by
  obtain ⟨h1, h2, h3, h4⟩ := hB
  unfold cBs
  rw [e3, e4, e5, e6]
  refine ⟨fun q hq => (pu_o (by have := mkO_b hq; omega)).trans (h1 q hq), ?_, ?_, fun q hq k hk j hj => (pu_o (by have := mkO_b hq; omega)).trans (h4 q hq k hk j hj)⟩
  · by_cases z : i = 3
    · rw [if_pos z, z, pu_s]
    · rw [if_neg z, pu_n (by omega)]
      exact h2
  · by_cases z : i = 4
    · rw [if_pos z, z, pu_s]
    · rw [if_neg z, pu_n (by omega)]
      exact h3
theorem B_finBackX {x : Int32} (hb : isB b) (hS : cBs b B I) (g0 : I 11 0 = x) (kk : ∀ I', cS b I I' → cBs b (B.ps, B.pl, B.n, B.sc, x, B.us) I' → Q [] (I', L, g_R s, 306)) : pm_W (g_P ys) 75 0 [.ref 5, .int 11, .ref (b + 2)] [] (I, L, g_R s, 306) (0, 0) Q := by
  obtain ⟨hS0, hS1, hS2, hS3, hS4, hR0, hR1, hR2, hR3, hR4, hR5, hR6, hR7⟩ := bn_F (ys := ys) (s := s) hb
  refine ps_iload rfl rfl ?_
  refine ps_brr rfl rfl rfl rfl rfl rfl ?_
  refine ps_aload rfl rfl ?_
  refine ps_aload rfl rfl ?_
  refine ps_gfr 2 1 rfl rfl rfl (by first | exact hS0 _ _ | exact hS1 _ _ | exact hS2 _ _ | exact hS3 _ _ | exact hS4 _ _ | exact hS5 _ _ | exact hS6 _ _ | exact hS7 _ _ | exact hS8 _ _ | exact hS9 _ _ | exact hS10 _ _ | exact hS11 _ _ | exact hS12 _ _ | exact hS13 _ _ | assumption | rfl) rfl (by first | assumption | rfl) ?_
  refine pw_c rfl ?_
  refine ps_iald (0) rfl (by first | exact hS0 _ _ | exact hS1 _ _ | exact hS2 _ _ | exact hS3 _ _ | exact hS4 _ _ | exact hS5 _ _ | exact hS6 _ _ | exact hS7 _ _ | exact hS8 _ _ | exact hS9 _ _ | exact hS10 _ _ | exact hS11 _ _ | exact hS12 _ _ | exact hS13 _ _ | assumption | rfl) rfl (rfl) (by omega) ?_
  rw [show ((I, L, g_R s, 306) : pm_H).1 11 0 = x from g0]
  refine ps_pfi 5 3 rfl rfl rfl (by first | exact hS0 _ _ | exact hS1 _ _ | exact hS2 _ _ | exact hS3 _ _ | exact hS4 _ _ | exact hS5 _ _ | exact hS6 _ _ | exact hS7 _ _ | exact hS8 _ _ | exact hS9 _ _ | exact hS10 _ _ | exact hS11 _ _ | exact hS12 _ _ | exact hS13 _ _ | assumption | rfl) rfl ?_
  refine ps_goto rfl ?_
  refine ps_vret rfl rfl ?_
  exact kk _ (fun a j n => pu_o (by omega)) (cBs_5 (B' := (B.ps, B.pl, B.n, B.sc, x, B.us)) hS rfl rfl (Or.inl rfl) rfl rfl)
theorem B_finUseX {x : Int32} (hb : isB b) (hS : cBs b B I) (g0 : I 11 0 = x) (kk : ∀ I', cS b I I' → cBs b (B.ps, B.pl, B.n, B.sc, B.bk, x) I' → Q [] (I', L, g_R s, 306)) : pm_W (g_P ys) 75 0 [.ref 5, .int 12, .ref (b + 2)] [] (I, L, g_R s, 306) (0, 0) Q := by
  obtain ⟨hS0, hS1, hS2, hS3, hS4, hR0, hR1, hR2, hR3, hR4, hR5, hR6, hR7⟩ := bn_F (ys := ys) (s := s) hb
  refine ps_iload rfl rfl ?_
  refine ps_brr rfl rfl rfl rfl rfl rfl ?_
  refine ps_aload rfl rfl ?_
  refine ps_aload rfl rfl ?_
  refine ps_gfr 2 1 rfl rfl rfl (by first | exact hS0 _ _ | exact hS1 _ _ | exact hS2 _ _ | exact hS3 _ _ | exact hS4 _ _ | exact hS5 _ _ | exact hS6 _ _ | exact hS7 _ _ | exact hS8 _ _ | exact hS9 _ _ | exact hS10 _ _ | exact hS11 _ _ | exact hS12 _ _ | exact hS13 _ _ | assumption | rfl) rfl (by first | assumption | rfl) ?_
  refine pw_c rfl ?_
  refine ps_iald (0) rfl (by first | exact hS0 _ _ | exact hS1 _ _ | exact hS2 _ _ | exact hS3 _ _ | exact hS4 _ _ | exact hS5 _ _ | exact hS6 _ _ | exact hS7 _ _ | exact hS8 _ _ | exact hS9 _ _ | exact hS10 _ _ | exact hS11 _ _ | exact hS12 _ _ | exact hS13 _ _ | assumption | rfl) rfl (rfl) (by omega) ?_
  rw [show ((I, L, g_R s, 306) : pm_H).1 11 0 = x from g0]
  refine ps_pfi 5 4 rfl rfl rfl (by first | exact hS0 _ _ | exact hS1 _ _ | exact hS2 _ _ | exact hS3 _ _ | exact hS4 _ _ | exact hS5 _ _ | exact hS6 _ _ | exact hS7 _ _ | exact hS8 _ _ | exact hS9 _ _ | exact hS10 _ _ | exact hS11 _ _ | exact hS12 _ _ | exact hS13 _ _ | assumption | rfl) rfl ?_
  refine ps_vret rfl rfl ?_
  exact kk _ (fun a j n => pu_o (by omega)) (cBs_5 (B' := (B.ps, B.pl, B.n, B.sc, B.bk, x)) hS rfl rfl (Or.inr rfl) rfl rfl)
/-- what was told grows -/
def tF (b : Nat) (I I' : Nat → Nat → Int32) : Prop := ∀ a j, ¬ a = b + 15 → ¬ a = b + 16 → I' a j = I a j
theorem tF_0 : tF b I I := fun _ _ _ _ => rfl
theorem tF_t {I'' : Nat → Nat → Int32} (h : tF b I I') (k : tF b I' I'') : tF b I I'' := fun a j h1 h2 => (k a j h1 h2).trans (h a j h1 h2)
theorem B_putT (hb : isB b) (hl : cBt b I) (x : Int32) (kk : ∀ I', tF b I I' → cBt b I' → Q [] (I', L, g_R s, 306)) : pm_W (g_P ys) 16 0 [.ref (b + 15), .int x] [] (I, L, g_R s, 306) (0, 0) Q := by
  obtain ⟨hS0, hS1, hS2, hS3, hS4, hR0, hR1, hR2, hR3, hR4, hR5, hR6, hR7⟩ := bn_F (ys := ys) (s := s) hb
  obtain ⟨l, l8, hl⟩ := hl
  refine ps_aload rfl rfl ?_
  refine ps_gfi 1 1 rfl rfl rfl (by first | exact hS0 _ _ | exact hS1 _ _ | exact hS2 _ _ | exact hS3 _ _ | exact hS4 _ _ | exact hS5 _ _ | exact hS6 _ _ | exact hS7 _ _ | exact hS8 _ _ | exact hS9 _ _ | exact hS10 _ _ | exact hS11 _ _ | exact hS12 _ _ | exact hS13 _ _ | assumption | rfl) rfl ?_
  rw [show ((I, L, g_R s, 306) : pm_H).1 (b + 15) 1 = nI l from hl]
  refine ps_aload rfl rfl ?_
  refine ps_gfr 1 0 rfl rfl rfl (by first | exact hS0 _ _ | exact hS1 _ _ | exact hS2 _ _ | exact hS3 _ _ | exact hS4 _ _ | exact hS5 _ _ | exact hS6 _ _ | exact hS7 _ _ | exact hS8 _ _ | exact hS9 _ _ | exact hS10 _ _ | exact hS11 _ _ | exact hS12 _ _ | exact hS13 _ _ | assumption | rfl) rfl (by first | assumption | rfl) ?_
  refine ps_alen rfl (by first | exact hS0 _ _ | exact hS1 _ _ | exact hS2 _ _ | exact hS3 _ _ | exact hS4 _ _ | exact hS5 _ _ | exact hS6 _ _ | exact hS7 _ _ | exact hS8 _ _ | exact hS9 _ _ | exact hS10 _ _ | exact hS11 _ _ | exact hS12 _ _ | exact hS13 _ _ | assumption | rfl) ?_
  by_cases e : l < 812
  · refine ps_icmpf rfl (decide_eq_false (nI_ge (by omega) (by omega))) ?_
    refine ps_aload rfl rfl ?_
    refine ps_gfr 1 0 rfl rfl rfl (by first | exact hS0 _ _ | exact hS1 _ _ | exact hS2 _ _ | exact hS3 _ _ | exact hS4 _ _ | exact hS5 _ _ | exact hS6 _ _ | exact hS7 _ _ | exact hS8 _ _ | exact hS9 _ _ | exact hS10 _ _ | exact hS11 _ _ | exact hS12 _ _ | exact hS13 _ _ | assumption | rfl) rfl (by first | assumption | rfl) ?_
    refine ps_aload rfl rfl ?_
    refine ps_gfi 1 1 rfl rfl rfl (by first | exact hS0 _ _ | exact hS1 _ _ | exact hS2 _ _ | exact hS3 _ _ | exact hS4 _ _ | exact hS5 _ _ | exact hS6 _ _ | exact hS7 _ _ | exact hS8 _ _ | exact hS9 _ _ | exact hS10 _ _ | exact hS11 _ _ | exact hS12 _ _ | exact hS13 _ _ | assumption | rfl) rfl ?_
    rw [show ((I, L, g_R s, 306) : pm_H).1 (b + 15) 1 = nI l from hl]
    refine ps_iload rfl rfl ?_
    refine ps_iast (l) rfl (by first | exact hS0 _ _ | exact hS1 _ _ | exact hS2 _ _ | exact hS3 _ _ | exact hS4 _ _ | exact hS5 _ _ | exact hS6 _ _ | exact hS7 _ _ | exact hS8 _ _ | exact hS9 _ _ | exact hS10 _ _ | exact hS11 _ _ | exact hS12 _ _ | exact hS13 _ _ | assumption | rfl) rfl (rfl) (e) ?_
    refine ps_aload rfl rfl ?_
    refine ps_ar rfl rfl rfl rfl rfl ?_
    refine ps_gfi 1 1 rfl rfl rfl (by first | exact hS0 _ _ | exact hS1 _ _ | exact hS2 _ _ | exact hS3 _ _ | exact hS4 _ _ | exact hS5 _ _ | exact hS6 _ _ | exact hS7 _ _ | exact hS8 _ _ | exact hS9 _ _ | exact hS10 _ _ | exact hS11 _ _ | exact hS12 _ _ | exact hS13 _ _ | assumption | rfl) rfl ?_
    show pm_W _ _ _ _ [.int (pm_u I (b + 16) l x (b + 15) 1), .ref (b + 15)] (pm_u I (b + 16) l x, L, g_R s, 306) _ _
    rw [pu_o (by omega), hl]
    refine pw_c rfl ?_
    refine ps_ar rfl rfl rfl rfl rfl ?_
    rw [show nI l + (1 : Int32) = nI (l + 1) from nI_1 l]
    refine ps_pfi 1 1 rfl rfl rfl (by first | exact hS0 _ _ | exact hS1 _ _ | exact hS2 _ _ | exact hS3 _ _ | exact hS4 _ _ | exact hS5 _ _ | exact hS6 _ _ | exact hS7 _ _ | exact hS8 _ _ | exact hS9 _ _ | exact hS10 _ _ | exact hS11 _ _ | exact hS12 _ _ | exact hS13 _ _ | assumption | rfl) rfl ?_
    refine ps_vret rfl rfl ?_
    exact kk _ (fun a j h1 h2 => (pu_o h1).trans (pu_o h2)) ⟨l + 1, by omega, pu_s⟩
  · refine ps_icmpt rfl (decide_eq_true (nI_le (by omega) (by omega))) ?_
    refine ps_vret rfl rfl ?_
    exact kk _ tF_0 ⟨l, l8, hl⟩
theorem B_putBlankT (hb : isB b) (hl : cBt b I) (kk : ∀ I', tF b I I' → cBt b I' → Q [] (I', L, g_R s, 306)) : pm_W (g_P ys) 74 0 [.ref (b + 15)] [] (I, L, g_R s, 306) (0, 0) Q := by
  obtain ⟨hS0, hS1, hS2, hS3, hS4, hR0, hR1, hR2, hR3, hR4, hR5, hR6, hR7⟩ := bn_F (ys := ys) (s := s) hb
  have hl0 := hl
  obtain ⟨l, l8, hl⟩ := hl
  refine ps_aload rfl rfl ?_
  refine ps_gfi 1 1 rfl rfl rfl (by first | exact hS0 _ _ | exact hS1 _ _ | exact hS2 _ _ | exact hS3 _ _ | exact hS4 _ _ | exact hS5 _ _ | exact hS6 _ _ | exact hS7 _ _ | exact hS8 _ _ | exact hS9 _ _ | exact hS10 _ _ | exact hS11 _ _ | exact hS12 _ _ | exact hS13 _ _ | assumption | rfl) rfl ?_
  rw [show ((I, L, g_R s, 306) : pm_H).1 (b + 15) 1 = nI l from hl]
  by_cases e : l = 0
  · refine ps_ift rfl (by rw [e]; rfl) ?_
    refine ps_vret rfl rfl ?_
    exact kk _ tF_0 hl0
  · refine ps_iff rfl (decide_eq_false (fun z => by have z := (i_le _ _).mp z; rw [nI_toInt (by omega)] at z; have : (0 : Int32).toInt = 0 := rfl; omega)) ?_
    refine ps_aload rfl rfl ?_
    refine ps_gfr 1 0 rfl rfl rfl (by first | exact hS0 _ _ | exact hS1 _ _ | exact hS2 _ _ | exact hS3 _ _ | exact hS4 _ _ | exact hS5 _ _ | exact hS6 _ _ | exact hS7 _ _ | exact hS8 _ _ | exact hS9 _ _ | exact hS10 _ _ | exact hS11 _ _ | exact hS12 _ _ | exact hS13 _ _ | assumption | rfl) rfl (by first | assumption | rfl) ?_
    refine ps_aload rfl rfl ?_
    refine ps_gfi 1 1 rfl rfl rfl (by first | exact hS0 _ _ | exact hS1 _ _ | exact hS2 _ _ | exact hS3 _ _ | exact hS4 _ _ | exact hS5 _ _ | exact hS6 _ _ | exact hS7 _ _ | exact hS8 _ _ | exact hS9 _ _ | exact hS10 _ _ | exact hS11 _ _ | exact hS12 _ _ | exact hS13 _ _ | assumption | rfl) rfl ?_
    rw [show ((I, L, g_R s, 306) : pm_H).1 (b + 15) 1 = nI l from hl]
    refine pw_c rfl ?_
    refine ps_ar rfl rfl rfl rfl rfl ?_
    rw [show nI l - (1 : Int32) = nI (l - 1) from nI_sub (b := 1) (by omega)]
    refine ps_iald (l - 1) rfl (by first | exact hS0 _ _ | exact hS1 _ _ | exact hS2 _ _ | exact hS3 _ _ | exact hS4 _ _ | exact hS5 _ _ | exact hS6 _ _ | exact hS7 _ _ | exact hS8 _ _ | exact hS9 _ _ | exact hS10 _ _ | exact hS11 _ _ | exact hS12 _ _ | exact hS13 _ _ | assumption | rfl) rfl (rfl) (by omega) ?_
    refine pw_c rfl ?_
    refine ps_icmp rfl (fun h1 => ?_) (fun h1 => ?_)
    · refine ps_vret rfl rfl ?_
      exact kk _ tF_0 hl0
    · refine ps_aload rfl rfl ?_
      refine pw_c rfl ?_
      refine pv_k rfl rfl rfl rfl rfl (by first | exact hS0 _ _ | exact hS1 _ _ | exact hS2 _ _ | exact hS3 _ _ | exact hS4 _ _ | exact hS5 _ _ | exact hS6 _ _ | exact hS7 _ _ | exact hS8 _ _ | exact hS9 _ _ | exact hS10 _ _ | exact hS11 _ _ | exact hS12 _ _ | exact hS13 _ _ | assumption | rfl) rfl ⟨Nat.zero_le _, Nat.zero_le _⟩ ?_
      refine B_putT hb hl0 _ ?_
      intro I' f' l'
      refine ps_vret rfl rfl ?_
      exact kk _ f' l'
theorem B_tellLineX {u : Nat} (hb : isB b) (hc : cL b J I) (hu : I 5 3 = nI u) (S : stX (fun j => J 2 j) T J n c) (uc : u ≤ c) {t0 : Nat} (h0 : t0 ≤ u) (hl : cBt b I) (kk : ∀ I', tF b I I' → cBt b I' → Q [] (I', L, g_R s, 306)) : pm_W (g_P ys) 73 0 [.ref 5, .int (nI t0), .ref 1, .ref (b + 15), .retAddr 0, .retAddr 0] [] (I, L, g_R s, 306) (0, 0) Q := by
  obtain ⟨hS0, hS1, hS2, hS3, hS4, hR0, hR1, hR2, hR3, hR4, hR5, hR6, hR7⟩ := bn_F (ys := ys) (s := s) hb
  have bb := isB_b hb
  have hn8 := S.2.2
  have cn : c ≤ n := S.1.2.1
  have outer : ∀ d t I' (u5 : Value), t + d = u → tF b I I' → cBt b I' → pm_W (g_P ys) 73 3 [.ref 5, .int (nI t0), .ref 1, .ref (b + 15), .int (nI t), u5] [] (I', L, g_R s, 306) (0, 0) Q := by
    intro d
    induction d with
    | zero =>
      intro t I' u5 ht f l
      refine ps_iload rfl rfl ?_
      refine ps_aload rfl rfl ?_
      refine ps_gfi 2 3 rfl rfl rfl (by first | exact hS0 _ _ | exact hS1 _ _ | exact hS2 _ _ | exact hS3 _ _ | exact hS4 _ _ | exact hS5 _ _ | exact hS6 _ _ | exact hS7 _ _ | exact hS8 _ _ | exact hS9 _ _ | exact hS10 _ _ | exact hS11 _ _ | exact hS12 _ _ | exact hS13 _ _ | assumption | rfl) rfl ?_
      rw [show ((I', L, g_R s, 306) : pm_H).1 5 3 = nI u from (f _ _ (by omega) (by omega)).trans hu]
      refine ps_icmpt rfl (decide_eq_true (nI_le (by omega) (by omega))) ?_
      refine ps_vret rfl rfl ?_
      exact kk _ f l
    | succ d ih =>
      intro t I' u5 ht f l
      obtain ⟨q, e, d1, d2, _, _, _, _, d7, d8, _⟩ := S.1.1 t (by omega)
      have rr : ∀ I' : Nat → Nat → Int32, tF b I I' → ∀ a j, a ≤ 10 → ¬ a = 5 → I' a j = J a j := fun I' f a j h1 h2 => (f _ _ (by omega) (by omega)).trans (cL_r hb hc h1 h2 j)
      have inner : ∀ d i I', i + d = e → tF b I I' → cBt b I' → pm_W (g_P ys) 73 42 [.ref 5, .int (nI t0), .ref 1, .ref (b + 15), .int (nI t), .int (nI i)] [] (I', L, g_R s, 306) (0, 0) Q := by
        intro d
        induction d with
        | zero =>
          intro i I' hi f l
          refine ps_iload rfl rfl ?_
          refine ps_aload rfl rfl ?_
          refine ps_gfr 2 0 rfl rfl rfl (by first | exact hS0 _ _ | exact hS1 _ _ | exact hS2 _ _ | exact hS3 _ _ | exact hS4 _ _ | exact hS5 _ _ | exact hS6 _ _ | exact hS7 _ _ | exact hS8 _ _ | exact hS9 _ _ | exact hS10 _ _ | exact hS11 _ _ | exact hS12 _ _ | exact hS13 _ _ | assumption | rfl) rfl (by first | assumption | rfl) ?_
          refine ps_gfr 3 2 rfl rfl rfl (by first | exact hS0 _ _ | exact hS1 _ _ | exact hS2 _ _ | exact hS3 _ _ | exact hS4 _ _ | exact hS5 _ _ | exact hS6 _ _ | exact hS7 _ _ | exact hS8 _ _ | exact hS9 _ _ | exact hS10 _ _ | exact hS11 _ _ | exact hS12 _ _ | exact hS13 _ _ | assumption | rfl) rfl (by first | assumption | rfl) ?_
          refine ps_iload rfl rfl ?_
          refine ps_iald (t) rfl (by first | exact hS0 _ _ | exact hS1 _ _ | exact hS2 _ _ | exact hS3 _ _ | exact hS4 _ _ | exact hS5 _ _ | exact hS6 _ _ | exact hS7 _ _ | exact hS8 _ _ | exact hS9 _ _ | exact hS10 _ _ | exact hS11 _ _ | exact hS12 _ _ | exact hS13 _ _ | assumption | rfl) rfl (rfl) (by omega) ?_
          rw [show ((I', L, g_R s, 306) : pm_H).1 9 t = nI e from (rr I' f 9 t (by omega) (by omega)).trans d2]
          refine ps_icmpt rfl (decide_eq_true (nI_le (by omega) (by omega))) ?_
          refine ps_iinc rfl rfl ?_
          refine ps_goto rfl ?_
          rw [show nI t + Int32.ofInt 1 = nI (t + 1) from nI_1 t]
          exact ih (t + 1) _ _ (by omega) f l
        | succ d ihi =>
          intro i I' hi f l
          refine ps_iload rfl rfl ?_
          refine ps_aload rfl rfl ?_
          refine ps_gfr 2 0 rfl rfl rfl (by first | exact hS0 _ _ | exact hS1 _ _ | exact hS2 _ _ | exact hS3 _ _ | exact hS4 _ _ | exact hS5 _ _ | exact hS6 _ _ | exact hS7 _ _ | exact hS8 _ _ | exact hS9 _ _ | exact hS10 _ _ | exact hS11 _ _ | exact hS12 _ _ | exact hS13 _ _ | assumption | rfl) rfl (by first | assumption | rfl) ?_
          refine ps_gfr 3 2 rfl rfl rfl (by first | exact hS0 _ _ | exact hS1 _ _ | exact hS2 _ _ | exact hS3 _ _ | exact hS4 _ _ | exact hS5 _ _ | exact hS6 _ _ | exact hS7 _ _ | exact hS8 _ _ | exact hS9 _ _ | exact hS10 _ _ | exact hS11 _ _ | exact hS12 _ _ | exact hS13 _ _ | assumption | rfl) rfl (by first | assumption | rfl) ?_
          refine ps_iload rfl rfl ?_
          refine ps_iald (t) rfl (by first | exact hS0 _ _ | exact hS1 _ _ | exact hS2 _ _ | exact hS3 _ _ | exact hS4 _ _ | exact hS5 _ _ | exact hS6 _ _ | exact hS7 _ _ | exact hS8 _ _ | exact hS9 _ _ | exact hS10 _ _ | exact hS11 _ _ | exact hS12 _ _ | exact hS13 _ _ | assumption | rfl) rfl (rfl) (by omega) ?_
          rw [show ((I', L, g_R s, 306) : pm_H).1 9 t = nI e from (rr I' f 9 t (by omega) (by omega)).trans d2]
          refine ps_icmpf rfl (decide_eq_false (nI_ge (by omega) (by omega))) ?_
          refine ps_aload rfl rfl ?_
          refine ps_aload rfl rfl ?_
          refine ps_gfr 1 0 rfl rfl rfl (by first | exact hS0 _ _ | exact hS1 _ _ | exact hS2 _ _ | exact hS3 _ _ | exact hS4 _ _ | exact hS5 _ _ | exact hS6 _ _ | exact hS7 _ _ | exact hS8 _ _ | exact hS9 _ _ | exact hS10 _ _ | exact hS11 _ _ | exact hS12 _ _ | exact hS13 _ _ | assumption | rfl) rfl (by first | assumption | rfl) ?_
          refine ps_iload rfl rfl ?_
          refine ps_iald (i) rfl (by first | exact hS0 _ _ | exact hS1 _ _ | exact hS2 _ _ | exact hS3 _ _ | exact hS4 _ _ | exact hS5 _ _ | exact hS6 _ _ | exact hS7 _ _ | exact hS8 _ _ | exact hS9 _ _ | exact hS10 _ _ | exact hS11 _ _ | exact hS12 _ _ | exact hS13 _ _ | assumption | rfl) rfl (rfl) (by omega) ?_
          refine pv_k rfl rfl rfl rfl rfl (by first | exact hS0 _ _ | exact hS1 _ _ | exact hS2 _ _ | exact hS3 _ _ | exact hS4 _ _ | exact hS5 _ _ | exact hS6 _ _ | exact hS7 _ _ | exact hS8 _ _ | exact hS9 _ _ | exact hS10 _ _ | exact hS11 _ _ | exact hS12 _ _ | exact hS13 _ _ | assumption | rfl) rfl ⟨Nat.zero_le _, Nat.zero_le _⟩ ?_
          refine B_putT hb l _ ?_
          intro I2 f2 l2
          refine ps_iinc rfl rfl ?_
          refine ps_goto rfl ?_
          rw [show nI i + Int32.ofInt 1 = nI (i + 1) from nI_1 i]
          exact ihi (i + 1) _ (by omega) (tF_t f f2) l2
      have c30 : ∀ I' (u5 : Value), tF b I I' → cBt b I' → pm_W (g_P ys) 73 30 [.ref 5, .int (nI t0), .ref 1, .ref (b + 15), .int (nI t), u5] [] (I', L, g_R s, 306) (0, 0) Q := by
        intro I' u5 f l
        refine ps_aload rfl rfl ?_
        refine ps_gfr 2 0 rfl rfl rfl (by first | exact hS0 _ _ | exact hS1 _ _ | exact hS2 _ _ | exact hS3 _ _ | exact hS4 _ _ | exact hS5 _ _ | exact hS6 _ _ | exact hS7 _ _ | exact hS8 _ _ | exact hS9 _ _ | exact hS10 _ _ | exact hS11 _ _ | exact hS12 _ _ | exact hS13 _ _ | assumption | rfl) rfl (by first | assumption | rfl) ?_
        refine ps_gfr 3 1 rfl rfl rfl (by first | exact hS0 _ _ | exact hS1 _ _ | exact hS2 _ _ | exact hS3 _ _ | exact hS4 _ _ | exact hS5 _ _ | exact hS6 _ _ | exact hS7 _ _ | exact hS8 _ _ | exact hS9 _ _ | exact hS10 _ _ | exact hS11 _ _ | exact hS12 _ _ | exact hS13 _ _ | assumption | rfl) rfl (by first | assumption | rfl) ?_
        refine ps_iload rfl rfl ?_
        refine ps_iald (t) rfl (by first | exact hS0 _ _ | exact hS1 _ _ | exact hS2 _ _ | exact hS3 _ _ | exact hS4 _ _ | exact hS5 _ _ | exact hS6 _ _ | exact hS7 _ _ | exact hS8 _ _ | exact hS9 _ _ | exact hS10 _ _ | exact hS11 _ _ | exact hS12 _ _ | exact hS13 _ _ | assumption | rfl) rfl (rfl) (by omega) ?_
        rw [show ((I', L, g_R s, 306) : pm_H).1 8 t = nI q from (rr I' f 8 t (by omega) (by omega)).trans d1]
        refine ps_istore rfl rfl ?_
        exact inner (e - q) q I' (by omega) f l
      refine ps_iload rfl rfl ?_
      refine ps_aload rfl rfl ?_
      refine ps_gfi 2 3 rfl rfl rfl (by first | exact hS0 _ _ | exact hS1 _ _ | exact hS2 _ _ | exact hS3 _ _ | exact hS4 _ _ | exact hS5 _ _ | exact hS6 _ _ | exact hS7 _ _ | exact hS8 _ _ | exact hS9 _ _ | exact hS10 _ _ | exact hS11 _ _ | exact hS12 _ _ | exact hS13 _ _ | assumption | rfl) rfl ?_
      rw [show ((I', L, g_R s, 306) : pm_H).1 5 3 = nI u from (f _ _ (by omega) (by omega)).trans hu]
      refine ps_icmpf rfl (decide_eq_false (nI_ge (by omega) (by omega))) ?_
      refine ps_aload rfl rfl ?_
      refine ps_gfr 2 0 rfl rfl rfl (by first | exact hS0 _ _ | exact hS1 _ _ | exact hS2 _ _ | exact hS3 _ _ | exact hS4 _ _ | exact hS5 _ _ | exact hS6 _ _ | exact hS7 _ _ | exact hS8 _ _ | exact hS9 _ _ | exact hS10 _ _ | exact hS11 _ _ | exact hS12 _ _ | exact hS13 _ _ | assumption | rfl) rfl (by first | assumption | rfl) ?_
      refine ps_gfr 3 0 rfl rfl rfl (by first | exact hS0 _ _ | exact hS1 _ _ | exact hS2 _ _ | exact hS3 _ _ | exact hS4 _ _ | exact hS5 _ _ | exact hS6 _ _ | exact hS7 _ _ | exact hS8 _ _ | exact hS9 _ _ | exact hS10 _ _ | exact hS11 _ _ | exact hS12 _ _ | exact hS13 _ _ | assumption | rfl) rfl (by first | assumption | rfl) ?_
      refine ps_iload rfl rfl ?_
      refine ps_iald (t) rfl (by first | exact hS0 _ _ | exact hS1 _ _ | exact hS2 _ _ | exact hS3 _ _ | exact hS4 _ _ | exact hS5 _ _ | exact hS6 _ _ | exact hS7 _ _ | exact hS8 _ _ | exact hS9 _ _ | exact hS10 _ _ | exact hS11 _ _ | exact hS12 _ _ | exact hS13 _ _ | assumption | rfl) rfl (rfl) (by omega) ?_
      refine pw_c rfl ?_
      refine ps_icmp rfl (fun h1 => ?_) (fun h1 => ?_)
      · exact c30 _ _ f l
      · refine ps_aload rfl rfl ?_
        refine pv_k rfl rfl rfl rfl rfl (by first | exact hS0 _ _ | exact hS1 _ _ | exact hS2 _ _ | exact hS3 _ _ | exact hS4 _ _ | exact hS5 _ _ | exact hS6 _ _ | exact hS7 _ _ | exact hS8 _ _ | exact hS9 _ _ | exact hS10 _ _ | exact hS11 _ _ | exact hS12 _ _ | exact hS13 _ _ | assumption | rfl) rfl ⟨Nat.zero_le _, Nat.zero_le _⟩ ?_
        refine B_putBlankT hb l ?_
        intro I2 f2 l2
        exact c30 _ _ (tF_t f f2) l2
  refine ps_iload rfl rfl ?_
  refine ps_istore rfl rfl ?_
  exact outer (u - t0) t0 I _ (by omega) tF_0 hl
end LB
