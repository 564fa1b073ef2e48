/-! BY HAND: the class's ACTS, exactly, second: add, lose, undo -/
section SF
variable {I I' I1 I2 J : Nat → Nat → Int32} {L : Nat → Nat → Int64} {s : Nat → Option Nat} {Q : List Value → pm_H → Prop} {ys : List Int32} {ps m b f n len : Nat} {S S' : sS} {H H' : Nat → sS}
theorem B_add6 (hb : isB b) (h0 : s 0 = some b) (hH : cHs H m f I) (h : cSc (b + 2) S I) (ok : S.ok) (kd x y c : Int32) (kE : ∀ e, aAdd S kd x y c = .error e → Q [.int (-1)] (pm_u I 0 10 e, L, g_R s, 306)) (kO : ∀ r S', aAdd S kd x y c = .ok (r, S') → ∀ I', aftB b S' (psh H m S) (rmM m) I I' → Q [.int r] (I', L, g_R s, 306)) : pm_W (g_P ys) 101 0 [.ref 0, .int kd, .int x, .int y, .int c, .retAddr 0] [] (I, L, g_R s, 306) (0, 0) Q := by
  obtain ⟨hS0, hS1, hS2, hS3, hS4, hR0, hR1, hR2, hR3, hR4, hR5, hR6, hR7⟩ := bn_F (ys := ys) (s := s) hb
  have bb := isB_b hb
  have e1 : (1 : Int32).toInt = 1 := rfl
  have e999 : (999 : Int32).toInt = 999 := rfl
  have no : ¬ ((kd = 0 ∨ kd = 2) ∧ plcB x y ∧ 1 ≤ c.toInt ∧ c.toInt ≤ 999) → pm_W (g_P ys) 101 29 [.ref 0, .int kd, .int x, .int y, .int c, .retAddr 0] [] (I, L, g_R s, 306) (0, 0) Q := by
    intro z
    refine ps_aload rfl rfl ?_
    refine pw_c rfl ?_
    refine pw_k rfl rfl rfl rfl ⟨Nat.zero_le _, Nat.zero_le _⟩ ?_
    refine B_refuse ?_
    refine ps_iret rfl rfl ?_
    exact kE 1 (by unfold aAdd; rw [if_pos z])
  refine ps_iload rfl rfl ?_
  refine pw_k rfl rfl rfl rfl ⟨Nat.zero_le _, Nat.zero_le _⟩ ?_
  refine B_isCounting _ ?_
  by_cases hk : kd = 0 ∨ kd = 2
  · rw [decide_eq_true hk]
    refine ps_iff rfl (rfl) ?_
    refine ps_iload rfl rfl ?_
    refine ps_iload rfl rfl ?_
    refine pw_k rfl rfl rfl rfl ⟨Nat.zero_le _, Nat.zero_le _⟩ ?_
    refine B_isPlace x y (fun hp => ?_) (fun hp => ?_)
    · by_cases c1 : c.toInt < 1
      · refine ps_iff rfl (rfl) ?_
        refine ps_iload rfl rfl ?_
        refine pw_c rfl ?_
        refine ps_icmpt rfl (decide_eq_true ((i_lt _ _).mpr (by omega))) ?_
        exact no (by omega)
      · by_cases c2 : 999 < c.toInt
        · refine ps_iff rfl (rfl) ?_
          refine ps_iload rfl rfl ?_
          refine pw_c rfl ?_
          refine ps_icmpf rfl (decide_eq_false (fun z => c1 (by have := (i_lt _ _).mp z; omega))) ?_
          refine ps_iload rfl rfl ?_
          refine pw_c rfl ?_
          refine ps_icmpf rfl (decide_eq_false (fun z => by have := (i_le _ _).mp z; omega)) ?_
          exact no (by omega)
        · have ea : aAdd S kd x y c = if S.n kd.toInt.toNat = 8 then .error 3 else .ok (nI (S.n kd.toInt.toNat), S.add kd.toInt.toNat x y c) := by
            unfold aAdd
            rw [if_neg (fun z => z ⟨hk, hp, by omega, by omega⟩)]
          have go : ∀ q, q < 3 → mst q = 8 → kd = nI q → kd.toInt.toNat = q → pm_W (g_P ys) 101 35 [.ref 0, .int kd, .int x, .int y, .int c, .retAddr 0] [] (I, L, g_R s, 306) (0, 0) Q := by
            intro q hq m8 z1 z2
            subst z1
            rw [z2] at ea
            have hm := isM_of (isE_b hb) hq
            obtain ⟨hS5, _⟩ := mm_F (ys := ys) (s := s) hm
            have n8 := ok q hq
            refine ps_aload rfl rfl ?_
            refine ps_gfr 0 6 rfl rfl rfl (by first | exact hS0 _ _ | exact hS1 _ _ | exact hS2 _ _ | exact hS3 _ _ | exact hS4 _ _ | exact hS5 _ _ | exact hS6 _ _ | exact hS7 _ _ | exact hS8 _ _ | exact hS9 _ _ | exact hS10 _ _ | exact hS11 _ _ | exact hS12 _ _ | exact hS13 _ _ | assumption | rfl) rfl ( h0) ?_
            refine ps_gfr 8 1 rfl rfl rfl (by first | exact hS0 _ _ | exact hS1 _ _ | exact hS2 _ _ | exact hS3 _ _ | exact hS4 _ _ | exact hS5 _ _ | exact hS6 _ _ | exact hS7 _ _ | exact hS8 _ _ | exact hS9 _ _ | exact hS10 _ _ | exact hS11 _ _ | exact hS12 _ _ | exact hS13 _ _ | assumption | rfl) rfl (by first | assumption | rfl) ?_
            refine ps_iload rfl rfl ?_
            refine pv_k rfl rfl rfl rfl rfl (hS2 _ _) rfl ⟨Nat.zero_le _, Nat.zero_le _⟩ ?_
            refine B_marksOfX (isE_b hb) hq ?_
            refine ps_astore rfl rfl ?_
            refine ps_aload rfl rfl ?_
            refine ps_brr rfl rfl rfl rfl rfl rfl ?_
            refine ps_aload rfl rfl ?_
            refine pv_k rfl rfl rfl rfl rfl (hS5 _ _) rfl ⟨Nat.zero_le _, Nat.zero_le _⟩ ?_
            refine B_mFull hm (h.1 q hq) n8 ?_
            by_cases e : S.n q = 8
            · rw [if_pos e] at ea
              rw [decide_eq_true (by omega)]
              refine ps_iff rfl (rfl) ?_
              refine ps_aload rfl rfl ?_
              refine pw_c rfl ?_
              refine pv_k rfl rfl rfl rfl rfl (by first | exact hS0 _ _ | exact hS1 _ _ | exact hS2 _ _ | exact hS3 _ _ | exact hS4 _ _ | exact hS5 _ _ | exact hS6 _ _ | exact hS7 _ _ | exact hS8 _ _ | exact hS9 _ _ | exact hS10 _ _ | exact hS11 _ _ | exact hS12 _ _ | exact hS13 _ _ | assumption | rfl) rfl ⟨Nat.zero_le _, Nat.zero_le _⟩ ?_
              refine B_refuse ?_
              refine ps_iret rfl rfl ?_
              exact kE 3 ea
            · rw [if_neg e] at ea
              rw [decide_eq_false (by omega)]
              refine ps_ift rfl (rfl) ?_
              refine ps_aload rfl rfl ?_
              refine pw_k rfl rfl rfl rfl ⟨Nat.zero_le _, Nat.zero_le _⟩ ?_
              refine B_beginAct hb h0 hH h ok (fun I1 f1 o1 a1 c1 => ?_)
              have c3 : cSc (b + 2) S I1 := cSc_t h (fun a j z1 z2 => o1 a j (by omega) (by omega))
              refine ps_aload rfl rfl ?_
              refine ps_iload rfl rfl ?_
              refine ps_iload rfl rfl ?_
              refine ps_iload rfl rfl ?_
              refine pv_k rfl rfl rfl rfl rfl (hS5 _ _) rfl ⟨Nat.zero_le _, Nat.zero_le _⟩ ?_
              refine B_mAppend hm (c3.1 q hq) (by omega) x y c ?_
              have c4 := apd_c (x := x) (y := y) (z := c) hq c3 ok (by omega)
              have o4 : ∀ a j, ¬ (b + 2 ≤ a ∧ a ≤ b + 14) → apdI I1 (b + 2 + 1 + 4 * q) (S.n q) x y c a j = I1 a j := fun a j z => apd_o (by omega)
              generalize apdI I1 (b + 2 + 1 + 4 * q) (S.n q) x y c = I2 at c4 o4 ⊢
              refine ps_aload rfl rfl ?_
              refine ps_aload rfl rfl ?_
              refine ps_gfi 6 3 rfl rfl rfl (by first | exact hS0 _ _ | exact hS1 _ _ | exact hS2 _ _ | exact hS3 _ _ | exact hS4 _ _ | exact hS5 _ _ | exact hS6 _ _ | exact hS7 _ _ | exact hS8 _ _ | exact hS9 _ _ | exact hS10 _ _ | exact hS11 _ _ | exact hS12 _ _ | exact hS13 _ _ | assumption | rfl) rfl ?_
              rw [show ((I2, L, g_R s, 306) : pm_H).1 (b + 2 + 1 + 4 * q) 3 = nI (S.n q + 1) from (c4.1 q hq).trans (by show nI (if q = q then S.n q + 1 else S.n q) = _; rw [if_pos rfl])]
              refine pw_c rfl ?_
              refine ps_ar rfl rfl rfl rfl rfl ?_
              rw [show nI (S.n q + 1) - (1 : Int32) = nI (S.n q) from nI_p _]
              refine pv_k rfl rfl rfl rfl rfl (by first | exact hS0 _ _ | exact hS1 _ _ | exact hS2 _ _ | exact hS3 _ _ | exact hS4 _ _ | exact hS5 _ _ | exact hS6 _ _ | exact hS7 _ _ | exact hS8 _ _ | exact hS9 _ _ | exact hS10 _ _ | exact hS11 _ _ | exact hS12 _ _ | exact hS13 _ _ | assumption | rfl) rfl ⟨Nat.zero_le _, Nat.zero_le _⟩ ?_
              refine B_answer ?_
              refine ps_iret rfl rfl ?_
              exact kO _ _ ea _ (aft_mk hb o1 a1 c1 o4 c4)
          refine ps_iff rfl (rfl) ?_
          refine ps_iload rfl rfl ?_
          refine pw_c rfl ?_
          refine ps_icmpf rfl (decide_eq_false (fun z => c1 (by have := (i_lt _ _).mp z; omega))) ?_
          refine ps_iload rfl rfl ?_
          refine pw_c rfl ?_
          refine ps_icmpt rfl (decide_eq_true ((i_le _ _).mpr (by omega))) ?_
          rcases hk with z | z
          · exact go 0 (by omega) rfl z (by rw [z]; rfl)
          · exact go 2 (by omega) rfl z (by rw [z]; rfl)
    · refine ps_ift rfl (rfl) ?_
      exact no (fun z => hp z.2.1)
  · rw [decide_eq_false hk]
    refine ps_ift rfl (rfl) ?_
    exact no (fun z => hk z.1)
theorem B_lose6 (hb : isB b) (h0 : s 0 = some b) (hH : cHs H m f I) (h : cSc (b + 2) S I) (ok : S.ok) (x y : Int32) (kE : ∀ e, aLose S x y = .error e → Q [.int (-1)] (pm_u I 0 10 e, L, g_R s, 306)) (kO : ∀ r S', aLose S x y = .ok (r, S') → ∀ I', aftB b S' (psh H m S) (rmM m) I I' → Q [.int r] (I', L, g_R s, 306)) : pm_W (g_P ys) 111 0 [.ref 0, .int x, .int y, .retAddr 0] [] (I, L, g_R s, 306) (0, 0) Q := by
  obtain ⟨hS0, hS1, hS2, hS3, hS4, hR0, hR1, hR2, hR3, hR4, hR5, hR6, hR7⟩ := bn_F (ys := ys) (s := s) hb
  have bb := isB_b hb
  have hm := isM_of (isE_b hb) (q := 1) (by omega)
  obtain ⟨hS5, _⟩ := mm_F (ys := ys) (s := s) hm
  have n12 : S.n 1 ≤ 12 := ok 1 (by omega)
  refine ps_iload rfl rfl ?_
  refine ps_iload rfl rfl ?_
  refine pw_k rfl rfl rfl rfl ⟨Nat.zero_le _, Nat.zero_le _⟩ ?_
  refine B_isPlace x y (fun hp => ?_) (fun hp => ?_)
  · have ea : aLose S x y = if S.n 1 = 12 then .error 3 else if tldB S x y = true then .error 4 else .ok (nI (S.n 1 + 1), S.add 1 x y 0) := by
      unfold aLose
      rw [if_neg (fun z => z hp)]
    refine ps_ift rfl (rfl) ?_
    refine ps_aload rfl rfl ?_
    refine ps_gfr 0 6 rfl rfl rfl (by first | exact hS0 _ _ | exact hS1 _ _ | exact hS2 _ _ | exact hS3 _ _ | exact hS4 _ _ | exact hS5 _ _ | exact hS6 _ _ | exact hS7 _ _ | exact hS8 _ _ | exact hS9 _ _ | exact hS10 _ _ | exact hS11 _ _ | exact hS12 _ _ | exact hS13 _ _ | assumption | rfl) rfl ( h0) ?_
    refine ps_gfr 8 1 rfl rfl rfl (by first | exact hS0 _ _ | exact hS1 _ _ | exact hS2 _ _ | exact hS3 _ _ | exact hS4 _ _ | exact hS5 _ _ | exact hS6 _ _ | exact hS7 _ _ | exact hS8 _ _ | exact hS9 _ _ | exact hS10 _ _ | exact hS11 _ _ | exact hS12 _ _ | exact hS13 _ _ | assumption | rfl) rfl (by first | assumption | rfl) ?_
    refine ps_gfr 5 1 rfl rfl rfl (by first | exact hS0 _ _ | exact hS1 _ _ | exact hS2 _ _ | exact hS3 _ _ | exact hS4 _ _ | exact hS5 _ _ | exact hS6 _ _ | exact hS7 _ _ | exact hS8 _ _ | exact hS9 _ _ | exact hS10 _ _ | exact hS11 _ _ | exact hS12 _ _ | exact hS13 _ _ | assumption | rfl) rfl (by first | assumption | rfl) ?_
    refine ps_astore rfl rfl ?_
    refine ps_aload rfl rfl ?_
    refine pv_k rfl rfl rfl rfl rfl (hS5 _ _) rfl ⟨Nat.zero_le _, Nat.zero_le _⟩ ?_
    refine B_mFull hm (h.1 1 (by omega)) n12 ?_
    by_cases e : S.n 1 = 12
    · rw [if_pos e] at ea
      rw [decide_eq_true (show S.n 1 = mst 1 from e)]
      refine ps_iff rfl (rfl) ?_
      refine ps_aload rfl rfl ?_
      refine pw_c rfl ?_
      refine pv_k rfl rfl rfl rfl rfl (by first | exact hS0 _ _ | exact hS1 _ _ | exact hS2 _ _ | exact hS3 _ _ | exact hS4 _ _ | exact hS5 _ _ | exact hS6 _ _ | exact hS7 _ _ | exact hS8 _ _ | exact hS9 _ _ | exact hS10 _ _ | exact hS11 _ _ | exact hS12 _ _ | exact hS13 _ _ | assumption | rfl) rfl ⟨Nat.zero_le _, Nat.zero_le _⟩ ?_
      refine B_refuse ?_
      refine ps_iret rfl rfl ?_
      exact kE 3 ea
    · rw [if_neg e] at ea
      rw [decide_eq_false (show ¬ S.n 1 = mst 1 from e)]
      have sc : ∀ k, k < S.n 1 → I (b + 2 + 1 + 4 * 1 + 1) k = S.sc 1 k 0 ∧ I (b + 2 + 1 + 4 * 1 + 2) k = S.sc 1 k 1 := fun k hk => ⟨h.2.2.2 1 (by omega) k hk 0 (by omega), h.2.2.2 1 (by omega) k hk 1 (by omega)⟩
      refine ps_ift rfl (rfl) ?_
      refine ps_aload rfl rfl ?_
      refine ps_iload rfl rfl ?_
      refine ps_iload rfl rfl ?_
      refine pv_k rfl rfl rfl rfl rfl (hS5 _ _) rfl ⟨Nat.zero_le _, Nat.zero_le _⟩ ?_
      refine B_mTells hm (h.1 1 (by omega)) n12 x y (fun z => ?_) (fun z => ?_)
      · obtain ⟨k, hk, v1, v2⟩ := z
        rw [if_pos (tld_y ⟨k, hk, (sc k hk).1.symm.trans v1, (sc k hk).2.symm.trans v2⟩)] at ea
        refine ps_iff rfl (rfl) ?_
        refine ps_aload rfl rfl ?_
        refine pw_c rfl ?_
        refine pv_k rfl rfl rfl rfl rfl (by first | exact hS0 _ _ | exact hS1 _ _ | exact hS2 _ _ | exact hS3 _ _ | exact hS4 _ _ | exact hS5 _ _ | exact hS6 _ _ | exact hS7 _ _ | exact hS8 _ _ | exact hS9 _ _ | exact hS10 _ _ | exact hS11 _ _ | exact hS12 _ _ | exact hS13 _ _ | assumption | rfl) rfl ⟨Nat.zero_le _, Nat.zero_le _⟩ ?_
        refine B_refuse ?_
        refine ps_iret rfl rfl ?_
        exact kE 4 ea
      · rw [if_neg (tld_n (fun k hk v => z k hk ⟨(sc k hk).1.trans v.1, (sc k hk).2.trans v.2⟩))] at ea
        refine ps_ift rfl (rfl) ?_
        refine ps_aload rfl rfl ?_
        refine pw_k rfl rfl rfl rfl ⟨Nat.zero_le _, Nat.zero_le _⟩ ?_
        refine B_beginAct hb h0 hH h ok (fun I1 f1 o1 a1 c1 => ?_)
        have c3 : cSc (b + 2) S I1 := cSc_t h (fun a j z1 z2 => o1 a j (by omega) (by omega))
        refine ps_aload rfl rfl ?_
        refine ps_iload rfl rfl ?_
        refine ps_iload rfl rfl ?_
        refine pw_c rfl ?_
        refine pv_k rfl rfl rfl rfl rfl (hS5 _ _) rfl ⟨Nat.zero_le _, Nat.zero_le _⟩ ?_
        refine B_mAppend hm (c3.1 1 (by omega)) (show S.n 1 < 12 by omega) x y 0 ?_
        have c4 := apd_c (q := 1) (x := x) (y := y) (z := 0) (by omega) c3 ok (show S.n 1 < 12 by omega)
        have o4 : ∀ a j, ¬ (b + 2 ≤ a ∧ a ≤ b + 14) → apdI I1 (b + 2 + 1 + 4 * 1) (S.n 1) x y 0 a j = I1 a j := fun a j z => apd_o (by omega)
        generalize apdI I1 (b + 2 + 1 + 4 * 1) (S.n 1) x y 0 = I2 at c4 o4 ⊢
        refine ps_aload rfl rfl ?_
        refine ps_aload rfl rfl ?_
        refine ps_gfi 6 3 rfl rfl rfl (by first | exact hS0 _ _ | exact hS1 _ _ | exact hS2 _ _ | exact hS3 _ _ | exact hS4 _ _ | exact hS5 _ _ | exact hS6 _ _ | exact hS7 _ _ | exact hS8 _ _ | exact hS9 _ _ | exact hS10 _ _ | exact hS11 _ _ | exact hS12 _ _ | exact hS13 _ _ | assumption | rfl) rfl ?_
        rw [show ((I2, L, g_R s, 306) : pm_H).1 (b + 2 + 1 + 4 * 1) 3 = nI (S.n 1 + 1) from c4.1 1 (by omega)]
        refine pv_k rfl rfl rfl rfl rfl (by first | exact hS0 _ _ | exact hS1 _ _ | exact hS2 _ _ | exact hS3 _ _ | exact hS4 _ _ | exact hS5 _ _ | exact hS6 _ _ | exact hS7 _ _ | exact hS8 _ _ | exact hS9 _ _ | exact hS10 _ _ | exact hS11 _ _ | exact hS12 _ _ | exact hS13 _ _ | assumption | rfl) rfl ⟨Nat.zero_le _, Nat.zero_le _⟩ ?_
        refine B_answer ?_
        refine ps_iret rfl rfl ?_
        exact kO _ _ ea _ (aft_mk hb o1 a1 c1 o4 c4)
  · refine ps_iff rfl (rfl) ?_
    refine ps_aload rfl rfl ?_
    refine pw_c rfl ?_
    refine pv_k rfl rfl rfl rfl rfl (by first | exact hS0 _ _ | exact hS1 _ _ | exact hS2 _ _ | exact hS3 _ _ | exact hS4 _ _ | exact hS5 _ _ | exact hS6 _ _ | exact hS7 _ _ | exact hS8 _ _ | exact hS9 _ _ | exact hS10 _ _ | exact hS11 _ _ | exact hS12 _ _ | exact hS13 _ _ | assumption | rfl) rfl ⟨Nat.zero_le _, Nat.zero_le _⟩ ?_
    refine B_refuse ?_
    refine ps_iret rfl rfl ?_
    exact kE 1 (by unfold aLose; rw [if_pos hp])
theorem B_undo6 (hb : isB b) (h0 : s 0 = some b) (hH : cHs H m f I) (hok : ∀ i, i < m → (H i).ok) (kE : m = 0 → Q [.int (-1)] (pm_u I 0 10 5, L, g_R s, 306)) (kO : ∀ m', m = m' + 1 → ∀ I', aftB b (H m') H m' I I' → Q [.int (nI m')] (I', L, g_R s, 306)) : pm_W (g_P ys) 118 0 [.ref 0] [] (I, L, g_R s, 306) (0, 0) Q := by
  obtain ⟨hS0, hS1, hS2, hS3, hS4, hR0, hR1, hR2, hR3, hR4, hR5, hR6, hR7⟩ := bn_F (ys := ys) (s := s) hb
  have bb := isB_b hb
  have m12 := hH.2.1
  refine ps_aload rfl rfl ?_
  refine ps_gfr 0 3 rfl rfl rfl (by first | exact hS0 _ _ | exact hS1 _ _ | exact hS2 _ _ | exact hS3 _ _ | exact hS4 _ _ | exact hS5 _ _ | exact hS6 _ _ | exact hS7 _ _ | exact hS8 _ _ | exact hS9 _ _ | exact hS10 _ _ | exact hS11 _ _ | exact hS12 _ _ | exact hS13 _ _ | assumption | rfl) rfl ( rfl) ?_
  refine ps_gfi 4 2 rfl rfl rfl (by first | exact hS0 _ _ | exact hS1 _ _ | exact hS2 _ _ | exact hS3 _ _ | exact hS4 _ _ | exact hS5 _ _ | exact hS6 _ _ | exact hS7 _ _ | exact hS8 _ _ | exact hS9 _ _ | exact hS10 _ _ | exact hS11 _ _ | exact hS12 _ _ | exact hS13 _ _ | assumption | rfl) rfl ?_
  rw [show ((I, L, g_R s, 306) : pm_H).1 12 2 = nI m from hH.2.2.2.1]
  cases m with
  | zero =>
    refine ps_iff rfl (by decide) ?_
    refine ps_aload rfl rfl ?_
    refine pw_c rfl ?_
    refine pv_k rfl rfl rfl rfl rfl (by first | exact hS0 _ _ | exact hS1 _ _ | exact hS2 _ _ | exact hS3 _ _ | exact hS4 _ _ | exact hS5 _ _ | exact hS6 _ _ | exact hS7 _ _ | exact hS8 _ _ | exact hS9 _ _ | exact hS10 _ _ | exact hS11 _ _ | exact hS12 _ _ | exact hS13 _ _ | assumption | rfl) rfl ⟨Nat.zero_le _, Nat.zero_le _⟩ ?_
    refine B_refuse ?_
    refine ps_iret rfl rfl ?_
    exact kE rfl
  | succ m' =>
    refine ps_ift rfl (decide_eq_true (nI_nz (by omega) (by omega))) ?_
    refine ps_aload rfl rfl ?_
    refine ps_gfr 0 3 rfl rfl rfl (by first | exact hS0 _ _ | exact hS1 _ _ | exact hS2 _ _ | exact hS3 _ _ | exact hS4 _ _ | exact hS5 _ _ | exact hS6 _ _ | exact hS7 _ _ | exact hS8 _ _ | exact hS9 _ _ | exact hS10 _ _ | exact hS11 _ _ | exact hS12 _ _ | exact hS13 _ _ | assumption | rfl) rfl ( rfl) ?_
    refine ps_aload rfl rfl ?_
    refine ps_gfr 0 6 rfl rfl rfl (by first | exact hS0 _ _ | exact hS1 _ _ | exact hS2 _ _ | exact hS3 _ _ | exact hS4 _ _ | exact hS5 _ _ | exact hS6 _ _ | exact hS7 _ _ | exact hS8 _ _ | exact hS9 _ _ | exact hS10 _ _ | exact hS11 _ _ | exact hS12 _ _ | exact hS13 _ _ | assumption | rfl) rfl ( h0) ?_
    refine ps_gfr 8 1 rfl rfl rfl (by first | exact hS0 _ _ | exact hS1 _ _ | exact hS2 _ _ | exact hS3 _ _ | exact hS4 _ _ | exact hS5 _ _ | exact hS6 _ _ | exact hS7 _ _ | exact hS8 _ _ | exact hS9 _ _ | exact hS10 _ _ | exact hS11 _ _ | exact hS12 _ _ | exact hS13 _ _ | assumption | rfl) rfl (by first | assumption | rfl) ?_
    refine pw_k rfl rfl rfl rfl ⟨Nat.zero_le _, Nat.zero_le _⟩ ?_
    refine B_takeBack (isE_b hb) (by omega) hH (hok m' (by omega)) (fun I1 o1 s1 g1 => ?_)
    refine ps_aload rfl rfl ?_
    refine ps_gfr 0 8 rfl rfl rfl (by first | exact hS0 _ _ | exact hS1 _ _ | exact hS2 _ _ | exact hS3 _ _ | exact hS4 _ _ | exact hS5 _ _ | exact hS6 _ _ | exact hS7 _ _ | exact hS8 _ _ | exact hS9 _ _ | exact hS10 _ _ | exact hS11 _ _ | exact hS12 _ _ | exact hS13 _ _ | assumption | rfl) rfl ( rfl) ?_
    refine pw_k rfl rfl rfl rfl ⟨Nat.zero_le _, Nat.zero_le _⟩ ?_
    refine ps_aload rfl rfl ?_
    refine pw_c rfl ?_
    refine ps_pfz 10 15 rfl rfl rfl (by first | exact hS0 _ _ | exact hS1 _ _ | exact hS2 _ _ | exact hS3 _ _ | exact hS4 _ _ | exact hS5 _ _ | exact hS6 _ _ | exact hS7 _ _ | exact hS8 _ _ | exact hS9 _ _ | exact hS10 _ _ | exact hS11 _ _ | exact hS12 _ _ | exact hS13 _ _ | assumption | rfl) rfl (Or.inl rfl) ?_
    refine ps_vret rfl rfl ?_
    refine ps_aload rfl rfl ?_
    refine ps_aload rfl rfl ?_
    refine ps_gfr 0 3 rfl rfl rfl (by first | exact hS0 _ _ | exact hS1 _ _ | exact hS2 _ _ | exact hS3 _ _ | exact hS4 _ _ | exact hS5 _ _ | exact hS6 _ _ | exact hS7 _ _ | exact hS8 _ _ | exact hS9 _ _ | exact hS10 _ _ | exact hS11 _ _ | exact hS12 _ _ | exact hS13 _ _ | assumption | rfl) rfl ( rfl) ?_
    refine ps_gfi 4 2 rfl rfl rfl (by first | exact hS0 _ _ | exact hS1 _ _ | exact hS2 _ _ | exact hS3 _ _ | exact hS4 _ _ | exact hS5 _ _ | exact hS6 _ _ | exact hS7 _ _ | exact hS8 _ _ | exact hS9 _ _ | exact hS10 _ _ | exact hS11 _ _ | exact hS12 _ _ | exact hS13 _ _ | assumption | rfl) rfl ?_
    have o2 : ∀ a j, ¬ (a = 255 ∧ j = 15) → pm_u I1 255 15 0 a j = I1 a j := fun a j z => pu_x z
    have a2 : pm_u I1 255 15 0 255 15 = 0 := pu_s
    show pm_W _ _ _ _ [.int (pm_u I1 255 15 0 12 2), .ref 0] (pm_u I1 255 15 0, L, g_R s, 306) _ _
    generalize pm_u I1 255 15 0 = I2 at o2 a2 ⊢
    have g2 : cHs H m' f I2 := by
      obtain ⟨g1, g2, g3, g4, g5⟩ := g1
      exact ⟨g1, g2, (o2 _ _ (by omega)).trans g3, (o2 _ _ (by omega)).trans g4, fun i hi => cSc_t (g5 i hi) (fun a j z1 z2 => o2 _ _ (by omega))⟩
    rw [g2.2.2.2.1]
    refine pv_k rfl rfl rfl rfl rfl (by first | exact hS0 _ _ | exact hS1 _ _ | exact hS2 _ _ | exact hS3 _ _ | exact hS4 _ _ | exact hS5 _ _ | exact hS6 _ _ | exact hS7 _ _ | exact hS8 _ _ | exact hS9 _ _ | exact hS10 _ _ | exact hS11 _ _ | exact hS12 _ _ | exact hS13 _ _ | assumption | rfl) rfl ⟨Nat.zero_le _, Nat.zero_le _⟩ ?_
    refine B_answer ?_
    refine ps_iret rfl rfl ?_
    refine kO m' rfl _ ⟨fun a j h1 h2 h3 h4 => (pu_x h1).trans ((o2 a j h3).trans (o1 a j h4 (by omega))), pu_s, (pu_o (by decide)).trans a2, cSc_t s1 (fun a j z1 z2 => (pu_o (by omega)).trans (o2 _ _ (by omega))), f, ?_⟩
    obtain ⟨g1, g2, g3, g4, g5⟩ := g2
    exact ⟨g1, g2, (pu_o (by decide)).trans g3, (pu_o (by decide)).trans g4, fun i hi => cSc_t (g5 i hi) (fun a j z1 z2 => pu_o (by omega))⟩
end SF
