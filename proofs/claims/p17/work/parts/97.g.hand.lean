/-! BY HAND: the model's steps through a text, second: words, NUMBERS, NAMES -/
section KE
theorem lc_ne (x y : Int64) : pm_cmp .ne (lg_cmp x y) 0 = decide (¬ x = y) := by
  unfold lg_cmp pm_cmp
  rcases l_tri x y with q | q | q
  · have h2 : ¬ x = y := fun z => by subst z; exact Int64.lt_irrefl q
    have h1 : ¬ x > y := fun z => absurd (Int64.lt_trans q z) (Int64.lt_irrefl)
    simp [h1, h2]
  · subst q; simp [Int64.lt_irrefl]
  · have h2 : ¬ x = y := fun z => by subst z; exact Int64.lt_irrefl q
    simp [q, h2]
theorem lc_f {x y : Int64} (e : x = y) : pm_cmp .ne (lg_cmp x y) 0 = false := by rw [lc_ne]; exact decide_eq_false (fun z => z e)
theorem lc_t {x y : Int64} (e : ¬ x = y) : pm_cmp .ne (lg_cmp x y) 0 = true := by rw [lc_ne]; exact decide_eq_true e
variable {f T : Nat → Int32} {J I I' : Nat → Nat → Int32} {L L' : Nat → Nat → Int64} {n c t : Nat} {s : Nat → Option Nat} {Q : List Value → pm_H → Prop} {ys : List Int32} {B : sB}
theorem M_isWord (S : stX f T J n c) (m : mC J T c n t I L) {w : Nat} (hw : w < 13) (kk : Q [.int (bI (decide (J 7 t = 2 ∧ kwF (J 10 t) = clsK w)))] (I, L, g_R s, 306)) : pm_W (g_P ys) 283 0 [.ref 275, .int (nI w)] [] (I, L, g_R s, 306) (0, 0) Q := by
  have so := (cu_so S m).2.2.1
  have no : Q [.int 0] (I, L, g_R s, 306) → pm_W (g_P ys) 283 33 [.ref 275, .int (nI w)] [] (I, L, g_R s, 306) (0, 0) Q := by
    intro k
    refine pw_c rfl ?_
    refine ps_zret rfl rfl (Or.inl rfl) ?_
    exact k
  refine ps_aload rfl rfl ?_
  refine pw_k rfl rfl rfl rfl ⟨Nat.zero_le _, Nat.zero_le _⟩ ?_
  refine M_good ?_
  rw [decide_eq_true m.1]
  refine ps_iff rfl (rfl) ?_
  refine ps_aload rfl rfl ?_
  refine ps_gfi 11 50 rfl rfl rfl rfl rfl ?_
  refine pw_c rfl ?_
  by_cases h2 : J 7 t = 2
  · rw [show ((I, L, g_R s, 306) : pm_H).1 275 50 = 1 from so.mpr h2]
    have wd : nmR (J 10 t) (L 275 54) := by
      rcases m.2.2.2.2.2.2.2 with ⟨r1, r2, _⟩ | ⟨_, _, _, _, _, r6, _⟩
      · exact absurd ((so.mpr h2).symm.trans r2) (by decide)
      · exact r6 h2
    refine ps_icmpf rfl (rfl) ?_
    refine ps_aload rfl rfl ?_
    refine ps_gfl 11 54 rfl rfl rfl rfl rfl ?_
    refine ps_aload rfl rfl ?_
    refine ps_gfr 11 55 rfl rfl rfl rfl rfl (rfl) ?_
    refine ps_iload rfl rfl ?_
    refine ps_lald (w) rfl rfl rfl (by simp only [ni_lit, ni_l0, pk_mul, nI_add, Nat.add_zero]) (by omega) ?_
    refine ps_ar rfl rfl rfl rfl rfl ?_
    rw [show ((I, L, g_R s, 306) : pm_H).2.1 304 w = wC w from m.2.2.2.2.2.1 w hw]
    by_cases hk : kwF (J 10 t) = clsK w
    · rw [decide_eq_true ⟨h2, hk⟩] at kk
      have e : L 275 54 = wC w := (kw_iff wd hw).mpr hk
      rw [show ((I, L, g_R s, 306) : pm_H).2.1 275 54 = wC w from e]
      refine ps_iff rfl (lc_f rfl) ?_
      refine pw_c rfl ?_
      refine ps_goto rfl ?_
      refine ps_zret rfl rfl (Or.inr rfl) ?_
      exact kk
    · rw [decide_eq_false (fun z => hk z.2)] at kk
      have e : ¬ L 275 54 = wC w := fun z => hk ((kw_iff wd hw).mp z)
      refine ps_ift rfl (lc_t e) ?_
      exact no kk
  · rw [decide_eq_false (fun z => h2 z.1)] at kk
    refine ps_icmpt rfl (decide_eq_true (fun z => h2 (so.mp z))) ?_
    exact no kk
theorem M_isName (S : stX f T J n c) (m : mC J T c n t I L) (kk : Q [.int (bI (decide (J 7 t = 2 ∧ kwF (J 10 t) = -1)))] (I, L, g_R s, 306)) : pm_W (g_P ys) 288 0 [.ref 275, .retAddr 0] [] (I, L, g_R s, 306) (0, 0) Q := by
  have so := (cu_so S m).2.2.1
  refine ps_aload rfl rfl ?_
  refine pw_k rfl rfl rfl rfl ⟨Nat.zero_le _, Nat.zero_le _⟩ ?_
  refine M_good ?_
  rw [decide_eq_true m.1]
  refine ps_iff rfl (rfl) ?_
  refine ps_aload rfl rfl ?_
  refine ps_gfi 11 50 rfl rfl rfl rfl rfl ?_
  refine pw_c rfl ?_
  by_cases h2 : J 7 t = 2
  · rw [show ((I, L, g_R s, 306) : pm_H).1 275 50 = 1 from so.mpr h2]
    have wd : nmR (J 10 t) (L 275 54) := by
      rcases m.2.2.2.2.2.2.2 with ⟨r1, r2, _⟩ | ⟨_, _, _, _, _, r6, _⟩
      · exact absurd ((so.mpr h2).symm.trans r2) (by decide)
      · exact r6 h2
    have go : ∀ d w : Nat, w + d = 13 → (∀ j, j < w → ¬ L 275 54 = wC j) → pm_W (g_P ys) 288 19 [.ref 275, .int (nI w)] [] (I, L, g_R s, 306) (0, 0) Q := by
      intro d
      induction d with
      | zero =>
        intro w hw hj
        have : w = 13 := by omega
        subst this
        refine ps_iload rfl rfl ?_
        refine ps_aload rfl rfl ?_
        refine ps_gfr 11 55 rfl rfl rfl rfl rfl (rfl) ?_
        refine ps_alen rfl rfl ?_
        refine ps_icmpt rfl (rfl) ?_
        refine pw_c rfl ?_
        refine ps_zret rfl rfl (Or.inr rfl) ?_
        rw [decide_eq_true ⟨h2, (kw_no wd).mp hj⟩] at kk
        exact kk
      | succ d ih =>
        intro w hw hj
        refine ps_iload rfl rfl ?_
        refine ps_aload rfl rfl ?_
        refine ps_gfr 11 55 rfl rfl rfl rfl rfl (rfl) ?_
        refine ps_alen rfl rfl ?_
        refine ps_icmpf rfl (decide_eq_false (nI_ge (by omega) (by omega))) ?_
        refine ps_aload rfl rfl ?_
        refine ps_gfl 11 54 rfl rfl rfl rfl rfl ?_
        refine ps_aload rfl rfl ?_
        refine ps_gfr 11 55 rfl rfl rfl rfl rfl (rfl) ?_
        refine ps_iload rfl rfl ?_
        refine ps_lald (w) rfl rfl rfl (by simp only [ni_lit, ni_l0, pk_mul, nI_add, Nat.add_zero]) (by omega) ?_
        refine ps_ar rfl rfl rfl rfl rfl ?_
        rw [show ((I, L, g_R s, 306) : pm_H).2.1 304 w = wC w from m.2.2.2.2.2.1 w (by omega)]
        by_cases e : L 275 54 = wC w
        · refine ps_iff rfl (lc_f e) ?_
          refine pw_c rfl ?_
          refine ps_zret rfl rfl (Or.inl rfl) ?_
          rw [decide_eq_false (fun z => (kw_no wd).mpr z.2 w (by omega) e)] at kk
          exact kk
        · refine ps_ift rfl (lc_t e) ?_
          refine ps_iinc rfl rfl ?_
          refine ps_goto rfl ?_
          rw [show nI w + Int32.ofInt 1 = nI (w + 1) from nI_1 w]
          refine ih (w + 1) (by omega) (fun j hj2 => ?_)
          by_cases q : j = w
          · rw [q]
            exact e
          · exact hj j (by omega)
    refine ps_icmpt rfl (rfl) ?_
    refine pw_c rfl ?_
    refine ps_istore rfl rfl ?_
    exact go 13 0 rfl (fun j hj => absurd hj (by omega))
  · rw [decide_eq_false (fun z => h2 z.1)] at kk
    refine ps_icmpf rfl (decide_eq_false (fun z => h2 (so.mp z))) ?_
    refine pw_c rfl ?_
    refine ps_zret rfl rfl (Or.inl rfl) ?_
    exact kk
theorem M_plateNamed {nm : Nat → Int32} {ps : Nat} {x : Int32} (hps : I 275 15 = nI ps) (hp6 : ps ≤ 6) (hnm : ∀ k, k < ps → nmR (nm k) (L 287 k)) (hx : nmR x (L 275 54)) (kk : Q [.int (oI (fnN nm x ps 0))] (I, L, g_R s, 306)) : pm_W (g_P ys) 289 0 [.ref 275, .retAddr 0] [] (I, L, g_R s, 306) (0, 0) Q := by
  have go : ∀ d i : Nat, i + d = ps → Q [.int (oI (fnN nm x d i))] (I, L, g_R s, 306) → pm_W (g_P ys) 289 2 [.ref 275, .int (nI i)] [] (I, L, g_R s, 306) (0, 0) Q := by
    intro d
    induction d with
    | zero =>
      intro i hi k
      refine ps_iload rfl rfl ?_
      refine ps_aload rfl rfl ?_
      refine ps_gfi 11 15 rfl rfl rfl rfl rfl ?_
      rw [show ((I, L, g_R s, 306) : pm_H).1 275 15 = nI ps from hps]
      refine ps_icmpt rfl (decide_eq_true (nI_le (by omega) (by omega))) ?_
      refine pw_c rfl ?_
      refine ps_iret rfl rfl ?_
      exact k
    | succ d ih =>
      intro i hi k
      refine ps_iload rfl rfl ?_
      refine ps_aload rfl rfl ?_
      refine ps_gfi 11 15 rfl rfl rfl rfl rfl ?_
      rw [show ((I, L, g_R s, 306) : pm_H).1 275 15 = nI ps from hps]
      refine ps_icmpf rfl (decide_eq_false (nI_ge (by omega) (by omega))) ?_
      refine ps_aload rfl rfl ?_
      refine ps_gfr 11 13 rfl rfl rfl rfl rfl (rfl) ?_
      refine ps_iload rfl rfl ?_
      refine ps_lald (i) rfl rfl rfl (by simp only [ni_lit, ni_l0, pk_mul, nI_add, Nat.add_zero]) (by omega) ?_
      refine ps_aload rfl rfl ?_
      refine ps_gfl 11 54 rfl rfl rfl rfl rfl ?_
      refine ps_ar rfl rfl rfl rfl rfl ?_
      rw [fnN] at k
      by_cases e : nm i = x
      · rw [if_pos e] at k
        refine ps_iff rfl (lc_f ((nmR_eq (hnm i (by omega)) hx).mp e)) ?_
        refine ps_iload rfl rfl ?_
        refine ps_iret rfl rfl ?_
        exact k
      · rw [if_neg e] at k
        refine ps_ift rfl (lc_t (fun z => e ((nmR_eq (hnm i (by omega)) hx).mpr z))) ?_
        refine ps_iinc rfl rfl ?_
        refine ps_goto rfl ?_
        rw [show nI i + Int32.ofInt 1 = nI (i + 1) from nI_1 i]
        exact ih (i + 1) (by omega) k
  refine pw_c rfl ?_
  refine ps_istore rfl rfl ?_
  exact go ps 0 (by omega) kk
theorem isin_d {lo v hi : Int32} : (decide (lo.toInt64 ≤ v.toInt64) && decide (v.toInt64 ≤ hi.toInt64)) = decide (lo.toInt ≤ v.toInt ∧ v.toInt ≤ hi.toInt) := by
  rw [Bool.eq_iff_iff, Bool.and_eq_true, decide_eq_true_iff, decide_eq_true_iff, decide_eq_true_iff, le64, le64]
theorem M_takesNumberB {lo hi : Int32} (hw : 0 < (I 275 46).toInt) (kk : Q [.int lo] (I, L, g_R s, 306)) : pm_W (g_P ys) 300 0 [.ref 275, .int lo, .int hi, .retAddr 0] [] (I, L, g_R s, 306) (0, 0) Q := by
  have nz : ¬ I 275 46 = 0 := fun z => by rw [z] at hw; exact absurd hw (by decide)
  have fin : ∀ b : Int32, pm_W (g_P ys) 300 14 [.ref 275, .int lo, .int hi, .retAddr 0] [.int b, .ref 275] (I, L, g_R s, 306) (0, 0) Q := by
    intro b
    refine pw_c rfl ?_
    refine pw_k rfl rfl rfl rfl ⟨Nat.zero_le _, Nat.zero_le _⟩ ?_
    refine M_mustB hw ?_
    refine ps_aload rfl rfl ?_
    refine ps_aload rfl rfl ?_
    refine ps_gfi 11 51 rfl rfl rfl rfl rfl ?_
    refine ps_ar rfl rfl rfl rfl rfl ?_
    refine ps_iload rfl rfl ?_
    refine ps_ar rfl rfl rfl rfl rfl ?_
    refine ps_iload rfl rfl ?_
    refine ps_ar rfl rfl rfl rfl rfl ?_
    refine pw_k rfl rfl rfl rfl ⟨Nat.zero_le _, Nat.zero_le _⟩ ?_
    refine M_isIn ?_
    refine pw_c rfl ?_
    refine pw_k rfl rfl rfl rfl ⟨Nat.zero_le _, Nat.zero_le _⟩ ?_
    refine M_mustB hw ?_
    refine ps_aload rfl rfl ?_
    refine ps_gfi 11 51 rfl rfl rfl rfl rfl ?_
    refine ps_istore rfl rfl ?_
    refine ps_aload rfl rfl ?_
    refine pw_k rfl rfl rfl rfl ⟨Nat.zero_le _, Nat.zero_le _⟩ ?_
    refine M_goesOnB nz ?_
    refine ps_aload rfl rfl ?_
    refine pw_k rfl rfl rfl rfl ⟨Nat.zero_le _, Nat.zero_le _⟩ ?_
    refine M_good ?_
    rw [decide_eq_false nz]
    refine ps_ift rfl (rfl) ?_
    refine ps_iload rfl rfl ?_
    refine ps_iret rfl rfl ?_
    exact kk
  refine ps_aload rfl rfl ?_
  refine ps_aload rfl rfl ?_
  refine ps_gfi 11 50 rfl rfl rfl rfl rfl ?_
  refine pw_c rfl ?_
  refine ps_icmp rfl (fun hc => ?_) (fun hc => ?_)
  · refine pw_c rfl ?_
    exact fin 0
  · refine pw_c rfl ?_
    refine ps_goto rfl ?_
    exact fin 1
theorem M_takesNumber {lo hi : Int32} (S : stX f T J n c) (m : mC J T c n t I L) (kB : ∀ k u, xNum J lo.toInt hi.toInt t = .error (k, u) → 0 < k.toInt → Q [.int lo] (bdI I k (J 8 u), L, g_R s, 306)) (kO : ∀ v, xNum J lo.toInt hi.toInt t = .ok v → ∀ I' L', dAg I I' → lA L L' → mC J T c n (t + 1) I' L' → Q [.int v] (I', L', g_R s, 306)) : pm_W (g_P ys) 300 0 [.ref 275, .int lo, .int hi, .retAddr 0] [] (I, L, g_R s, 306) (0, 0) Q := by
  have so := (cu_so S m).2.2.2.1
  have wb : ∀ k p : Int32, 0 < k.toInt → 0 < (bdI I k p 275 46).toInt := fun k p h => by rw [bd_w]; exact h
  have wz : ∀ k p : Int32, 0 < k.toInt → ¬ bdI I k p 275 46 = 0 := fun k p h z => by rw [bd_w] at z; rw [z] at h; exact absurd h (by decide)
  by_cases h3 : J 7 t = 3
  · refine ps_aload rfl rfl ?_
    refine ps_aload rfl rfl ?_
    refine ps_gfi 11 50 rfl rfl rfl rfl rfl ?_
    refine pw_c rfl ?_
    rw [show ((I, L, g_R s, 306) : pm_H).1 275 50 = 2 from so.mpr h3]
    have hv : I 275 51 = J 10 t := by
      rcases m.2.2.2.2.2.2.2 with ⟨r1, r2, _⟩ | ⟨_, _, _, _, _, _, r7, _⟩
      · exact absurd ((so.mpr h3).symm.trans r2) (by decide)
      · exact r7 h3
    refine ps_icmpf rfl (rfl) ?_
    refine pw_c rfl ?_
    refine ps_goto rfl ?_
    refine pw_c rfl ?_
    refine pw_k rfl rfl rfl rfl ⟨Nat.zero_le _, Nat.zero_le _⟩ ?_
    refine M_mustT (by decide) ?_
    refine ps_aload rfl rfl ?_
    refine ps_aload rfl rfl ?_
    refine ps_gfi 11 51 rfl rfl rfl rfl rfl ?_
    refine ps_ar rfl rfl rfl rfl rfl ?_
    refine ps_iload rfl rfl ?_
    refine ps_ar rfl rfl rfl rfl rfl ?_
    refine ps_iload rfl rfl ?_
    refine ps_ar rfl rfl rfl rfl rfl ?_
    refine pw_k rfl rfl rfl rfl ⟨Nat.zero_le _, Nat.zero_le _⟩ ?_
    refine M_isIn ?_
    rw [show ((I, L, g_R s, 306) : pm_H).1 275 51 = J 10 t from hv, isin_d]
    by_cases hr : lo.toInt ≤ (J 10 t).toInt ∧ (J 10 t).toInt ≤ hi.toInt
    · rw [decide_eq_true hr]
      have e : xNum J lo.toInt hi.toInt t = .ok (J 10 t) := by
        unfold xNum
        rw [if_pos h3, if_pos hr]
      refine pw_c rfl ?_
      refine pw_k rfl rfl rfl rfl ⟨Nat.zero_le _, Nat.zero_le _⟩ ?_
      refine M_mustT (by decide) ?_
      refine ps_aload rfl rfl ?_
      refine ps_gfi 11 51 rfl rfl rfl rfl rfl ?_
      refine ps_istore rfl rfl ?_
      refine ps_aload rfl rfl ?_
      refine pw_k rfl rfl rfl rfl ⟨Nat.zero_le _, Nat.zero_le _⟩ ?_
      refine M_goesOn S m (cu_lt S m (by rw [h3]; decide)) ?_
      intro I' L' d l m'
      refine ps_aload rfl rfl ?_
      refine pw_k rfl rfl rfl rfl ⟨Nat.zero_le _, Nat.zero_le _⟩ ?_
      refine M_good ?_
      rw [decide_eq_true m'.1]
      refine ps_iff rfl (rfl) ?_
      refine ps_iload rfl rfl ?_
      refine ps_goto rfl ?_
      refine ps_iret rfl rfl ?_
      rw [show ((I, L, g_R s, 306) : pm_H).1 275 51 = J 10 t from hv]
      exact kO _ e _ _ d l m'
    · rw [decide_eq_false hr]
      have e : xNum J lo.toInt hi.toInt t = .error (3, t) := by
        unfold xNum
        rw [if_pos h3, if_neg hr]
      refine pw_c rfl ?_
      refine pw_k rfl rfl rfl rfl ⟨Nat.zero_le _, Nat.zero_le _⟩ ?_
      refine M_mustN m (by decide) ?_
      refine ps_aload rfl rfl ?_
      refine ps_gfi 11 51 rfl rfl rfl rfl rfl ?_
      refine ps_istore rfl rfl ?_
      refine ps_aload rfl rfl ?_
      refine pw_k rfl rfl rfl rfl ⟨Nat.zero_le _, Nat.zero_le _⟩ ?_
      refine M_goesOnB (wz _ _ (by decide)) ?_
      refine ps_aload rfl rfl ?_
      refine pw_k rfl rfl rfl rfl ⟨Nat.zero_le _, Nat.zero_le _⟩ ?_
      refine M_good ?_
      rw [decide_eq_false (wz _ _ (by decide))]
      refine ps_ift rfl (rfl) ?_
      refine ps_iload rfl rfl ?_
      refine ps_iret rfl rfl ?_
      exact kB _ _ e (by decide)
  · have e : xNum J lo.toInt hi.toInt t = .error (eK J t, t) := by
      unfold xNum
      rw [if_neg h3]
    refine ps_aload rfl rfl ?_
    refine ps_aload rfl rfl ?_
    refine ps_gfi 11 50 rfl rfl rfl rfl rfl ?_
    refine pw_c rfl ?_
    refine ps_icmpt rfl (decide_eq_true (fun z => h3 (so.mp z))) ?_
    refine pw_c rfl ?_
    refine pw_c rfl ?_
    refine pw_k rfl rfl rfl rfl ⟨Nat.zero_le _, Nat.zero_le _⟩ ?_
    refine M_must2 S m ?_
    refine ps_aload rfl rfl ?_
    refine ps_aload rfl rfl ?_
    refine ps_gfi 11 51 rfl rfl rfl rfl rfl ?_
    refine ps_ar rfl rfl rfl rfl rfl ?_
    refine ps_iload rfl rfl ?_
    refine ps_ar rfl rfl rfl rfl rfl ?_
    refine ps_iload rfl rfl ?_
    refine ps_ar rfl rfl rfl rfl rfl ?_
    refine pw_k rfl rfl rfl rfl ⟨Nat.zero_le _, Nat.zero_le _⟩ ?_
    refine M_isIn ?_
    refine pw_c rfl ?_
    refine pw_k rfl rfl rfl rfl ⟨Nat.zero_le _, Nat.zero_le _⟩ ?_
    refine M_mustB (wb _ _ eK_pos) ?_
    refine ps_aload rfl rfl ?_
    refine ps_gfi 11 51 rfl rfl rfl rfl rfl ?_
    refine ps_istore rfl rfl ?_
    refine ps_aload rfl rfl ?_
    refine pw_k rfl rfl rfl rfl ⟨Nat.zero_le _, Nat.zero_le _⟩ ?_
    refine M_goesOnB (wz _ _ eK_pos) ?_
    refine ps_aload rfl rfl ?_
    refine pw_k rfl rfl rfl rfl ⟨Nat.zero_le _, Nat.zero_le _⟩ ?_
    refine M_good ?_
    rw [decide_eq_false (wz _ _ eK_pos)]
    refine ps_ift rfl (rfl) ?_
    refine ps_iload rfl rfl ?_
    refine ps_iret rfl rfl ?_
    exact kB _ _ e eK_pos
end KE

