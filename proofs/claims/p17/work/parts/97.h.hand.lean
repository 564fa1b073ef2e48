/-! BY HAND: the model's steps through a text, third: PLATES that a LINE names, PRIMES, a LINE's begin -/
section KF
variable {f T : Nat → Int32} {J I I' : Nat → Nat → Int32} {L L' : Nat → Nat → Int64} {n c t : Nat} {s : Nat → Option Nat} {Q : List Value → pm_H → Prop} {ys : List Int32} {B : sB}
theorem bd_wb {k p : Int32} (h : 0 < k.toInt) : 0 < (bdI I k p 275 46).toInt := by rw [bd_w]; exact h
theorem w_nz {I : Nat → Nat → Int32} (h : 0 < (I 275 46).toInt) : ¬ I 275 46 = 0 := fun z => by rw [z] at h; exact absurd h (by decide)
theorem mC_wd (S : stX f T J n c) (m : mC J T c n t I L) (h2 : J 7 t = 2) : nmR (J 10 t) (L 275 54) := by
  rcases m.2.2.2.2.2.2.2 with ⟨r1, r2, _⟩ | ⟨_, _, _, _, _, r6, _⟩
  · rw [r1] at h2
    exact absurd (S.1.2.2.2.2.1.symm.trans h2) (by decide)
  · exact r6 h2
theorem mC_nu (S : stX f T J n c) (m : mC J T c n t I L) (h3 : J 7 t = 3) : I 275 51 = J 10 t := by
  rcases m.2.2.2.2.2.2.2 with ⟨r1, r2, _⟩ | ⟨_, _, _, _, _, _, r7, _⟩
  · rw [r1] at h3
    exact absurd (S.1.2.2.2.2.1.symm.trans h3) (by decide)
  · exact r7 h3
/-- takesPlate, wrong already -/
theorem M_tpTail {a b : Value} {k : Int32} (hw : 0 < (I 275 46).toInt) (kk : Q [.int 0] (I, L, g_R s, 306)) : pm_W (g_P ys) 301 39 [.ref 275, a, b, .int k] [] (I, L, g_R s, 306) (0, 0) Q := by
  refine ps_aload rfl rfl ?_
  refine ps_aload rfl rfl ?_
  refine pw_k rfl rfl rfl rfl ⟨Nat.zero_le _, Nat.zero_le _⟩ ?_
  refine M_good ?_
  rw [decide_eq_false (w_nz hw)]
  refine ps_ift rfl (rfl) ?_
  refine pw_c rfl ?_
  refine ps_goto rfl ?_
  refine pw_c rfl ?_
  refine pw_k rfl rfl rfl rfl ⟨Nat.zero_le _, Nat.zero_le _⟩ ?_
  refine M_mustB hw ?_
  refine ps_aload rfl rfl ?_
  refine pw_k rfl rfl rfl rfl ⟨Nat.zero_le _, Nat.zero_le _⟩ ?_
  refine M_goesOnB (w_nz hw) ?_
  refine ps_aload rfl rfl ?_
  refine pw_k rfl rfl rfl rfl ⟨Nat.zero_le _, Nat.zero_le _⟩ ?_
  refine M_good ?_
  rw [decide_eq_false (w_nz hw)]
  refine ps_ift rfl (rfl) ?_
  refine pw_c rfl ?_
  refine ps_iret rfl rfl ?_
  exact kk
theorem M_takesPlateB {b w : Int32} (hw : 0 < (I 275 46).toInt) (kk : Q [.int 0] (I, L, g_R s, 306)) : pm_W (g_P ys) 301 0 [.ref 275, .int b, .int w, .retAddr 0] [] (I, L, g_R s, 306) (0, 0) Q := by
  have nm : ∀ {Q : List Value → pm_H → Prop}, Q [.int 0] (I, L, g_R s, 306) → pm_W (g_P ys) 288 0 [.ref 275, .retAddr 0] [] (I, L, g_R s, 306) (0, 0) Q := by
    intro Q k
    refine ps_aload rfl rfl ?_
    refine pw_k rfl rfl rfl rfl ⟨Nat.zero_le _, Nat.zero_le _⟩ ?_
    refine M_good ?_
    rw [decide_eq_false (w_nz hw)]
    refine ps_ift rfl (rfl) ?_
    refine pw_c rfl ?_
    refine ps_zret rfl rfl (Or.inl rfl) ?_
    exact k
  refine ps_aload rfl rfl ?_
  refine ps_aload rfl rfl ?_
  refine pw_k rfl rfl rfl rfl ⟨Nat.zero_le _, Nat.zero_le _⟩ ?_
  refine nm ?_
  refine pw_c rfl ?_
  refine pw_k rfl rfl rfl rfl ⟨Nat.zero_le _, Nat.zero_le _⟩ ?_
  refine M_mustB hw ?_
  refine ps_aload rfl rfl ?_
  refine pw_k rfl rfl rfl rfl ⟨Nat.zero_le _, Nat.zero_le _⟩ ?_
  refine M_good ?_
  rw [decide_eq_false (w_nz hw)]
  refine ps_ift rfl (rfl) ?_
  refine pw_c rfl ?_
  refine ps_istore rfl rfl ?_
  refine ps_aload rfl rfl ?_
  refine ps_iload rfl rfl ?_
  refine ps_iff rfl (rfl) ?_
  refine pw_c rfl ?_
  refine ps_goto rfl ?_
  refine pw_c rfl ?_
  refine pw_k rfl rfl rfl rfl ⟨Nat.zero_le _, Nat.zero_le _⟩ ?_
  refine M_mustB hw ?_
  exact M_tpTail hw kk
theorem M_takesPlate {b : Int32} {wd : Nat} (S : stX f T J n c) (m : mC J T c n t I L) (hB : mBn B I L) (ok : B.ok) (hb : b = 0 ∨ b = 1) (hwd : wd ≤ 289) {X : sR Nat} (hX : X = if b = 0 then xNam J B t else xNaB J B wd t) (kB : ∀ k u, X = .error (k, u) → 0 < k.toInt → Q [.int 0] (bdI I k (J 8 u), L, g_R s, 306)) (kO : ∀ k, X = .ok k → ∀ I' L', dAg I I' → lA L L' → mC J T c n (t + 1) I' L' → Q [.int (nI k)] (I', L', g_R s, 306)) : pm_W (g_P ys) 301 0 [.ref 275, .int b, .int (nI wd), .retAddr 0] [] (I, L, g_R s, 306) (0, 0) Q := by
  have er : ∀ e, xNam J B t = .error e → X = .error e := by
    intro e he
    rw [hX]
    rcases hb with rfl | rfl
    · rw [if_pos rfl]
      exact he
    · rw [if_neg (by decide)]
      unfold xNaB
      rw [he]
  by_cases hn : J 7 t = 2 ∧ kwF (J 10 t) = -1
  · refine ps_aload rfl rfl ?_
    refine ps_aload rfl rfl ?_
    refine pw_k rfl rfl rfl rfl ⟨Nat.zero_le _, Nat.zero_le _⟩ ?_
    refine M_isName S m ?_
    rw [decide_eq_true hn]
    refine pw_c rfl ?_
    refine pw_k rfl rfl rfl rfl ⟨Nat.zero_le _, Nat.zero_le _⟩ ?_
    refine M_mustT (by decide) ?_
    refine ps_aload rfl rfl ?_
    refine pw_k rfl rfl rfl rfl ⟨Nat.zero_le _, Nat.zero_le _⟩ ?_
    refine M_good ?_
    rw [decide_eq_true m.1]
    refine ps_iff rfl (rfl) ?_
    refine ps_aload rfl rfl ?_
    refine pw_k rfl rfl rfl rfl ⟨Nat.zero_le _, Nat.zero_le _⟩ ?_
    refine M_plateNamed hB.1 ok.1 (fun k hk => (hB.2.1 k hk).2.2.1) (mC_wd S m hn.1) ?_
    refine ps_goto rfl ?_
    cases e : fnN (fun k => (B.pl k).nm) (J 10 t) B.ps 0 with
    | none =>
      have ex : xNam J B t = .error (4, t) := by
        unfold xNam
        rw [if_pos hn.1, if_pos hn.2, e]
      refine ps_istore rfl rfl ?_
      refine ps_aload rfl rfl ?_
      refine ps_iload rfl rfl ?_
      refine ps_ift rfl (rfl) ?_
      refine pw_c rfl ?_
      refine pw_c rfl ?_
      refine pw_k rfl rfl rfl rfl ⟨Nat.zero_le _, Nat.zero_le _⟩ ?_
      refine M_mustN m (by decide) ?_
      refine M_tpTail (bd_wb (by decide)) ?_
      exact kB _ _ (er _ ex) (by decide)
    | some k =>
      rw [show oI (some k) = nI k from rfl]
      obtain ⟨_, k6, _⟩ := fnN_lt e
      have k6 : k < B.ps := by omega
      have ps6 := ok.1
      have ex : xNam J B t = .ok k := by
        unfold xNam
        rw [if_pos hn.1, if_pos hn.2, e]
      have fin : X = .ok k → pm_W (g_P ys) 301 85 [.ref 275, .int b, .int (nI wd), .int (nI k)] [.ref 275] (I, L, g_R s, 306) (0, 0) Q := by
        intro ek
        refine pw_c rfl ?_
        refine ps_goto rfl ?_
        refine pw_c rfl ?_
        refine pw_k rfl rfl rfl rfl ⟨Nat.zero_le _, Nat.zero_le _⟩ ?_
        refine M_mustT (by decide) ?_
        refine ps_aload rfl rfl ?_
        refine pw_k rfl rfl rfl rfl ⟨Nat.zero_le _, Nat.zero_le _⟩ ?_
        refine M_goesOn S m (cu_lt S m (by rw [hn.1]; decide)) ?_
        intro I' L' d l m'
        refine ps_aload rfl rfl ?_
        refine pw_k rfl rfl rfl rfl ⟨Nat.zero_le _, Nat.zero_le _⟩ ?_
        refine M_good ?_
        rw [decide_eq_true m'.1]
        refine ps_iff rfl (rfl) ?_
        refine ps_iload rfl rfl ?_
        refine ps_goto rfl ?_
        refine ps_iret rfl rfl ?_
        exact kO _ ek _ _ d l m'
      have nlt : ¬ nI k < 0 := fun z => by
        rw [i_lt, nI_toInt (by omega)] at z
        have : (0 : Int32).toInt = 0 := rfl
        omega
      refine ps_istore rfl rfl ?_
      refine ps_aload rfl rfl ?_
      refine ps_iload rfl rfl ?_
      refine ps_iff rfl (decide_eq_false nlt) ?_
      refine pw_c rfl ?_
      refine ps_goto rfl ?_
      refine pw_c rfl ?_
      refine pw_k rfl rfl rfl rfl ⟨Nat.zero_le _, Nat.zero_le _⟩ ?_
      refine M_mustT (by decide) ?_
      refine ps_aload rfl rfl ?_
      refine ps_aload rfl rfl ?_
      refine pw_k rfl rfl rfl rfl ⟨Nat.zero_le _, Nat.zero_le _⟩ ?_
      refine M_good ?_
      rw [decide_eq_true m.1]
      refine ps_iff rfl (rfl) ?_
      refine ps_iload rfl rfl ?_
      rcases hb with rfl | rfl
      · refine ps_ift rfl (rfl) ?_
        rw [if_pos rfl] at hX
        exact fin (hX.trans ex)
      · rw [if_neg (by decide)] at hX
        unfold xNaB at hX
        rw [ex] at hX
        obtain ⟨w1, w2, w3, w4⟩ := ok.2.1 k k6
        obtain ⟨p1, p2, _, _⟩ := hB.2.1 k k6
        have w289 : (B.pl k).w ≤ 289 := Nat.le_trans (Nat.le_mul_of_pos_right _ w2) w3
        have v289 : (B.pl k).v ≤ 289 := Nat.le_trans (Nat.le_mul_of_pos_left _ w1) w3
        have no : ¬ ((B.pl k).v = 1 ∧ (B.pl k).w * wd ≤ 289) → pm_W (g_P ys) 301 89 [.ref 275, .int 1, .int (nI wd), .int (nI k)] [.ref 275] (I, L, g_R s, 306) (0, 0) Q := by
          intro z
          have hX : X = .error (5, t) := by
            rw [hX]
            exact if_neg z
          have hw : 0 < (bdI I 5 (J 8 t) 275 46).toInt := bd_wb (by decide)
          refine pw_c rfl ?_
          refine pw_c rfl ?_
          refine pw_k rfl rfl rfl rfl ⟨Nat.zero_le _, Nat.zero_le _⟩ ?_
          refine M_mustN m (by decide) ?_
          refine ps_aload rfl rfl ?_
          refine pw_k rfl rfl rfl rfl ⟨Nat.zero_le _, Nat.zero_le _⟩ ?_
          refine M_goesOnB (w_nz hw) ?_
          refine ps_aload rfl rfl ?_
          refine pw_k rfl rfl rfl rfl ⟨Nat.zero_le _, Nat.zero_le _⟩ ?_
          refine M_good ?_
          rw [decide_eq_false (w_nz hw)]
          refine ps_ift rfl (rfl) ?_
          refine pw_c rfl ?_
          refine ps_iret rfl rfl ?_
          exact kB _ _ hX (by decide)
        refine ps_iff rfl (rfl) ?_
        refine ps_aload rfl rfl ?_
        refine ps_gfr 11 5 rfl rfl rfl rfl rfl (rfl) ?_
        refine pw_c rfl ?_
        refine ps_iload rfl rfl ?_
        refine ps_ar rfl rfl rfl rfl rfl ?_
        refine pw_c rfl ?_
        refine ps_ar rfl rfl rfl rfl rfl ?_
        refine ps_iald (7 * k + 1) rfl rfl rfl (by simp only [ni_lit, ni_l0, pk_mul, nI_add, Nat.add_zero]) (by omega) ?_
        rw [show ((I, L, g_R s, 306) : pm_H).1 279 (7 * k + 1) = nI (B.pl k).v from p2]
        by_cases hv : (B.pl k).v = 1
        · rw [hv]
          refine pw_c rfl ?_
          refine ps_icmpf rfl (rfl) ?_
          refine ps_aload rfl rfl ?_
          refine ps_gfr 11 5 rfl rfl rfl rfl rfl (rfl) ?_
          refine pw_c rfl ?_
          refine ps_iload rfl rfl ?_
          refine ps_ar rfl rfl rfl rfl rfl ?_
          refine pw_c rfl ?_
          refine ps_ar rfl rfl rfl rfl rfl ?_
          refine ps_iald (7 * k) rfl rfl rfl (by simp only [ni_lit, ni_l0, pk_mul, nI_add, Nat.add_zero]) (by omega) ?_
          refine ps_iload rfl rfl ?_
          refine ps_ar rfl rfl rfl rfl rfl ?_
          rw [show ((I, L, g_R s, 306) : pm_H).1 279 (7 * k) = nI (B.pl k).w from p1, pk_mul]
          have wm : (B.pl k).w * wd ≤ 289 * 289 := Nat.mul_le_mul w289 hwd
          by_cases hm : (B.pl k).w * wd ≤ 289
          · refine pw_c rfl ?_
            refine ps_icmpf rfl (decide_eq_false (fun z => absurd ((nI_ltI (a := 289) (by omega) (by omega)).mp z) (by omega))) ?_
            exact fin (hX.trans (if_pos ⟨hv, hm⟩))
          · refine pw_c rfl ?_
            refine ps_icmpt rfl (decide_eq_true (nI_lt (a := 289) (by omega) (by omega))) ?_
            exact no (fun z => hm z.2)
        · refine pw_c rfl ?_
          refine ps_icmpt rfl (decide_eq_true (fun z => hv (nI_inj (by omega) (by omega) z))) ?_
          exact no (fun z => hv z.1)
  · have ex : xNam J B t = .error (eK J t, t) := by
      unfold xNam
      by_cases h2 : J 7 t = 2
      · rw [if_pos h2, if_neg (fun z => hn ⟨h2, z⟩)]
        unfold eK
        rw [if_neg (by rw [h2]; decide)]
      · rw [if_neg h2]
    refine ps_aload rfl rfl ?_
    refine ps_aload rfl rfl ?_
    refine pw_k rfl rfl rfl rfl ⟨Nat.zero_le _, Nat.zero_le _⟩ ?_
    refine M_isName S m ?_
    rw [decide_eq_false hn]
    have hw : 0 < (bdI I (eK J t) (J 8 t) 275 46).toInt := bd_wb eK_pos
    refine pw_c rfl ?_
    refine pw_k rfl rfl rfl rfl ⟨Nat.zero_le _, Nat.zero_le _⟩ ?_
    refine M_must2 S m ?_
    refine ps_aload rfl rfl ?_
    refine pw_k rfl rfl rfl rfl ⟨Nat.zero_le _, Nat.zero_le _⟩ ?_
    refine M_good ?_
    rw [decide_eq_false (w_nz hw)]
    refine ps_ift rfl (rfl) ?_
    refine pw_c rfl ?_
    refine ps_istore rfl rfl ?_
    refine ps_aload rfl rfl ?_
    refine ps_iload rfl rfl ?_
    refine ps_iff rfl (rfl) ?_
    refine pw_c rfl ?_
    refine ps_goto rfl ?_
    refine pw_c rfl ?_
    refine pw_k rfl rfl rfl rfl ⟨Nat.zero_le _, Nat.zero_le _⟩ ?_
    refine M_mustB hw ?_
    refine M_tpTail hw ?_
    exact kB _ _ (er _ ex) eK_pos
end KF
