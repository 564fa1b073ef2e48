/-! BY HAND: the model's steps through a text, fourth: PRIMES, a LINE's begin, things -/
section KG
variable {f T : Nat → Int32} {J I I' : Nat → Nat → Int32} {L L' : Nat → Nat → Int64} {n c t : Nat} {s : Nat → Option Nat} {Q : List Value → pm_H → Prop} {ys : List Int32} {B : sB}
theorem pri_B (p : Int32) : (decide (3 ≤ p.toInt) && decide (p.toInt ≤ 47) && prB p.toInt.toNat) = decide (3 ≤ p.toInt ∧ p.toInt ≤ 47 ∧ prB p.toInt.toNat = true) := by
  rw [Bool.eq_iff_iff, Bool.and_eq_true, Bool.and_eq_true, decide_eq_true_iff, decide_eq_true_iff, decide_eq_true_iff]
  exact ⟨fun z => ⟨z.1.1, z.1.2, z.2⟩, fun z => ⟨⟨z.1, z.2.1⟩, z.2.2⟩⟩
theorem M_takesPrime {hi : Int32} (S : stX f T J n c) (m : mC J T c n t I L) (kB : ∀ k u, xPri J hi.toInt t = .error (k, u) → 0 < k.toInt → Q [.int 3] (bdI I k (J 8 u), L, g_R s, 306)) (kO : ∀ v, xPri J hi.toInt t = .ok v → ∀ I' L', dAg I I' → lA L L' → mC J T c n (t + 1) I' L' → Q [.int v] (I', L', g_R s, 306)) : pm_W (g_P ys) 291 0 [.ref 275, .int hi, .retAddr 0] [] (I, L, g_R s, 306) (0, 0) Q := by
  have so := (cu_so S m).2.2.2.1
  have tail : ∀ (I : Nat → Nat → Int32) (x : Int32), 0 < (I 275 46).toInt → Q [.int 3] (I, L, g_R s, 306) → pm_W (g_P ys) 291 42 [.ref 275, .int hi, .retAddr 0] [.int x, .ref 275] (I, L, g_R s, 306) (0, 0) Q := by
    intro I x hw k
    refine pw_c rfl ?_
    refine pw_k rfl rfl rfl rfl ⟨Nat.zero_le _, Nat.zero_le _⟩ ?_
    refine M_mustB hw ?_
    refine ps_aload rfl rfl ?_
    refine ps_gfi 11 51 rfl rfl rfl rfl rfl ?_
    refine ps_istore rfl rfl ?_
    refine ps_aload rfl rfl ?_
    refine pw_k rfl rfl rfl rfl ⟨Nat.zero_le _, Nat.zero_le _⟩ ?_
    refine M_goesOnB (w_nz hw) ?_
    refine ps_aload rfl rfl ?_
    refine pw_k rfl rfl rfl rfl ⟨Nat.zero_le _, Nat.zero_le _⟩ ?_
    refine M_good ?_
    rw [decide_eq_false (w_nz hw)]
    refine ps_ift rfl (rfl) ?_
    refine pw_c rfl ?_
    refine ps_iret rfl rfl ?_
    exact k
  by_cases h3 : J 7 t = 3
  · have hv := mC_nu S m h3
    refine ps_aload rfl rfl ?_
    refine ps_aload rfl rfl ?_
    refine ps_gfi 11 50 rfl rfl rfl rfl rfl ?_
    refine pw_c rfl ?_
    rw [show ((I, L, g_R s, 306) : pm_H).1 275 50 = 2 from so.mpr h3]
    refine ps_icmpf rfl (rfl) ?_
    refine pw_c rfl ?_
    refine ps_goto rfl ?_
    refine pw_c rfl ?_
    refine pw_k rfl rfl rfl rfl ⟨Nat.zero_le _, Nat.zero_le _⟩ ?_
    refine M_mustT (by decide) ?_
    refine ps_aload rfl rfl ?_
    refine ps_aload rfl rfl ?_
    refine ps_gfi 11 51 rfl rfl rfl rfl rfl ?_
    refine ps_iload rfl rfl ?_
    rw [show ((I, L, g_R s, 306) : pm_H).1 275 51 = J 10 t from hv]
    have bad : ¬ ((J 10 t).toInt ≤ hi.toInt ∧ 3 ≤ (J 10 t).toInt ∧ (J 10 t).toInt ≤ 47 ∧ prB (J 10 t).toInt.toNat = true) → pm_W (g_P ys) 291 41 [.ref 275, .int hi, .retAddr 0] [.ref 275] (I, L, g_R s, 306) (0, 0) Q := by
      intro z
      have e : xPri J hi.toInt t = .error (3, t) := by
        unfold xPri
        rw [if_pos h3, if_neg z]
      have hw : 0 < (bdI I 3 (J 8 t) 275 46).toInt := bd_wb (by decide)
      refine pw_c rfl ?_
      refine pw_c rfl ?_
      refine pw_k rfl rfl rfl rfl ⟨Nat.zero_le _, Nat.zero_le _⟩ ?_
      refine M_mustN m (by decide) ?_
      refine ps_aload rfl rfl ?_
      refine ps_gfi 11 51 rfl rfl rfl rfl rfl ?_
      refine ps_istore rfl rfl ?_
      refine ps_aload rfl rfl ?_
      refine pw_k rfl rfl rfl rfl ⟨Nat.zero_le _, Nat.zero_le _⟩ ?_
      refine M_goesOnB (w_nz hw) ?_
      refine ps_aload rfl rfl ?_
      refine pw_k rfl rfl rfl rfl ⟨Nat.zero_le _, Nat.zero_le _⟩ ?_
      refine M_good ?_
      rw [decide_eq_false (w_nz hw)]
      refine ps_ift rfl (rfl) ?_
      refine pw_c rfl ?_
      refine ps_iret rfl rfl ?_
      exact kB _ _ e (by decide)
    by_cases hh : (J 10 t).toInt ≤ hi.toInt
    · refine ps_icmpf rfl (decide_eq_false (fun z => absurd ((i_lt _ _).mp z) (by omega))) ?_
      refine ps_aload rfl rfl ?_
      refine ps_gfi 11 51 rfl rfl rfl rfl rfl ?_
      refine pw_k rfl rfl rfl rfl ⟨Nat.zero_le _, Nat.zero_le _⟩ ?_
      refine M_isPrimeX _ ?_
      rw [show ((I, L, g_R s, 306) : pm_H).1 275 51 = J 10 t from hv, pri_B]
      by_cases hp : 3 ≤ (J 10 t).toInt ∧ (J 10 t).toInt ≤ 47 ∧ prB (J 10 t).toInt.toNat = true
      · rw [decide_eq_true hp]
        have e : xPri J hi.toInt t = .ok (J 10 t) := by
          unfold xPri
          rw [if_pos h3, if_pos ⟨hh, hp⟩]
        refine ps_iff rfl (rfl) ?_
        refine pw_c rfl ?_
        refine ps_goto rfl ?_
        refine pw_c rfl ?_
        refine pw_k rfl rfl rfl rfl ⟨Nat.zero_le _, Nat.zero_le _⟩ ?_
        refine M_mustT (by decide) ?_
        refine ps_aload rfl rfl ?_
        refine ps_gfi 11 51 rfl rfl rfl rfl rfl ?_
        refine ps_istore rfl rfl ?_
        refine ps_aload rfl rfl ?_
        refine pw_k rfl rfl rfl rfl ⟨Nat.zero_le _, Nat.zero_le _⟩ ?_
        refine M_goesOn S m (cu_lt S m (by rw [h3]; decide)) ?_
        intro I' L' d l m'
        refine ps_aload rfl rfl ?_
        refine pw_k rfl rfl rfl rfl ⟨Nat.zero_le _, Nat.zero_le _⟩ ?_
        refine M_good ?_
        rw [decide_eq_true m'.1]
        refine ps_iff rfl (rfl) ?_
        refine ps_iload rfl rfl ?_
        refine ps_goto rfl ?_
        refine ps_iret rfl rfl ?_
        rw [show ((I, L, g_R s, 306) : pm_H).1 275 51 = J 10 t from hv]
        exact kO _ e _ _ d l m'
      · rw [decide_eq_false hp]
        refine ps_ift rfl (rfl) ?_
        exact bad (fun z => hp z.2)
    · refine ps_icmpt rfl (decide_eq_true ((i_lt _ _).mpr (by omega))) ?_
      exact bad (fun z => hh z.1)
  · have e : xPri J hi.toInt t = .error (eK J t, t) := by
      unfold xPri
      rw [if_neg h3]
    have hw : 0 < (bdI I (eK J t) (J 8 t) 275 46).toInt := bd_wb eK_pos
    refine ps_aload rfl rfl ?_
    refine ps_aload rfl rfl ?_
    refine ps_gfi 11 50 rfl rfl rfl rfl rfl ?_
    refine pw_c rfl ?_
    refine ps_icmpt rfl (decide_eq_true (fun z => h3 (so.mp z))) ?_
    refine pw_c rfl ?_
    refine pw_c rfl ?_
    refine pw_k rfl rfl rfl rfl ⟨Nat.zero_le _, Nat.zero_le _⟩ ?_
    refine M_must2 S m ?_
    refine ps_aload rfl rfl ?_
    refine ps_aload rfl rfl ?_
    refine ps_gfi 11 51 rfl rfl rfl rfl rfl ?_
    refine ps_iload rfl rfl ?_
    have cont : ∀ x : Int32, pm_W (g_P ys) 291 42 [.ref 275, .int hi, .retAddr 0] [.int x, .ref 275] (bdI I (eK J t) (J 8 t), L, g_R s, 306) (0, 0) Q := fun x => tail _ x hw (kB _ _ e eK_pos)
    refine ps_icmp rfl (fun h1 => ?_) (fun h1 => ?_)
    · refine pw_c rfl ?_
      exact cont 0
    · refine ps_aload rfl rfl ?_
      refine ps_gfi 11 51 rfl rfl rfl rfl rfl ?_
      refine pw_k rfl rfl rfl rfl ⟨Nat.zero_le _, Nat.zero_le _⟩ ?_
      refine M_isPrimeX _ ?_
      cases (decide (3 ≤ (((bdI I (eK J t) (J 8 t), L, g_R s, 306) : pm_H).1 275 51).toInt) && decide ((((bdI I (eK J t) (J 8 t), L, g_R s, 306) : pm_H).1 275 51).toInt ≤ 47) && prB (((bdI I (eK J t) (J 8 t), L, g_R s, 306) : pm_H).1 275 51).toInt.toNat) with
      | true =>
        refine ps_iff rfl (rfl) ?_
        refine pw_c rfl ?_
        refine ps_goto rfl ?_
        exact cont 1
      | false =>
        refine ps_ift rfl (rfl) ?_
        refine pw_c rfl ?_
        exact cont 0
/-- begins, behind a word: room for one more -/
theorem M_begins {a b : Nat} (S : stX f T J n c) (m : mC J T c n t I L) (ht : t < c) (ha : a ≤ 100) (hb : b ≤ 100) (kB : ¬ a < b → Q [.int 0] (bdI I 6 (J 8 t), L, g_R s, 306)) (kO : a < b → ∀ I' L', dAg I I' → lA L L' → mC J T c n (t + 1) I' L' → Q [.int 1] (I', L', g_R s, 306)) : pm_W (g_P ys) 285 0 [.ref 275, .int (nI a), .int (nI b)] [] (I, L, g_R s, 306) (0, 0) Q := by
  by_cases h : a < b
  · refine ps_aload rfl rfl ?_
    refine ps_iload rfl rfl ?_
    refine ps_iload rfl rfl ?_
    refine ps_icmpf rfl (decide_eq_false (nI_ge (by omega) (by omega))) ?_
    refine pw_c rfl ?_
    refine ps_goto rfl ?_
    refine pw_c rfl ?_
    refine pw_k rfl rfl rfl rfl ⟨Nat.zero_le _, Nat.zero_le _⟩ ?_
    refine M_mustT (by decide) ?_
    refine ps_aload rfl rfl ?_
    refine pw_k rfl rfl rfl rfl ⟨Nat.zero_le _, Nat.zero_le _⟩ ?_
    refine M_goesOn S m ht ?_
    intro I' L' d l m'
    refine ps_aload rfl rfl ?_
    refine pw_k rfl rfl rfl rfl ⟨Nat.zero_le _, Nat.zero_le _⟩ ?_
    refine M_good ?_
    rw [decide_eq_true m'.1]
    refine ps_zret rfl rfl (Or.inr rfl) ?_
    exact kO h _ _ d l m'
  · have hw : 0 < (bdI I 6 (J 8 t) 275 46).toInt := bd_wb (by decide)
    refine ps_aload rfl rfl ?_
    refine ps_iload rfl rfl ?_
    refine ps_iload rfl rfl ?_
    refine ps_icmpt rfl (decide_eq_true (nI_le (by omega) (by omega))) ?_
    refine pw_c rfl ?_
    refine pw_c rfl ?_
    refine pw_k rfl rfl rfl rfl ⟨Nat.zero_le _, Nat.zero_le _⟩ ?_
    refine M_mustN m (by decide) ?_
    refine ps_aload rfl rfl ?_
    refine pw_k rfl rfl rfl rfl ⟨Nat.zero_le _, Nat.zero_le _⟩ ?_
    refine M_goesOnB (w_nz hw) ?_
    refine ps_aload rfl rfl ?_
    refine pw_k rfl rfl rfl rfl ⟨Nat.zero_le _, Nat.zero_le _⟩ ?_
    refine M_good ?_
    rw [decide_eq_false (w_nz hw)]
    refine ps_zret rfl rfl (Or.inl rfl) ?_
    exact kB h
end KG
