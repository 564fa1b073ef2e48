/-! THE MODEL: differences, alike -/
/-- all places below n -/
def alB (f : Nat → Bool) : Nat → Bool
  | 0 => true
  | n + 1 => alB f n && f n
theorem alB_no {f : Nat → Bool} {i : Nat} (h : f i = false) : ∀ n, i < n → alB f n = false
  | 0, q => absurd q (Nat.not_lt_zero _)
  | n + 1, q => by
    rw [alB]
    rcases Nat.lt_or_eq_of_le (Nat.le_of_lt_succ q) with r | r
    · rw [alB_no h n r, Bool.false_and]
    · rw [← r, h, Bool.and_false]
theorem alB_iff {f : Nat → Bool} : ∀ n, alB f n = true ↔ ∀ i, i < n → f i = true
  | 0 => ⟨fun _ i h => absurd h (Nat.not_lt_zero _), fun _ => rfl⟩
  | n + 1 => by
    rw [alB, Bool.and_eq_true, alB_iff n]
    constructor
    · intro ⟨h1, h2⟩ i hi
      rcases Nat.lt_or_eq_of_le (Nat.le_of_lt_succ hi) with r | r
      · exact h1 i r
      · rw [r]; exact h2
    · intro h
      exact ⟨fun i hi => h i (by omega), h n (by omega)⟩
section ME
variable {ys : List Int32} {I : Nat → Nat → Int32} {L : Nat → Nat → Int64} {s : Nat → Option Nat} {Q : List Value → pm_H → Prop} {k w v : Nat} {x y : Int}
theorem M_differencesAt (hp : mPl I k w v) (hx : -100000 < x ∧ x < 100000) (hy : -100000 < y ∧ y < 100000)
    (kk : Q [.int (suI (fun j => suI (fun i => if I 280 (289 * k + cxy w v i j) = 1 then (if I 280 (289 * k + cxy w v (i + x) (j + y)) = 1 then 1 else 0) else 0) w) v)] (I, L, g_R s, 306)) : pm_W (g_P ys) 215 0 [.ref 275, .int (nI k), .int (iI x), .int (iI y), .retAddr 0, .retAddr 0, .retAddr 0] [] (I, L, g_R s, 306) (0, 0) Q := by
  obtain ⟨hk, hw, hv, hw0, hv0, hwv⟩ := id hp
  obtain ⟨hwb, hvb⟩ := hp.b
  let F : Nat → Nat → Int32 := fun j i => if I 280 (289 * k + cxy w v i j) = 1 then (if I 280 (289 * k + cxy w v (i + x) (j + y)) = 1 then 1 else 0) else 0
  have outer : ∀ d j, j + d = v → ∀ u, pm_W (g_P ys) 215 6 [.ref 275, .int (nI k), .int (iI x), .int (iI y), .int (suI (fun j => suI (F j) w) j), .int (nI j), u] [] (I, L, g_R s, 306) (0, 0) Q := by
    intro d
    induction d with
    | zero =>
      intro j hj u
      refine ps_iload rfl rfl ?_
      refine ps_aload rfl rfl ?_
      refine ps_iload rfl rfl ?_
      refine pw_k rfl rfl rfl rfl ⟨Nat.zero_le _, Nat.zero_le _⟩ ?_
      refine M_highOf hk ?_
      refine ps_icmpt rfl (by rw [hv]; exact decide_eq_true (nI_le (by omega) (by omega))) ?_
      refine ps_iload rfl rfl ?_
      refine ps_iret rfl rfl ?_
      rw [show j = v by omega]
      exact kk
    | succ d ih =>
      intro j hj u
      have inner : ∀ e i, i + e = w → pm_W (g_P ys) 215 19 [.ref 275, .int (nI k), .int (iI x), .int (iI y), .int (suI (fun j => suI (F j) w) j + suI (F j) i), .int (nI j), .int (nI i)] [] (I, L, g_R s, 306) (0, 0) Q := by
        intro e
        induction e with
        | zero =>
          intro i hi
          refine ps_iload rfl rfl ?_
          refine ps_aload rfl rfl ?_
          refine ps_iload rfl rfl ?_
          refine pw_k rfl rfl rfl rfl ⟨Nat.zero_le _, Nat.zero_le _⟩ ?_
          refine M_wideOf hk ?_
          refine ps_icmpt rfl (by rw [hw]; exact decide_eq_true (nI_le (by omega) (by omega))) ?_
          refine ps_iinc rfl rfl ?_
          refine ps_goto rfl ?_
          rw [show nI j + Int32.ofInt 1 = nI (j + 1) from nI_1 j, show i = w by omega]
          exact ih (j + 1) (by omega) _
        | succ e ihe =>
          intro i hi
          refine ps_iload rfl rfl ?_
          refine ps_aload rfl rfl ?_
          refine ps_iload rfl rfl ?_
          refine pw_k rfl rfl rfl rfl ⟨Nat.zero_le _, Nat.zero_le _⟩ ?_
          refine M_wideOf hk ?_
          refine ps_icmpf rfl (by rw [hw]; exact decide_eq_false (nI_ge (by omega) (by omega))) ?_
          have back : ∀ q, F j i = q → pm_W (g_P ys) 215 64 [.ref 275, .int (nI k), .int (iI x), .int (iI y), .int (suI (fun j => suI (F j) w) j + suI (F j) i), .int (nI j), .int (nI i)] [.int q, .int (suI (fun j => suI (F j) w) j + suI (F j) i)] (I, L, g_R s, 306) (0, 0) Q := by
            intro q hq
            refine ps_ar rfl rfl rfl rfl rfl ?_
            refine ps_istore rfl rfl ?_
            refine ps_iinc rfl rfl ?_
            refine ps_goto rfl ?_
            rw [show nI i + Int32.ofInt 1 = nI (i + 1) from nI_1 i]
            have := ihe (i + 1) (by omega)
            rw [suI, hq, ← Int32.add_assoc] at this
            exact this
          rw [← iI_nat i, ← iI_nat j] at back ⊢
          refine ps_iload rfl rfl ?_
          refine ps_aload rfl rfl ?_
          refine ps_iload rfl rfl ?_
          refine ps_iload rfl rfl ?_
          refine ps_iload rfl rfl ?_
          refine pw_k rfl rfl rfl rfl ⟨Nat.zero_le _, Nat.zero_le _⟩ ?_
          refine M_isHole hp (by omega) (by omega) ?_
          refine ps_if rfl (fun hc => ?_) (fun hc => ?_)
          · have hh : ¬ I 280 (289 * k + cxy w v i j) = 1 := fun q => by rw [decide_eq_true q] at hc; exact absurd hc (by decide)
            refine pw_c rfl ?_
            exact back 0 (if_neg hh)
          · have hh : I 280 (289 * k + cxy w v i j) = 1 := Classical.byContradiction fun q => by rw [decide_eq_false q] at hc; exact absurd hc (by decide)
            refine ps_aload rfl rfl ?_
            refine ps_iload rfl rfl ?_
            refine ps_iload rfl rfl ?_
            refine ps_iload rfl rfl ?_
            refine ps_ar rfl rfl rfl rfl rfl ?_
            refine ps_iload rfl rfl ?_
            refine ps_iload rfl rfl ?_
            refine ps_ar rfl rfl rfl rfl rfl ?_
            rw [iI_add, iI_add]
            refine pw_k rfl rfl rfl rfl ⟨Nat.zero_le _, Nat.zero_le _⟩ ?_
            refine M_isHole hp (by omega) (by omega) ?_
            refine ps_if rfl (fun hd => ?_) (fun hd => ?_)
            · have h2 : ¬ I 280 (289 * k + cxy w v (i + x) (j + y)) = 1 := fun q => by rw [decide_eq_true q] at hd; exact absurd hd (by decide)
              refine pw_c rfl ?_
              exact back 0 ((if_pos hh).trans (if_neg h2))
            · have h2 : I 280 (289 * k + cxy w v (i + x) (j + y)) = 1 := Classical.byContradiction fun q => by rw [decide_eq_false q] at hd; exact absurd hd (by decide)
              refine pw_c rfl ?_
              refine ps_goto rfl ?_
              exact back 1 ((if_pos hh).trans (if_pos h2))
      refine ps_iload rfl rfl ?_
      refine ps_aload rfl rfl ?_
      refine ps_iload rfl rfl ?_
      refine pw_k rfl rfl rfl rfl ⟨Nat.zero_le _, Nat.zero_le _⟩ ?_
      refine M_highOf hk ?_
      refine ps_icmpf rfl (by rw [hv]; exact decide_eq_false (nI_ge (by omega) (by omega))) ?_
      refine pw_c rfl ?_
      refine ps_istore rfl rfl ?_
      have := inner w 0 (by omega)
      rw [suI, Int32.add_zero] at this
      exact this
  refine pw_c rfl ?_
  refine ps_istore rfl rfl ?_
  refine pw_c rfl ?_
  refine ps_istore rfl rfl ?_
  exact outer v 0 (by omega) _
theorem M_areAlike {l : Nat} (hp : mPl I k w v) (hl : mPl I l w v) (hx : -100000 < x ∧ x < 100000) (hy : -100000 < y ∧ y < 100000)
    (kk : Q [.int (bI (alB (fun j => alB (fun i => decide (I 280 (289 * k + cxy w v i j) = 1) == decide (I 280 (289 * l + cxy w v (i - x) (j - y)) = 1)) w) v))] (I, L, g_R s, 306)) : pm_W (g_P ys) 210 0 [.ref 275, .int (nI k), .int (nI l), .int (iI x), .int (iI y), .retAddr 0, .retAddr 0] [] (I, L, g_R s, 306) (0, 0) Q := by
  obtain ⟨hk, hw, hv, hw0, hv0, hwv⟩ := id hp
  obtain ⟨hwb, hvb⟩ := hp.b
  let F : Nat → Nat → Bool := fun j i => decide (I 280 (289 * k + cxy w v i j) = 1) == decide (I 280 (289 * l + cxy w v (i - x) (j - y)) = 1)
  have outer : ∀ d j, j + d = v → alB (fun j => alB (F j) w) j = true → ∀ u, pm_W (g_P ys) 210 3 [.ref 275, .int (nI k), .int (nI l), .int (iI x), .int (iI y), .int (nI j), u] [] (I, L, g_R s, 306) (0, 0) Q := by
    intro d
    induction d with
    | zero =>
      intro j hj ha u
      refine ps_iload rfl rfl ?_
      refine ps_aload rfl rfl ?_
      refine ps_iload rfl rfl ?_
      refine pw_k rfl rfl rfl rfl ⟨Nat.zero_le _, Nat.zero_le _⟩ ?_
      refine M_highOf hk ?_
      refine ps_icmpt rfl (by rw [hv]; exact decide_eq_true (nI_le (by omega) (by omega))) ?_
      refine pw_c rfl ?_
      refine ps_zret rfl rfl (Or.inr rfl) ?_
      rw [show j = v by omega] at ha
      have kk' : Q [.int (bI (alB (fun j => alB (F j) w) v))] (I, L, g_R s, 306) := kk
      rw [ha] at kk'
      exact kk'
    | succ d ih =>
      intro j hj ha u
      have inner : ∀ e i, i + e = w → alB (F j) i = true → pm_W (g_P ys) 210 16 [.ref 275, .int (nI k), .int (nI l), .int (iI x), .int (iI y), .int (nI j), .int (nI i)] [] (I, L, g_R s, 306) (0, 0) Q := by
        intro e
        induction e with
        | zero =>
          intro i hi hb
          refine ps_iload rfl rfl ?_
          refine ps_aload rfl rfl ?_
          refine ps_iload rfl rfl ?_
          refine pw_k rfl rfl rfl rfl ⟨Nat.zero_le _, Nat.zero_le _⟩ ?_
          refine M_wideOf hk ?_
          refine ps_icmpt rfl (by rw [hw]; exact decide_eq_true (nI_le (by omega) (by omega))) ?_
          refine ps_iinc rfl rfl ?_
          refine ps_goto rfl ?_
          rw [show nI j + Int32.ofInt 1 = nI (j + 1) from nI_1 j]
          rw [show i = w by omega] at hb
          exact ih (j + 1) (by omega) (by rw [alB, ha, hb]; rfl) _
        | succ e ihe =>
          intro i hi hb
          refine ps_iload rfl rfl ?_
          refine ps_aload rfl rfl ?_
          refine ps_iload rfl rfl ?_
          refine pw_k rfl rfl rfl rfl ⟨Nat.zero_le _, Nat.zero_le _⟩ ?_
          refine M_wideOf hk ?_
          refine ps_icmpf rfl (by rw [hw]; exact decide_eq_false (nI_ge (by omega) (by omega))) ?_
          rw [← iI_nat i, ← iI_nat j]
          refine ps_aload rfl rfl ?_
          refine ps_iload rfl rfl ?_
          refine ps_iload rfl rfl ?_
          refine ps_iload rfl rfl ?_
          refine pw_k rfl rfl rfl rfl ⟨Nat.zero_le _, Nat.zero_le _⟩ ?_
          refine M_isHole hp (by omega) (by omega) ?_
          refine ps_aload rfl rfl ?_
          refine ps_iload rfl rfl ?_
          refine ps_iload rfl rfl ?_
          refine ps_iload rfl rfl ?_
          refine ps_ar rfl rfl rfl rfl rfl ?_
          refine ps_iload rfl rfl ?_
          refine ps_iload rfl rfl ?_
          refine ps_ar rfl rfl rfl rfl rfl ?_
          rw [iI_sub, iI_sub]
          refine pw_k rfl rfl rfl rfl ⟨Nat.zero_le _, Nat.zero_le _⟩ ?_
          refine M_isHole hl (by omega) (by omega) ?_
          refine ps_icmp rfl (fun hc => ?_) (fun hc => ?_)
          · have hF : F j i = true := by
              show (decide (I 280 (289 * k + cxy w v i j) = 1) == decide (I 280 (289 * l + cxy w v (i - x) (j - y)) = 1)) = true
              revert hc
              generalize decide (I 280 (289 * k + cxy w v i j) = 1) = a
              generalize decide (I 280 (289 * l + cxy w v (i - x) (j - y)) = 1) = b
              revert a b; decide
            refine ps_iinc rfl rfl ?_
            refine ps_goto rfl ?_
            rw [iI_nat, iI_nat, show nI i + Int32.ofInt 1 = nI (i + 1) from nI_1 i]
            exact ihe (i + 1) (by omega) (by rw [alB, hb, hF]; rfl)
          · have hF : F j i = false := by
              show (decide (I 280 (289 * k + cxy w v i j) = 1) == decide (I 280 (289 * l + cxy w v (i - x) (j - y)) = 1)) = false
              revert hc
              generalize decide (I 280 (289 * k + cxy w v i j) = 1) = a
              generalize decide (I 280 (289 * l + cxy w v (i - x) (j - y)) = 1) = b
              revert a b; decide
            refine pw_c rfl ?_
            refine ps_zret rfl rfl (Or.inl rfl) ?_
            have kk' : Q [.int (bI (alB (fun j => alB (F j) w) v))] (I, L, g_R s, 306) := kk
            rw [alB_no (f := fun j => alB (F j) w) (i := j) (alB_no hF w (by omega)) v (by omega)] at kk'
            exact kk'
      refine ps_iload rfl rfl ?_
      refine ps_aload rfl rfl ?_
      refine ps_iload rfl rfl ?_
      refine pw_k rfl rfl rfl rfl ⟨Nat.zero_le _, Nat.zero_le _⟩ ?_
      refine M_highOf hk ?_
      refine ps_icmpf rfl (by rw [hv]; exact decide_eq_false (nI_ge (by omega) (by omega))) ?_
      refine pw_c rfl ?_
      refine ps_istore rfl rfl ?_
      exact inner w 0 (by omega) rfl
  refine pw_c rfl ?_
  refine ps_istore rfl rfl ?_
  exact outer v 0 (by omega) rfl _
end ME
