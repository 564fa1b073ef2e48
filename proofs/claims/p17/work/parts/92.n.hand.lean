/-! BY HAND: the model prints, second -/
section IC
variable {ys : List Int32} {h0 h : pm_H} {Q : List Value → pm_H → Prop} {n : Nat}
theorem M_saysBits (k : oS h0 h n) {m f : Nat} (hm : m < 6) (hf : h0.1 278 (7 * m + 3) = nI f) (hf40 : f ≤ 40) (hn : n + 42 ≤ 2000) (kk : ∀ h', oS h0 h' (n + 42) → Q [] h') : pm_W (g_P ys) 312 0 [.ref 275, .int (nI m), .retAddr 0] [] h (0, 0) Q := by
  have loop : ∀ i, i ≤ f → ∀ (c : Nat) (h : pm_H), c + i ≤ n + 42 → oS h0 h c → pm_W (g_P ys) 312 26 [.ref 275, .int (nI m), .int (iI ((i : Int) - 1))] [] h (0, 0) Q := by
    intro i
    induction i with
    | zero =>
      intro _ c h hc k
      refine ps_iload rfl rfl ?_
      refine ps_ift rfl (by decide) ?_
      refine ps_vret rfl rfl ?_
      exact kk _ (oS_le k (by omega))
    | succ i ih =>
      intro hi c h hc k
      obtain ⟨I, L, s, rfl⟩ := x_form k.1
      rw [show ((i + 1 : Nat) : Int) - 1 = (i : Int) by omega, iI_nat]
      refine ps_iload rfl rfl ?_
      refine ps_iff rfl (by show decide _ = false; refine decide_eq_false (fun g => ?_); rw [i_lt, nI_toInt (by omega)] at g; have e : (0 : Int32).toInt = 0 := rfl; omega) ?_
      refine ps_aload rfl rfl ?_
      refine ps_aload rfl rfl ?_
      refine ps_gfr 11 10 rfl rfl rfl rfl rfl (rfl) ?_
      refine ps_iload rfl rfl ?_
      refine ps_lald (m) rfl rfl rfl (rfl) (by omega) ?_
      refine ps_iload rfl rfl ?_
      refine ps_ar rfl rfl rfl rfl rfl ?_
      refine pw_c rfl ?_
      refine ps_ar rfl rfl rfl rfl rfl ?_
      refine ps_ar rfl rfl rfl rfl rfl ?_
      refine pw_c rfl ?_
      refine ps_ar rfl rfl rfl rfl rfl ?_
      refine pw_k rfl rfl rfl rfl ⟨Nat.zero_le _, Nat.zero_le _⟩ ?_
      refine M_says k (by omega) _ ?_
      intro h' k'
      refine ps_iinc rfl rfl ?_
      refine ps_goto rfl ?_
      rw [show nI i + Int32.ofInt (-1) = iI ((i : Int) - 1) by rw [← iI_nat i]; exact iI_add i (-1)]
      exact ih (by omega) (c + 1) h' (by omega) k'
  obtain ⟨I, L, s, rfl⟩ := x_form k.1
  refine ps_aload rfl rfl ?_
  refine pw_c rfl ?_
  refine pw_k rfl rfl rfl rfl ⟨Nat.zero_le _, Nat.zero_le _⟩ ?_
  refine M_says k (by omega) _ ?_
  intro h1 k1
  obtain ⟨I1, L1, s1, rfl⟩ := x_form k1.1
  refine ps_aload rfl rfl ?_
  refine pw_c rfl ?_
  refine pw_k rfl rfl rfl rfl ⟨Nat.zero_le _, Nat.zero_le _⟩ ?_
  refine M_says k1 (by omega) _ ?_
  intro h2 k2
  obtain ⟨I2, L2, s2, rfl⟩ := x_form k2.1
  refine ps_aload rfl rfl ?_
  refine ps_gfr 11 4 rfl rfl rfl rfl rfl (rfl) ?_
  refine pw_c rfl ?_
  refine ps_iload rfl rfl ?_
  refine ps_ar rfl rfl rfl rfl rfl ?_
  refine pw_c rfl ?_
  refine ps_ar rfl rfl rfl rfl rfl ?_
  refine ps_iald (7 * m + 3) rfl rfl rfl (by simp only [ni_lit, ni_l0, pk_mul, nI_add, Nat.add_zero]) (by omega) ?_
  rw [show ((I2, L2, g_R s2, 306) : pm_H).1 278 (7 * m + 3) = nI f from (oS_o k2 (by decide) (fun q => absurd q.1 (by decide))).trans hf]
  refine pw_c rfl ?_
  refine ps_ar rfl rfl rfl rfl rfl ?_
  refine ps_istore rfl rfl ?_
  rw [show nI f - 1 = iI ((f : Int) - 1) by rw [← iI_nat f]; exact iI_sub f 1]
  exact loop f (by omega) (n + 2) _ (by omega) k2
theorem M_saysPlate (k : oS h0 h n) {m f a b c3 : Nat} (hm : m < 6) (hF : h0.1 278 (7 * m + 2) = nI f) (hA : h0.1 278 (7 * m + 3) = nI a) (hB : h0.1 278 (7 * m + 4) = nI b) (hC : h0.1 278 (7 * m + 5) = nI c3) (ha9 : a ≤ 289) (hb9 : b ≤ 289) (hc9 : c3 ≤ 289) (f6 : f ≤ 6) (f1 : f = 1 → a ≤ 40) (f2 : f = 2 ∨ f = 3 ∨ f = 4 → a ≤ 5) (f4 : f = 4 → b ≤ 5) (f66 : f = 6 → b ≤ 47) (hpl : ∀ i, i < 47 → ∃ p : Nat, p ≤ 46 ∧ h0.1 276 (47 * m + i) = nI p) (hn : n + 191 ≤ 2000) (kk : ∀ h', oS h0 h' (n + 191) → Q [] h') : pm_W (g_P ys) 308 0 [.ref 275, .int (nI m), .retAddr 0, .retAddr 0, .retAddr 0] [] h (0, 0) Q := by
  have rd : ∀ {h c j}, oS h0 h c → h.1 278 j = h0.1 278 j := fun k => oS_o k (by decide) (fun q => absurd q.1 (by decide))
  have fin : ∀ (u : Value) (c : Nat) (h : pm_H), c + 1 ≤ n + 191 → oS h0 h c → pm_W (g_P ys) 308 268 [.ref 275, .int (nI m), .int (nI f), .int (nI a), u] [] h (0, 0) Q := by
    intro u c h hc k
    obtain ⟨I, L, s, rfl⟩ := x_form k.1
    refine ps_aload rfl rfl ?_
    refine pw_c rfl ?_
    refine pw_k rfl rfl rfl rfl ⟨Nat.zero_le _, Nat.zero_le _⟩ ?_
    refine M_says k (by omega) _ ?_
    intro h' k'
    refine ps_vret rfl rfl ?_
    exact kk _ (oS_le k' (by omega))
  have stD : ∀ (u : Value) (c : Nat) (h : pm_H), c + 1 ≤ n + 191 → (f = 2 → c + 9 ≤ n + 191) → oS h0 h c → pm_W (g_P ys) 308 233 [.ref 275, .int (nI m), .int (nI f), .int (nI a), u] [] h (0, 0) Q := by
    intro u c h hcc hc2 k
    obtain ⟨I, L, s, rfl⟩ := x_form k.1
    by_cases e : f = 2
    · subst e
      refine ps_iload rfl rfl ?_
      refine pw_c rfl ?_
      refine ps_icmpf rfl (by decide) ?_
      refine ps_aload rfl rfl ?_
      refine ps_aload rfl rfl ?_
      refine ps_gfr 11 4 rfl rfl rfl rfl rfl (rfl) ?_
      refine pw_c rfl ?_
      refine ps_iload rfl rfl ?_
      refine ps_ar rfl rfl rfl rfl rfl ?_
      refine pw_c rfl ?_
      refine ps_ar rfl rfl rfl rfl rfl ?_
      refine ps_iald (7 * m + 4) rfl rfl rfl (by simp only [ni_lit, ni_l0, pk_mul, nI_add, Nat.add_zero]) (by omega) ?_
      rw [show ((I, L, g_R s, 306) : pm_H).1 278 (7 * m + 4) = nI b from (rd k).trans hB]
      refine pw_k rfl rfl rfl rfl ⟨Nat.zero_le _, Nat.zero_le _⟩ ?_
      refine M_saysNumber k (d := 3) (by omega) (by omega) (by omega) (by have := hc2 rfl; omega) ?_
      intro h1 k1
      obtain ⟨I1, L1, s1, rfl⟩ := x_form k1.1
      refine ps_aload rfl rfl ?_
      refine ps_aload rfl rfl ?_
      refine ps_gfr 11 4 rfl rfl rfl rfl rfl (rfl) ?_
      refine pw_c rfl ?_
      refine ps_iload rfl rfl ?_
      refine ps_ar rfl rfl rfl rfl rfl ?_
      refine pw_c rfl ?_
      refine ps_ar rfl rfl rfl rfl rfl ?_
      refine ps_iald (7 * m + 5) rfl rfl rfl (by simp only [ni_lit, ni_l0, pk_mul, nI_add, Nat.add_zero]) (by omega) ?_
      rw [show ((I1, L1, g_R s1, 306) : pm_H).1 278 (7 * m + 5) = nI c3 from (rd k1).trans hC]
      refine pw_k rfl rfl rfl rfl ⟨Nat.zero_le _, Nat.zero_le _⟩ ?_
      refine M_saysNumber k1 (d := 3) (by omega) (by omega) (by omega) (by have := hc2 rfl; omega) ?_
      intro h2 k2
      exact fin _ _ _ (by have := hc2 rfl; omega) k2
    · refine ps_iload rfl rfl ?_
      refine pw_c rfl ?_
      refine ps_icmp rfl (fun hc => ?_) (fun hc => ?_)
      · exact fin _ _ _ hcc k
      · exact absurd (nI_eqv (b := 2) (by omega) (by omega) (show nI f = 2 by simpa [pm_cmp] using hc)) e
  have stC : ∀ (u : Value) (c : Nat) (h : pm_H), c + 1 ≤ n + 191 → (f = 2 → c + 9 ≤ n + 191) → (f = 4 → c + 16 ≤ n + 191) → oS h0 h c → pm_W (g_P ys) 308 207 [.ref 275, .int (nI m), .int (nI f), .int (nI a), u] [] h (0, 0) Q := by
    intro u c h hcc hc2 hc4 k
    obtain ⟨I, L, s, rfl⟩ := x_form k.1
    by_cases e : f = 4
    · subst e
      have hb5 := f4 rfl
      refine ps_iload rfl rfl ?_
      refine pw_c rfl ?_
      refine ps_icmpf rfl (by decide) ?_
      refine ps_aload rfl rfl ?_
      refine ps_aload rfl rfl ?_
      refine ps_gfr 11 12 rfl rfl rfl rfl rfl (rfl) ?_
      refine ps_aload rfl rfl ?_
      refine ps_gfr 11 4 rfl rfl rfl rfl rfl (rfl) ?_
      refine pw_c rfl ?_
      refine ps_iload rfl rfl ?_
      refine ps_ar rfl rfl rfl rfl rfl ?_
      refine pw_c rfl ?_
      refine ps_ar rfl rfl rfl rfl rfl ?_
      refine ps_iald (7 * m + 4) rfl rfl rfl (by simp only [ni_lit, ni_l0, pk_mul, nI_add, Nat.add_zero]) (by omega) ?_
      rw [show ((I, L, g_R s, 306) : pm_H).1 278 (7 * m + 4) = nI b from (rd k).trans hB]
      refine ps_lald (b) rfl rfl rfl (rfl) (by omega) ?_
      refine pw_c rfl ?_
      refine pw_k rfl rfl rfl rfl ⟨Nat.zero_le _, Nat.zero_le _⟩ ?_
      refine M_saysWord k (by have := hc4 rfl; omega) _ _ ?_
      intro h1 k1
      exact stD _ _ _ (by have := hc4 rfl; omega) (fun q => by omega) k1
    · refine ps_iload rfl rfl ?_
      refine pw_c rfl ?_
      refine ps_icmp rfl (fun hc => ?_) (fun hc => ?_)
      · exact stD _ _ _ hcc hc2 k
      · exact absurd (nI_eqv (b := 4) (by omega) (by omega) (show nI f = 4 by simpa [pm_cmp] using hc)) e
  have stB : ∀ d i, (f = 6 → i + d = b) → ∀ (c : Nat) (h : pm_H), (f = 6 → c + 3 * d + 1 ≤ n + 191) → (¬ f = 6 → c + 16 ≤ n + 191) → oS h0 h c → pm_W (g_P ys) 308 163 [.ref 275, .int (nI m), .int (nI f), .int (nI a), .int (nI i)] [] h (0, 0) Q := by
    intro d
    induction d with
    | zero =>
      intro i hi c h h6 hn6 k
      obtain ⟨I, L, s, rfl⟩ := x_form k.1
      by_cases e : f = 6
      · subst e
        have := hi rfl
        refine ps_iload rfl rfl ?_
        refine pw_c rfl ?_
        refine ps_icmpf rfl (by decide) ?_
        refine ps_iload rfl rfl ?_
        refine ps_aload rfl rfl ?_
        refine ps_gfr 11 4 rfl rfl rfl rfl rfl (rfl) ?_
        refine pw_c rfl ?_
        refine ps_iload rfl rfl ?_
        refine ps_ar rfl rfl rfl rfl rfl ?_
        refine pw_c rfl ?_
        refine ps_ar rfl rfl rfl rfl rfl ?_
        refine ps_iald (7 * m + 4) rfl rfl rfl (by simp only [ni_lit, ni_l0, pk_mul, nI_add, Nat.add_zero]) (by omega) ?_
        rw [show ((I, L, g_R s, 306) : pm_H).1 278 (7 * m + 4) = nI b from (rd k).trans hB]
        refine ps_icmpt rfl (decide_eq_true (nI_le (by omega) (by omega))) ?_
        exact stC _ _ _ (by have := h6 rfl; omega) (fun q => by omega) (fun q => by omega) k
      · have := hn6 e
        refine ps_iload rfl rfl ?_
        refine pw_c rfl ?_
        refine ps_icmp rfl (fun hc => ?_) (fun hc => ?_)
        · exact stC _ _ _ (by omega) (fun q => by omega) (fun q => by omega) k
        · exact absurd (nI_eqv (b := 6) (by omega) (by omega) (show nI f = 6 by simpa [pm_cmp] using hc)) e
    | succ d ih =>
      intro i hi c h h6 hn6 k
      obtain ⟨I, L, s, rfl⟩ := x_form k.1
      by_cases e : f = 6
      · subst e
        have h1 := hi rfl
        have h2 := h6 rfl
        have h3 := f66 rfl
        obtain ⟨p, hp, hpe⟩ := hpl i (by omega)
        refine ps_iload rfl rfl ?_
        refine pw_c rfl ?_
        refine ps_icmpf rfl (by decide) ?_
        refine ps_iload rfl rfl ?_
        refine ps_aload rfl rfl ?_
        refine ps_gfr 11 4 rfl rfl rfl rfl rfl (rfl) ?_
        refine pw_c rfl ?_
        refine ps_iload rfl rfl ?_
        refine ps_ar rfl rfl rfl rfl rfl ?_
        refine pw_c rfl ?_
        refine ps_ar rfl rfl rfl rfl rfl ?_
        refine ps_iald (7 * m + 4) rfl rfl rfl (by simp only [ni_lit, ni_l0, pk_mul, nI_add, Nat.add_zero]) (by omega) ?_
        rw [show ((I, L, g_R s, 306) : pm_H).1 278 (7 * m + 4) = nI b from (rd k).trans hB]
        refine ps_icmpf rfl (decide_eq_false (nI_ge (by omega) (by omega))) ?_
        refine ps_aload rfl rfl ?_
        refine ps_aload rfl rfl ?_
        refine ps_gfr 11 2 rfl rfl rfl rfl rfl (rfl) ?_
        refine pw_c rfl ?_
        refine ps_iload rfl rfl ?_
        refine ps_ar rfl rfl rfl rfl rfl ?_
        refine ps_iload rfl rfl ?_
        refine ps_ar rfl rfl rfl rfl rfl ?_
        refine ps_iald (47 * m + i) rfl rfl rfl (by simp only [ni_lit, ni_l0, pk_mul, nI_add, Nat.add_zero]) (by omega) ?_
        rw [show ((I, L, g_R s, 306) : pm_H).1 276 (47 * m + i) = nI p from (oS_o k (by decide) (fun q => absurd q.1 (by decide))).trans hpe]
        refine pw_k rfl rfl rfl rfl ⟨Nat.zero_le _, Nat.zero_le _⟩ ?_
        refine M_saysNumber k (d := 2) (by omega) (by omega) (by omega) (by omega) ?_
        intro h' k'
        refine ps_iinc rfl rfl ?_
        refine ps_goto rfl ?_
        rw [show nI i + Int32.ofInt 1 = nI (i + 1) from nI_1 i]
        exact ih (i + 1) (fun _ => by omega) _ _ (fun _ => by omega) (fun q => absurd rfl q) k'
      · have := hn6 e
        refine ps_iload rfl rfl ?_
        refine pw_c rfl ?_
        refine ps_icmp rfl (fun hc => ?_) (fun hc => ?_)
        · exact stC _ _ _ (by omega) (fun q => by omega) (fun q => by omega) k
        · exact absurd (nI_eqv (b := 6) (by omega) (by omega) (show nI f = 6 by simpa [pm_cmp] using hc)) e
  have stB0 : ∀ (u : Value) (c : Nat) (h : pm_H), (f = 6 → c ≤ n + 49) → (¬ f = 6 → c + 16 ≤ n + 191) → oS h0 h c → pm_W (g_P ys) 308 160 [.ref 275, .int (nI m), .int (nI f), .int (nI a), u] [] h (0, 0) Q := by
    intro u c h h6 hn6 k
    refine pw_c rfl ?_
    refine ps_istore rfl rfl ?_
    exact stB b 0 (fun _ => by omega) c h (fun q => by have := h6 q; have := f66 q; omega) hn6 k
  have stA : ∀ (u : Value) (h : pm_H), oS h0 h (n + 45) → pm_W (g_P ys) 308 113 [.ref 275, .int (nI m), .int (nI f), .int (nI a), u] [] h (0, 0) Q := by
    intro u h k
    obtain ⟨I, L, s, rfl⟩ := x_form k.1
    have num : (f = 0 ∨ f = 5 ∨ f = 6) → pm_W (g_P ys) 308 128 [.ref 275, .int (nI m), .int (nI f), .int (nI a), u] [] (I, L, g_R s, 306) (0, 0) Q := by
      intro hf
      refine ps_aload rfl rfl ?_
      refine ps_iload rfl rfl ?_
      refine pw_k rfl rfl rfl rfl ⟨Nat.zero_le _, Nat.zero_le _⟩ ?_
      refine M_saysNumber k (d := 3) (by omega) (by omega) (by omega) (by omega) ?_
      intro h1 k1
      refine ps_goto rfl ?_
      exact stB0 _ _ _ (fun _ => by omega) (fun _ => by omega) k1
    have nam : (f = 2 ∨ f = 3 ∨ f = 4) → pm_W (g_P ys) 308 149 [.ref 275, .int (nI m), .int (nI f), .int (nI a), u] [] (I, L, g_R s, 306) (0, 0) Q := by
      intro hf
      have := f2 hf
      refine ps_aload rfl rfl ?_
      refine ps_aload rfl rfl ?_
      refine ps_gfr 11 12 rfl rfl rfl rfl rfl (rfl) ?_
      refine ps_iload rfl rfl ?_
      refine ps_lald (a) rfl rfl rfl (rfl) (by omega) ?_
      refine pw_c rfl ?_
      refine pw_k rfl rfl rfl rfl ⟨Nat.zero_le _, Nat.zero_le _⟩ ?_
      refine M_saysWord k (by omega) _ _ ?_
      intro h1 k1
      exact stB0 _ _ _ (fun q => by omega) (fun _ => by omega) k1
    have hcs : f = 0 ∨ f = 1 ∨ f = 2 ∨ f = 3 ∨ f = 4 ∨ f = 5 ∨ f = 6 := by omega
    rcases hcs with e | e | e | e | e | e | e <;> subst e
    · refine ps_iload rfl rfl ?_
      refine ps_ift rfl (by decide) ?_
      exact num (by omega)
    · refine ps_iload rfl rfl ?_
      refine ps_iff rfl (by decide) ?_
      refine ps_iload rfl rfl ?_
      refine pw_c rfl ?_
      refine ps_icmpf rfl (by decide) ?_
      refine ps_iload rfl rfl ?_
      refine pw_c rfl ?_
      refine ps_icmpt rfl (by decide) ?_
      refine ps_iload rfl rfl ?_
      refine pw_c rfl ?_
      refine ps_icmpf rfl (by decide) ?_
      refine ps_aload rfl rfl ?_
      refine ps_iload rfl rfl ?_
      refine pw_k rfl rfl rfl rfl ⟨Nat.zero_le _, Nat.zero_le _⟩ ?_
      refine M_saysBits k hm hA (f1 rfl) (by omega) ?_
      intro h1 k1
      refine ps_goto rfl ?_
      exact stB0 _ _ _ (fun q => by omega) (fun _ => by omega) k1
    · refine ps_iload rfl rfl ?_
      refine ps_iff rfl (by decide) ?_
      refine ps_iload rfl rfl ?_
      refine pw_c rfl ?_
      refine ps_icmpf rfl (by decide) ?_
      refine ps_iload rfl rfl ?_
      refine pw_c rfl ?_
      refine ps_icmpt rfl (by decide) ?_
      refine ps_iload rfl rfl ?_
      refine pw_c rfl ?_
      refine ps_icmpt rfl (by decide) ?_
      exact nam (by omega)
    · refine ps_iload rfl rfl ?_
      refine ps_iff rfl (by decide) ?_
      refine ps_iload rfl rfl ?_
      refine pw_c rfl ?_
      refine ps_icmpf rfl (by decide) ?_
      refine ps_iload rfl rfl ?_
      refine pw_c rfl ?_
      refine ps_icmpt rfl (by decide) ?_
      refine ps_iload rfl rfl ?_
      refine pw_c rfl ?_
      refine ps_icmpt rfl (by decide) ?_
      exact nam (by omega)
    · refine ps_iload rfl rfl ?_
      refine ps_iff rfl (by decide) ?_
      refine ps_iload rfl rfl ?_
      refine pw_c rfl ?_
      refine ps_icmpf rfl (by decide) ?_
      refine ps_iload rfl rfl ?_
      refine pw_c rfl ?_
      refine ps_icmpt rfl (by decide) ?_
      refine ps_iload rfl rfl ?_
      refine pw_c rfl ?_
      refine ps_icmpt rfl (by decide) ?_
      exact nam (by omega)
    · refine ps_iload rfl rfl ?_
      refine ps_iff rfl (by decide) ?_
      refine ps_iload rfl rfl ?_
      refine pw_c rfl ?_
      refine ps_icmpt rfl (by decide) ?_
      exact num (by omega)
    · refine ps_iload rfl rfl ?_
      refine ps_iff rfl (by decide) ?_
      refine ps_iload rfl rfl ?_
      refine pw_c rfl ?_
      refine ps_icmpf rfl (by decide) ?_
      refine ps_iload rfl rfl ?_
      refine pw_c rfl ?_
      refine ps_icmpf rfl (by decide) ?_
      exact num (by omega)
  obtain ⟨I, L, s, rfl⟩ := x_form k.1
  refine ps_aload rfl rfl ?_
  refine ps_gfr 11 4 rfl rfl rfl rfl rfl (rfl) ?_
  refine pw_c rfl ?_
  refine ps_iload rfl rfl ?_
  refine ps_ar rfl rfl rfl rfl rfl ?_
  refine pw_c rfl ?_
  refine ps_ar rfl rfl rfl rfl rfl ?_
  refine ps_iald (7 * m + 2) rfl rfl rfl (by simp only [ni_lit, ni_l0, pk_mul, nI_add, Nat.add_zero]) (by omega) ?_
  rw [show ((I, L, g_R s, 306) : pm_H).1 278 (7 * m + 2) = nI f from (rd k).trans hF]
  refine ps_istore rfl rfl ?_
  refine ps_aload rfl rfl ?_
  refine ps_gfr 11 4 rfl rfl rfl rfl rfl (rfl) ?_
  refine pw_c rfl ?_
  refine ps_iload rfl rfl ?_
  refine ps_ar rfl rfl rfl rfl rfl ?_
  refine pw_c rfl ?_
  refine ps_ar rfl rfl rfl rfl rfl ?_
  refine ps_iald (7 * m + 3) rfl rfl rfl (by simp only [ni_lit, ni_l0, pk_mul, nI_add, Nat.add_zero]) (by omega) ?_
  rw [show ((I, L, g_R s, 306) : pm_H).1 278 (7 * m + 3) = nI a from (rd k).trans hA]
  refine ps_istore rfl rfl ?_
  refine ps_aload rfl rfl ?_
  refine ps_aload rfl rfl ?_
  refine ps_gfr 11 55 rfl rfl rfl rfl rfl (rfl) ?_
  refine pw_c rfl ?_
  refine ps_lald (0) rfl rfl rfl (rfl) (by omega) ?_
  refine pw_c rfl ?_
  refine pw_k rfl rfl rfl rfl ⟨Nat.zero_le _, Nat.zero_le _⟩ ?_
  refine M_saysWord k (by omega) _ _ ?_
  intro h1 k1
  obtain ⟨I1, L1, s1, rfl⟩ := x_form k1.1
  refine ps_aload rfl rfl ?_
  refine ps_aload rfl rfl ?_
  refine ps_gfr 11 12 rfl rfl rfl rfl rfl (rfl) ?_
  refine ps_iload rfl rfl ?_
  refine ps_lald (m) rfl rfl rfl (rfl) (by omega) ?_
  refine pw_c rfl ?_
  refine pw_k rfl rfl rfl rfl ⟨Nat.zero_le _, Nat.zero_le _⟩ ?_
  refine M_saysWord k1 (by omega) _ _ ?_
  intro h2 k2
  obtain ⟨I2, L2, s2, rfl⟩ := x_form k2.1
  have w2 : ∀ i : Nat, i < 13 → pm_W (g_P ys) 308 108 [.ref 275, .int (nI m), .int (nI f), .int (nI a), .retAddr 0] [.int (nI i), .ref 304, .ref 275] (I2, L2, g_R s2, 306) (0, 0) Q := by
    intro i hi
    refine ps_lald (i) rfl rfl rfl (rfl) (by omega) ?_
    refine pw_c rfl ?_
    refine pw_k rfl rfl rfl rfl ⟨Nat.zero_le _, Nat.zero_le _⟩ ?_
    refine M_saysWord k2 (by omega) _ _ ?_
    intro h3 k3
    exact stA _ _ k3
  have hcs : f = 0 ∨ f = 1 ∨ f = 2 ∨ f = 3 ∨ f = 4 ∨ f = 5 ∨ f = 6 := by omega
  rcases hcs with e | e | e | e | e | e | e <;> subst e
  · refine ps_aload rfl rfl ?_
    refine ps_aload rfl rfl ?_
    refine ps_gfr 11 55 rfl rfl rfl rfl rfl (rfl) ?_
    refine ps_iload rfl rfl ?_
    refine ps_iff rfl (by decide) ?_
    refine pw_c rfl ?_
    refine ps_goto rfl ?_
    exact w2 1 (by omega)
  · refine ps_aload rfl rfl ?_
    refine ps_aload rfl rfl ?_
    refine ps_gfr 11 55 rfl rfl rfl rfl rfl (rfl) ?_
    refine ps_iload rfl rfl ?_
    refine ps_ift rfl (by decide) ?_
    refine ps_iload rfl rfl ?_
    refine pw_c rfl ?_
    refine ps_icmpf rfl (by decide) ?_
    refine pw_c rfl ?_
    refine ps_goto rfl ?_
    exact w2 2 (by omega)
  · refine ps_aload rfl rfl ?_
    refine ps_aload rfl rfl ?_
    refine ps_gfr 11 55 rfl rfl rfl rfl rfl (rfl) ?_
    refine ps_iload rfl rfl ?_
    refine ps_ift rfl (by decide) ?_
    refine ps_iload rfl rfl ?_
    refine pw_c rfl ?_
    refine ps_icmpt rfl (by decide) ?_
    refine ps_iload rfl rfl ?_
    refine pw_c rfl ?_
    refine ps_icmpf rfl (by decide) ?_
    refine pw_c rfl ?_
    refine ps_goto rfl ?_
    exact w2 3 (by omega)
  · refine ps_aload rfl rfl ?_
    refine ps_aload rfl rfl ?_
    refine ps_gfr 11 55 rfl rfl rfl rfl rfl (rfl) ?_
    refine ps_iload rfl rfl ?_
    refine ps_ift rfl (by decide) ?_
    refine ps_iload rfl rfl ?_
    refine pw_c rfl ?_
    refine ps_icmpt rfl (by decide) ?_
    refine ps_iload rfl rfl ?_
    refine pw_c rfl ?_
    refine ps_icmpt rfl (by decide) ?_
    refine ps_iload rfl rfl ?_
    refine pw_c rfl ?_
    refine ps_icmpf rfl (by decide) ?_
    refine pw_c rfl ?_
    refine ps_goto rfl ?_
    exact w2 4 (by omega)
  · refine ps_aload rfl rfl ?_
    refine ps_aload rfl rfl ?_
    refine ps_gfr 11 55 rfl rfl rfl rfl rfl (rfl) ?_
    refine ps_iload rfl rfl ?_
    refine ps_ift rfl (by decide) ?_
    refine ps_iload rfl rfl ?_
    refine pw_c rfl ?_
    refine ps_icmpt rfl (by decide) ?_
    refine ps_iload rfl rfl ?_
    refine pw_c rfl ?_
    refine ps_icmpt rfl (by decide) ?_
    refine ps_iload rfl rfl ?_
    refine pw_c rfl ?_
    refine ps_icmpt rfl (by decide) ?_
    refine ps_iload rfl rfl ?_
    refine pw_c rfl ?_
    refine ps_icmpf rfl (by decide) ?_
    refine pw_c rfl ?_
    refine ps_goto rfl ?_
    exact w2 5 (by omega)
  · refine ps_aload rfl rfl ?_
    refine ps_aload rfl rfl ?_
    refine ps_gfr 11 55 rfl rfl rfl rfl rfl (rfl) ?_
    refine ps_iload rfl rfl ?_
    refine ps_ift rfl (by decide) ?_
    refine ps_iload rfl rfl ?_
    refine pw_c rfl ?_
    refine ps_icmpt rfl (by decide) ?_
    refine ps_iload rfl rfl ?_
    refine pw_c rfl ?_
    refine ps_icmpt rfl (by decide) ?_
    refine ps_iload rfl rfl ?_
    refine pw_c rfl ?_
    refine ps_icmpt rfl (by decide) ?_
    refine ps_iload rfl rfl ?_
    refine pw_c rfl ?_
    refine ps_icmpt rfl (by decide) ?_
    refine ps_iload rfl rfl ?_
    refine pw_c rfl ?_
    refine ps_icmpt rfl (by decide) ?_
    refine pw_c rfl ?_
    exact w2 6 (by omega)
  · refine ps_aload rfl rfl ?_
    refine ps_aload rfl rfl ?_
    refine ps_gfr 11 55 rfl rfl rfl rfl rfl (rfl) ?_
    refine ps_iload rfl rfl ?_
    refine ps_ift rfl (by decide) ?_
    refine ps_iload rfl rfl ?_
    refine pw_c rfl ?_
    refine ps_icmpt rfl (by decide) ?_
    refine ps_iload rfl rfl ?_
    refine pw_c rfl ?_
    refine ps_icmpt rfl (by decide) ?_
    refine ps_iload rfl rfl ?_
    refine pw_c rfl ?_
    refine ps_icmpt rfl (by decide) ?_
    refine ps_iload rfl rfl ?_
    refine pw_c rfl ?_
    refine ps_icmpt rfl (by decide) ?_
    refine ps_iload rfl rfl ?_
    refine pw_c rfl ?_
    refine ps_icmpf rfl (by decide) ?_
    refine pw_c rfl ?_
    refine ps_goto rfl ?_
    exact w2 12 (by omega)
theorem M_saysThings0 (k : oS h0 h n) {q : Nat} (hq : h0.1 288 0 = nI q) (hq8 : q ≤ 8) (hv : ∀ j, j < 89 → ∃ v : Nat, v ≤ 999 ∧ h0.1 288 j = nI v) (hn : n + 224 ≤ 2000) (kk : ∀ h', oS h0 h' (n + 224) → Q [] h') : pm_W (g_P ys) 313 0 [.ref 275, .int 0, .retAddr 0, .retAddr 0] [] h (0, 0) Q := by
  have rd : ∀ {h c j}, oS h0 h c → h.1 288 j = h0.1 288 j := fun k => oS_o k (by decide) (fun q => absurd q.1 (by decide))
  have loop : ∀ d i, i + d = q → ∀ (c : Nat) (h : pm_H) (u : Value), c + 28 * d ≤ n + 224 → oS h0 h c → pm_W (g_P ys) 313 2 [.ref 275, .int 0, .int (nI i), u] [] h (0, 0) Q := by
    intro d
    induction d with
    | zero =>
      intro i hi c h u hc k
      obtain ⟨I, L, s, rfl⟩ := x_form k.1
      refine ps_iload rfl rfl ?_
      refine ps_aload rfl rfl ?_
      refine ps_gfr 11 16 rfl rfl rfl rfl rfl (rfl) ?_
      refine ps_iload rfl rfl ?_
      refine pw_k rfl rfl rfl rfl ⟨Nat.zero_le _, Nat.zero_le _⟩ ?_
      refine M_manyOf0 ?_
      refine ps_iald (0) rfl rfl rfl (rfl) (by omega) ?_
      rw [show ((I, L, g_R s, 306) : pm_H).1 288 0 = nI q from (rd k).trans hq]
      refine ps_icmpt rfl (decide_eq_true (nI_le (by omega) (by omega))) ?_
      refine ps_vret rfl rfl ?_
      exact kk _ (oS_le k (by omega))
    | succ d ih =>
      intro i hi c h u hc k
      have inner : ∀ e w, w + e = 3 → ∀ (c : Nat) (h : pm_H), c + 4 * e + 1 + 28 * d ≤ n + 224 → oS h0 h c → pm_W (g_P ys) 313 48 [.ref 275, .int 0, .int (nI i), .int (nI w)] [] h (0, 0) Q := by
        intro e
        induction e with
        | zero =>
          intro w hw c h hc k
          obtain ⟨I, L, s, rfl⟩ := x_form k.1
          refine ps_iload rfl rfl ?_
          refine ps_iload rfl rfl ?_
          refine pw_c rfl ?_
          refine ps_icmpt rfl (by decide) ?_
          refine pw_c rfl ?_
          refine ps_icmpt rfl (decide_eq_true (nI_le (a := 3) (by omega) (by omega))) ?_
          refine ps_aload rfl rfl ?_
          refine pw_c rfl ?_
          refine pw_k rfl rfl rfl rfl ⟨Nat.zero_le _, Nat.zero_le _⟩ ?_
          refine M_says k (by omega) _ ?_
          intro h' k'
          refine ps_iinc rfl rfl ?_
          refine ps_goto rfl ?_
          rw [show nI i + Int32.ofInt 1 = nI (i + 1) from nI_1 i]
          exact ih (i + 1) (by omega) _ _ _ (by omega) k'
        | succ e ih2 =>
          intro w hw c h hc k
          obtain ⟨I, L, s, rfl⟩ := x_form k.1
          obtain ⟨v, hv9, hve⟩ := hv (5 + 3 * i + w) (by omega)
          refine ps_iload rfl rfl ?_
          refine ps_iload rfl rfl ?_
          refine pw_c rfl ?_
          refine ps_icmpt rfl (by decide) ?_
          refine pw_c rfl ?_
          refine ps_icmpf rfl (decide_eq_false (nI_ge (b := 3) (by omega) (by omega))) ?_
          refine ps_aload rfl rfl ?_
          refine ps_aload rfl rfl ?_
          refine ps_gfr 11 16 rfl rfl rfl rfl rfl (rfl) ?_
          refine ps_iload rfl rfl ?_
          refine pw_k rfl rfl rfl rfl ⟨Nat.zero_le _, Nat.zero_le _⟩ ?_
          refine M_rowOf0 ?_
          refine pw_c rfl ?_
          refine ps_iload rfl rfl ?_
          refine ps_ar rfl rfl rfl rfl rfl ?_
          refine ps_ar rfl rfl rfl rfl rfl ?_
          refine ps_iload rfl rfl ?_
          refine ps_ar rfl rfl rfl rfl rfl ?_
          refine ps_iald (5 + 3 * i + w) rfl rfl rfl (by simp only [ni_lit, ni_l0, pk_mul, nI_add, Nat.add_zero]) (by omega) ?_
          rw [show ((I, L, g_R s, 306) : pm_H).1 288 (5 + 3 * i + w) = nI v from (rd k).trans hve]
          refine pw_k rfl rfl rfl rfl ⟨Nat.zero_le _, Nat.zero_le _⟩ ?_
          refine M_saysNumber k (d := 3) (by omega) (by omega) (by omega) (by omega) ?_
          intro h' k'
          refine ps_iinc rfl rfl ?_
          refine ps_goto rfl ?_
          rw [show nI w + Int32.ofInt 1 = nI (w + 1) from nI_1 w]
          exact ih2 (w + 1) (by omega) _ _ (by omega) k'
      obtain ⟨I, L, s, rfl⟩ := x_form k.1
      refine ps_iload rfl rfl ?_
      refine ps_aload rfl rfl ?_
      refine ps_gfr 11 16 rfl rfl rfl rfl rfl (rfl) ?_
      refine ps_iload rfl rfl ?_
      refine pw_k rfl rfl rfl rfl ⟨Nat.zero_le _, Nat.zero_le _⟩ ?_
      refine M_manyOf0 ?_
      refine ps_iald (0) rfl rfl rfl (rfl) (by omega) ?_
      rw [show ((I, L, g_R s, 306) : pm_H).1 288 0 = nI q from (rd k).trans hq]
      refine ps_icmpf rfl (decide_eq_false (nI_ge (by omega) (by omega))) ?_
      refine ps_aload rfl rfl ?_
      refine ps_aload rfl rfl ?_
      refine ps_gfr 11 55 rfl rfl rfl rfl rfl (rfl) ?_
      refine ps_iload rfl rfl ?_
      refine ps_iff rfl (by decide) ?_
      refine pw_c rfl ?_
      refine ps_goto rfl ?_
      refine ps_lald (7) rfl rfl rfl (rfl) (by omega) ?_
      refine pw_c rfl ?_
      refine pw_k rfl rfl rfl rfl ⟨Nat.zero_le _, Nat.zero_le _⟩ ?_
      refine M_saysWord k (by omega) _ _ ?_
      intro h' k'
      refine pw_c rfl ?_
      refine ps_istore rfl rfl ?_
      exact inner 3 0 (by omega) _ _ (by omega) k'
  refine pw_c rfl ?_
  refine ps_istore rfl rfl ?_
  exact loop q 0 (by omega) n h _ (by omega) k
theorem M_saysThings1 (k : oS h0 h n) {q : Nat} (hq : h0.1 288 1 = nI q) (hq8 : q ≤ 12) (hv : ∀ j, j < 89 → ∃ v : Nat, v ≤ 999 ∧ h0.1 288 j = nI v) (hn : n + 288 ≤ 2000) (kk : ∀ h', oS h0 h' (n + 288) → Q [] h') : pm_W (g_P ys) 313 0 [.ref 275, .int 1, .retAddr 0, .retAddr 0] [] h (0, 0) Q := by
  have rd : ∀ {h c j}, oS h0 h c → h.1 288 j = h0.1 288 j := fun k => oS_o k (by decide) (fun q => absurd q.1 (by decide))
  have loop : ∀ d i, i + d = q → ∀ (c : Nat) (h : pm_H) (u : Value), c + 24 * d ≤ n + 288 → oS h0 h c → pm_W (g_P ys) 313 2 [.ref 275, .int 1, .int (nI i), u] [] h (0, 0) Q := by
    intro d
    induction d with
    | zero =>
      intro i hi c h u hc k
      obtain ⟨I, L, s, rfl⟩ := x_form k.1
      refine ps_iload rfl rfl ?_
      refine ps_aload rfl rfl ?_
      refine ps_gfr 11 16 rfl rfl rfl rfl rfl (rfl) ?_
      refine ps_iload rfl rfl ?_
      refine pw_k rfl rfl rfl rfl ⟨Nat.zero_le _, Nat.zero_le _⟩ ?_
      refine M_manyOf1 ?_
      refine ps_iald (1) rfl rfl rfl (rfl) (by omega) ?_
      rw [show ((I, L, g_R s, 306) : pm_H).1 288 1 = nI q from (rd k).trans hq]
      refine ps_icmpt rfl (decide_eq_true (nI_le (by omega) (by omega))) ?_
      refine ps_vret rfl rfl ?_
      exact kk _ (oS_le k (by omega))
    | succ d ih =>
      intro i hi c h u hc k
      have inner : ∀ e w, w + e = 2 → ∀ (c : Nat) (h : pm_H), c + 4 * e + 1 + 24 * d ≤ n + 288 → oS h0 h c → pm_W (g_P ys) 313 48 [.ref 275, .int 1, .int (nI i), .int (nI w)] [] h (0, 0) Q := by
        intro e
        induction e with
        | zero =>
          intro w hw c h hc k
          obtain ⟨I, L, s, rfl⟩ := x_form k.1
          refine ps_iload rfl rfl ?_
          refine ps_iload rfl rfl ?_
          refine pw_c rfl ?_
          refine ps_icmpf rfl (by decide) ?_
          refine pw_c rfl ?_
          refine ps_goto rfl ?_
          refine ps_icmpt rfl (decide_eq_true (nI_le (a := 2) (by omega) (by omega))) ?_
          refine ps_aload rfl rfl ?_
          refine pw_c rfl ?_
          refine pw_k rfl rfl rfl rfl ⟨Nat.zero_le _, Nat.zero_le _⟩ ?_
          refine M_says k (by omega) _ ?_
          intro h' k'
          refine ps_iinc rfl rfl ?_
          refine ps_goto rfl ?_
          rw [show nI i + Int32.ofInt 1 = nI (i + 1) from nI_1 i]
          exact ih (i + 1) (by omega) _ _ _ (by omega) k'
        | succ e ih2 =>
          intro w hw c h hc k
          obtain ⟨I, L, s, rfl⟩ := x_form k.1
          obtain ⟨v, hv9, hve⟩ := hv (29 + 3 * i + w) (by omega)
          refine ps_iload rfl rfl ?_
          refine ps_iload rfl rfl ?_
          refine pw_c rfl ?_
          refine ps_icmpf rfl (by decide) ?_
          refine pw_c rfl ?_
          refine ps_goto rfl ?_
          refine ps_icmpf rfl (decide_eq_false (nI_ge (b := 2) (by omega) (by omega))) ?_
          refine ps_aload rfl rfl ?_
          refine ps_aload rfl rfl ?_
          refine ps_gfr 11 16 rfl rfl rfl rfl rfl (rfl) ?_
          refine ps_iload rfl rfl ?_
          refine pw_k rfl rfl rfl rfl ⟨Nat.zero_le _, Nat.zero_le _⟩ ?_
          refine M_rowOf1 ?_
          refine pw_c rfl ?_
          refine ps_iload rfl rfl ?_
          refine ps_ar rfl rfl rfl rfl rfl ?_
          refine ps_ar rfl rfl rfl rfl rfl ?_
          refine ps_iload rfl rfl ?_
          refine ps_ar rfl rfl rfl rfl rfl ?_
          refine ps_iald (29 + 3 * i + w) rfl rfl rfl (by simp only [ni_lit, ni_l0, pk_mul, nI_add, Nat.add_zero]) (by omega) ?_
          rw [show ((I, L, g_R s, 306) : pm_H).1 288 (29 + 3 * i + w) = nI v from (rd k).trans hve]
          refine pw_k rfl rfl rfl rfl ⟨Nat.zero_le _, Nat.zero_le _⟩ ?_
          refine M_saysNumber k (d := 3) (by omega) (by omega) (by omega) (by omega) ?_
          intro h' k'
          refine ps_iinc rfl rfl ?_
          refine ps_goto rfl ?_
          rw [show nI w + Int32.ofInt 1 = nI (w + 1) from nI_1 w]
          exact ih2 (w + 1) (by omega) _ _ (by omega) k'
      obtain ⟨I, L, s, rfl⟩ := x_form k.1
      refine ps_iload rfl rfl ?_
      refine ps_aload rfl rfl ?_
      refine ps_gfr 11 16 rfl rfl rfl rfl rfl (rfl) ?_
      refine ps_iload rfl rfl ?_
      refine pw_k rfl rfl rfl rfl ⟨Nat.zero_le _, Nat.zero_le _⟩ ?_
      refine M_manyOf1 ?_
      refine ps_iald (1) rfl rfl rfl (rfl) (by omega) ?_
      rw [show ((I, L, g_R s, 306) : pm_H).1 288 1 = nI q from (rd k).trans hq]
      refine ps_icmpf rfl (decide_eq_false (nI_ge (by omega) (by omega))) ?_
      refine ps_aload rfl rfl ?_
      refine ps_aload rfl rfl ?_
      refine ps_gfr 11 55 rfl rfl rfl rfl rfl (rfl) ?_
      refine ps_iload rfl rfl ?_
      refine ps_ift rfl (by decide) ?_
      refine ps_iload rfl rfl ?_
      refine pw_c rfl ?_
      refine ps_icmpf rfl (by decide) ?_
      refine pw_c rfl ?_
      refine ps_goto rfl ?_
      refine ps_lald (8) rfl rfl rfl (rfl) (by omega) ?_
      refine pw_c rfl ?_
      refine pw_k rfl rfl rfl rfl ⟨Nat.zero_le _, Nat.zero_le _⟩ ?_
      refine M_saysWord k (by omega) _ _ ?_
      intro h' k'
      refine pw_c rfl ?_
      refine ps_istore rfl rfl ?_
      exact inner 2 0 (by omega) _ _ (by omega) k'
  refine pw_c rfl ?_
  refine ps_istore rfl rfl ?_
  exact loop q 0 (by omega) n h _ (by omega) k
theorem M_saysThings2 (k : oS h0 h n) {q : Nat} (hq : h0.1 288 2 = nI q) (hq8 : q ≤ 8) (hv : ∀ j, j < 89 → ∃ v : Nat, v ≤ 999 ∧ h0.1 288 j = nI v) (hn : n + 224 ≤ 2000) (kk : ∀ h', oS h0 h' (n + 224) → Q [] h') : pm_W (g_P ys) 313 0 [.ref 275, .int 2, .retAddr 0, .retAddr 0] [] h (0, 0) Q := by
  have rd : ∀ {h c j}, oS h0 h c → h.1 288 j = h0.1 288 j := fun k => oS_o k (by decide) (fun q => absurd q.1 (by decide))
  have loop : ∀ d i, i + d = q → ∀ (c : Nat) (h : pm_H) (u : Value), c + 28 * d ≤ n + 224 → oS h0 h c → pm_W (g_P ys) 313 2 [.ref 275, .int 2, .int (nI i), u] [] h (0, 0) Q := by
    intro d
    induction d with
    | zero =>
      intro i hi c h u hc k
      obtain ⟨I, L, s, rfl⟩ := x_form k.1
      refine ps_iload rfl rfl ?_
      refine ps_aload rfl rfl ?_
      refine ps_gfr 11 16 rfl rfl rfl rfl rfl (rfl) ?_
      refine ps_iload rfl rfl ?_
      refine pw_k rfl rfl rfl rfl ⟨Nat.zero_le _, Nat.zero_le _⟩ ?_
      refine M_manyOf2 ?_
      refine ps_iald (2) rfl rfl rfl (rfl) (by omega) ?_
      rw [show ((I, L, g_R s, 306) : pm_H).1 288 2 = nI q from (rd k).trans hq]
      refine ps_icmpt rfl (decide_eq_true (nI_le (by omega) (by omega))) ?_
      refine ps_vret rfl rfl ?_
      exact kk _ (oS_le k (by omega))
    | succ d ih =>
      intro i hi c h u hc k
      have inner : ∀ e w, w + e = 3 → ∀ (c : Nat) (h : pm_H), c + 4 * e + 1 + 28 * d ≤ n + 224 → oS h0 h c → pm_W (g_P ys) 313 48 [.ref 275, .int 2, .int (nI i), .int (nI w)] [] h (0, 0) Q := by
        intro e
        induction e with
        | zero =>
          intro w hw c h hc k
          obtain ⟨I, L, s, rfl⟩ := x_form k.1
          refine ps_iload rfl rfl ?_
          refine ps_iload rfl rfl ?_
          refine pw_c rfl ?_
          refine ps_icmpt rfl (by decide) ?_
          refine pw_c rfl ?_
          refine ps_icmpt rfl (decide_eq_true (nI_le (a := 3) (by omega) (by omega))) ?_
          refine ps_aload rfl rfl ?_
          refine pw_c rfl ?_
          refine pw_k rfl rfl rfl rfl ⟨Nat.zero_le _, Nat.zero_le _⟩ ?_
          refine M_says k (by omega) _ ?_
          intro h' k'
          refine ps_iinc rfl rfl ?_
          refine ps_goto rfl ?_
          rw [show nI i + Int32.ofInt 1 = nI (i + 1) from nI_1 i]
          exact ih (i + 1) (by omega) _ _ _ (by omega) k'
        | succ e ih2 =>
          intro w hw c h hc k
          obtain ⟨I, L, s, rfl⟩ := x_form k.1
          obtain ⟨v, hv9, hve⟩ := hv (65 + 3 * i + w) (by omega)
          refine ps_iload rfl rfl ?_
          refine ps_iload rfl rfl ?_
          refine pw_c rfl ?_
          refine ps_icmpt rfl (by decide) ?_
          refine pw_c rfl ?_
          refine ps_icmpf rfl (decide_eq_false (nI_ge (b := 3) (by omega) (by omega))) ?_
          refine ps_aload rfl rfl ?_
          refine ps_aload rfl rfl ?_
          refine ps_gfr 11 16 rfl rfl rfl rfl rfl (rfl) ?_
          refine ps_iload rfl rfl ?_
          refine pw_k rfl rfl rfl rfl ⟨Nat.zero_le _, Nat.zero_le _⟩ ?_
          refine M_rowOf2 ?_
          refine pw_c rfl ?_
          refine ps_iload rfl rfl ?_
          refine ps_ar rfl rfl rfl rfl rfl ?_
          refine ps_ar rfl rfl rfl rfl rfl ?_
          refine ps_iload rfl rfl ?_
          refine ps_ar rfl rfl rfl rfl rfl ?_
          refine ps_iald (65 + 3 * i + w) rfl rfl rfl (by simp only [ni_lit, ni_l0, pk_mul, nI_add, Nat.add_zero]) (by omega) ?_
          rw [show ((I, L, g_R s, 306) : pm_H).1 288 (65 + 3 * i + w) = nI v from (rd k).trans hve]
          refine pw_k rfl rfl rfl rfl ⟨Nat.zero_le _, Nat.zero_le _⟩ ?_
          refine M_saysNumber k (d := 3) (by omega) (by omega) (by omega) (by omega) ?_
          intro h' k'
          refine ps_iinc rfl rfl ?_
          refine ps_goto rfl ?_
          rw [show nI w + Int32.ofInt 1 = nI (w + 1) from nI_1 w]
          exact ih2 (w + 1) (by omega) _ _ (by omega) k'
      obtain ⟨I, L, s, rfl⟩ := x_form k.1
      refine ps_iload rfl rfl ?_
      refine ps_aload rfl rfl ?_
      refine ps_gfr 11 16 rfl rfl rfl rfl rfl (rfl) ?_
      refine ps_iload rfl rfl ?_
      refine pw_k rfl rfl rfl rfl ⟨Nat.zero_le _, Nat.zero_le _⟩ ?_
      refine M_manyOf2 ?_
      refine ps_iald (2) rfl rfl rfl (rfl) (by omega) ?_
      rw [show ((I, L, g_R s, 306) : pm_H).1 288 2 = nI q from (rd k).trans hq]
      refine ps_icmpf rfl (decide_eq_false (nI_ge (by omega) (by omega))) ?_
      refine ps_aload rfl rfl ?_
      refine ps_aload rfl rfl ?_
      refine ps_gfr 11 55 rfl rfl rfl rfl rfl (rfl) ?_
      refine ps_iload rfl rfl ?_
      refine ps_ift rfl (by decide) ?_
      refine ps_iload rfl rfl ?_
      refine pw_c rfl ?_
      refine ps_icmpt rfl (by decide) ?_
      refine pw_c rfl ?_
      refine ps_lald (9) rfl rfl rfl (rfl) (by omega) ?_
      refine pw_c rfl ?_
      refine pw_k rfl rfl rfl rfl ⟨Nat.zero_le _, Nat.zero_le _⟩ ?_
      refine M_saysWord k (by omega) _ _ ?_
      intro h' k'
      refine pw_c rfl ?_
      refine ps_istore rfl rfl ?_
      exact inner 3 0 (by omega) _ _ (by omega) k'
  refine pw_c rfl ?_
  refine ps_istore rfl rfl ?_
  exact loop q 0 (by omega) n h _ (by omega) k
end IC
