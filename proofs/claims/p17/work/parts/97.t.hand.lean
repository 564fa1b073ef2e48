/-! BY HAND: the class's plates, exactly, first: rows -/
section KR
variable {I I' : Nat → Nat → Int32} {L : Nat → Nat → Int64} {s : Nat → Option Nat} {Q : List Value → pm_H → Prop} {ys : List Int32} {h : pm_H}
def isB (b : Nat) : Prop := b = 173 ∨ b = 214
def isP (p : Nat) : Prop := ∃ b k, isB b ∧ k < 6 ∧ p = b + 17 + 4 * k
theorem isP_c {p : Nat} (h : isP p) : p = 190 ∨ p = 194 ∨ p = 198 ∨ p = 202 ∨ p = 206 ∨ p = 210 ∨ p = 231 ∨ p = 235 ∨ p = 239 ∨ p = 243 ∨ p = 247 ∨ p = 251 := by
  obtain ⟨b, k, hb, hk, e⟩ := h
  unfold isB at hb
  omega
theorem pl_F {p : Nat} (hp : isP p) : (∀ I L, pm_sh (g_P ys) (I, L, g_R s, 306) p = some (.inl 9)) ∧ (∀ I L, pm_sh (g_P ys) (I, L, g_R s, 306) (p + 1) = some (.inr (0, 289))) ∧ (∀ I L, pm_sh (g_P ys) (I, L, g_R s, 306) (p + 2) = some (.inr (0, 289))) ∧ (∀ I L, pm_sh (g_P ys) (I, L, g_R s, 306) (p + 3) = some (.inr (0, 289))) ∧ g_R s p 0 = some (p + 1) ∧ g_R s p 1 = some (p + 2) ∧ g_R s p 2 = some (p + 3) := by
  rcases isP_c hp with rfl | rfl | rfl | rfl | rfl | rfl | rfl | rfl | rfl | rfl | rfl | rfl <;> exact ⟨fun _ _ => rfl, fun _ _ => rfl, fun _ _ => rfl, fun _ _ => rfl, rfl, rfl, rfl⟩
theorem em_t {a b : Int} (hb : 0 < b) : (a.tmod b < 0 → a % b = a.tmod b + b) ∧ (0 ≤ a.tmod b → a % b = a.tmod b) := by
  have h := Int.tmod_eq_emod (a := a) (b := b)
  have h1 := Int.emod_nonneg a (show ¬ b = 0 by omega)
  have h2 := Int.emod_lt_of_pos a hb
  have h3 := Int.natAbs_of_nonneg (show 0 ≤ b by omega)
  split at h <;> omega
theorem B_floorModX (x : Int32) {w : Nat} (hw : 0 < w) (hw2 : w < 1000000) (kk : Q [.int (nI (x.toInt % w).toNat)] h) : pm_W (g_P ys) 66 0 [.int x, .int (nI w), .retAddr 0] [] h (0, 0) Q := by
  have bx := i_bd x
  have hwI := nI_toInt (n := w) (by omega)
  have e : x - x / nI w * nI w = iI (x.toInt.tmod w) := by
    rw [← iI_nat w]
    exact (congrArg (fun q => q - q / iI (w : Int) * iI (w : Int)) (iI_of x)).trans (iI_rem (by omega) (by omega) (by omega) (by omega))
  have d1 := Int.tmod_lt_of_pos x.toInt (show (0 : Int) < w by omega)
  have d2 : -(w : Int) < x.toInt.tmod w := by
    have := Int.lt_tmod_of_pos x.toInt (show (0 : Int) < w by omega)
    omega
  have d3 : 0 ≤ x.toInt → 0 ≤ x.toInt.tmod w := fun q => Int.tmod_nonneg _ q
  obtain ⟨t1, t2⟩ := em_t (a := x.toInt) (b := w) (by omega)
  refine ps_iload rfl rfl ?_
  refine ps_iload rfl rfl ?_
  refine ps_rem rfl (nI_nz hw (by omega)) ?_
  rw [e]
  refine ps_istore rfl rfl ?_
  refine ps_iload rfl rfl ?_
  refine ps_iload rfl rfl ?_
  refine ps_ar rfl rfl rfl rfl rfl ?_
  refine ps_if rfl (fun hc => ?_) (fun hc => ?_)
  · have hx : 0 ≤ x.toInt := by
      have g : (0 : Int32) ≤ x ^^^ nI w := by simpa [pm_cmp] using hc
      have g2 := (i_le _ _).mp g
      have g3 : (0 : Int) ≤ (x ^^^ nI w).toInt := g2
      have g4 := (xor_neg (x := x) (y := nI w) (by omega))
      omega
    have d3 := d3 hx
    refine ps_iload rfl rfl ?_
    refine ps_iret rfl rfl ?_
    rw [t2 d3, ← iI_nat, Int.toNat_of_nonneg d3] at kk
    exact kk
  · refine ps_iload rfl rfl ?_
    refine ps_if rfl (fun hd => ?_) (fun hd => ?_)
    · have hz : iI (x.toInt.tmod w) = 0 := by simpa [pm_cmp] using hd
      have hz0 : x.toInt.tmod w = 0 := by
        have := congrArg Int32.toInt hz
        rw [iI_toInt (by omega) (by omega)] at this
        exact this
      refine ps_iload rfl rfl ?_
      refine ps_iret rfl rfl ?_
      rw [t2 (by omega), hz0] at kk
      rw [hz]
      exact kk
    · have hz : ¬ iI (x.toInt.tmod w) = 0 := by simpa [pm_cmp] using hd
      have hx : x.toInt < 0 := by
        have g : ¬ (0 : Int32) ≤ x ^^^ nI w := by simpa [pm_cmp] using hc
        rw [i_le] at g
        have g3 : ¬ (0 : Int) ≤ (x ^^^ nI w).toInt := g
        have g4 := (xor_neg (x := x) (y := nI w) (by omega))
        omega
      have hne : ¬ x.toInt.tmod w = 0 := fun q => hz (by rw [q]; rfl)
      have hle : x.toInt.tmod w ≤ 0 := by
        have t : 0 ≤ (-x.toInt).tmod w := Int.tmod_nonneg _ (by omega)
        rw [Int.neg_tmod] at t
        omega
      refine ps_iload rfl rfl ?_
      refine ps_iload rfl rfl ?_
      refine ps_ar rfl rfl rfl rfl rfl ?_
      refine ps_iret rfl rfl ?_
      rw [← iI_nat w, iI_add]
      rw [t1 (by omega), ← iI_nat, Int.toNat_of_nonneg (by omega)] at kk
      exact kk
/-- a row is filled -/
theorem B_fillX {b n N : Nat} (hS0 : ∀ I L, pm_sh (g_P ys) (I, L, g_R s, 306) b = some (.inr (0, N))) (hN : N < 2147483648) (hn : n ≤ N) (x : Int32) (kk : ∀ I', (∀ a j, ¬ (a = b ∧ j < n) → I' a j = I a j) → (∀ j, j < n → I' b j = x) → Q [] (I', L, g_R s, 306)) : pm_W (g_P ys) 50 0 [.ref b, .int 0, .int (nI n), .int x, .retAddr 0] [] (I, L, g_R s, 306) (0, 0) Q := by
  have loop : ∀ d i I', i + d = n → (∀ a j, ¬ (a = b ∧ j < i) → I' a j = I a j) → (∀ j, j < i → I' b j = x) → pm_W (g_P ys) 50 10 [.ref b, .int 0, .int (nI n), .int x, .int (nI i)] [] (I', L, g_R s, 306) (0, 0) Q := by
    intro d
    induction d with
    | zero =>
      intro i I' hi h1 h2
      have hi : i = n := by omega
      subst hi
      refine ps_iload rfl rfl ?_
      refine ps_iload rfl rfl ?_
      refine ps_icmpt rfl (decide_eq_true (nI_le (by omega) (by omega))) ?_
      refine ps_vret rfl rfl ?_
      exact kk _ h1 h2
    | succ d ih =>
      intro i I' hi h1 h2
      refine ps_iload rfl rfl ?_
      refine ps_iload rfl rfl ?_
      refine ps_icmpf rfl (decide_eq_false (nI_ge (by omega) (by omega))) ?_
      refine ps_aload rfl rfl ?_
      refine ps_iload rfl rfl ?_
      refine ps_iload rfl rfl ?_
      refine ps_iast i rfl (hS0 _ _) (Nat.blt_eq.mpr (by omega)) rfl (by omega) ?_
      refine ps_iinc rfl rfl ?_
      refine ps_goto rfl ?_
      rw [show nI i + Int32.ofInt 1 = nI (i + 1) from nI_1 i]
      exact ih (i + 1) _ (by omega) (fun a j q => (pu_x (fun z => q (by omega))).trans (h1 a j (fun z => q (by omega)))) (row_t (G := fun _ => x) h2 rfl)
  have rc : ∀ Q' : List Value → pm_H → Prop, Q' [] (I, L, g_R s, 306) → pm_W (g_P ys) 51 0 [.int (nI N), .int (nI 0), .int (nI n)] [] (I, L, g_R s, 306) (0, 0) Q' := by
    intro Q' kk'
    refine ps_iload rfl rfl ?_
    refine ps_iload rfl rfl ?_
    refine ps_icmpt rfl (decide_eq_true (nI_le (by omega) (by omega))) ?_
    refine ps_iload rfl rfl ?_
    refine ps_ift rfl (by decide) ?_
    refine ps_iload rfl rfl ?_
    refine ps_iload rfl rfl ?_
    refine ps_icmpt rfl (decide_eq_true (nI_le (by omega) (by omega))) ?_
    refine ps_vret rfl rfl ?_
    exact kk'
  refine ps_aload rfl rfl ?_
  refine ps_alen rfl (by first | exact hS0 _ _ | exact hS1 _ _ | exact hS2 _ _ | exact hS3 _ _ | exact hS4 _ _ | exact hS5 _ _ | exact hS6 _ _ | exact hS7 _ _ | exact hS8 _ _ | exact hS9 _ _ | exact hS10 _ _ | exact hS11 _ _ | exact hS12 _ _ | exact hS13 _ _ | assumption | rfl) ?_
  refine ps_iload rfl rfl ?_
  refine ps_iload rfl rfl ?_
  refine pw_k rfl rfl rfl rfl ⟨Nat.zero_le _, Nat.zero_le _⟩ ?_
  refine rc _ ?_
  refine ps_iload rfl rfl ?_
  refine ps_istore rfl rfl ?_
  exact loop n 0 I (by omega) (fun _ _ _ => rfl) (fun j hj => absurd hj (by omega))
theorem suI_s {f : Nat → Int32} {n : Nat} : suI f (n + 1) = suI f n + f n := rfl
theorem B_sumX {b f n N : Nat} (hS0 : ∀ I L, pm_sh (g_P ys) (I, L, g_R s, 306) b = some (.inr (0, N))) (hN : N < 1000000) (hn : f + n ≤ N) (kk : Q [.int (suI (fun i => I b (f + i)) n)] (I, L, g_R s, 306)) : pm_W (g_P ys) 72 0 [.ref b, .int (nI f), .int (nI n), .retAddr 0, .retAddr 0] [] (I, L, g_R s, 306) (0, 0) Q := by
  have loop : ∀ d i, i + d = n → pm_W (g_P ys) 72 5 [.ref b, .int (nI f), .int (nI n), .int (suI (fun i => I b (f + i)) i), .int (nI (f + i))] [] (I, L, g_R s, 306) (0, 0) Q := by
    intro d
    induction d with
    | zero =>
      intro i hi
      have hi : i = n := by omega
      subst hi
      refine ps_iload rfl rfl ?_
      refine ps_iload rfl rfl ?_
      refine ps_iload rfl rfl ?_
      refine ps_ar rfl rfl rfl rfl rfl ?_
      refine ps_icmpt rfl (by show decide _ = true; rw [nI_add]; exact decide_eq_true (nI_le (by omega) (by omega))) ?_
      refine ps_iload rfl rfl ?_
      refine ps_iret rfl rfl ?_
      exact kk
    | succ d ih =>
      intro i hi
      refine ps_iload rfl rfl ?_
      refine ps_iload rfl rfl ?_
      refine ps_iload rfl rfl ?_
      refine ps_ar rfl rfl rfl rfl rfl ?_
      refine ps_icmpf rfl (by show decide _ = false; rw [nI_add]; exact decide_eq_false (nI_ge (by omega) (by omega))) ?_
      refine ps_iload rfl rfl ?_
      refine ps_aload rfl rfl ?_
      refine ps_iload rfl rfl ?_
      refine ps_iald (f + i) rfl (hS0 _ _) (Nat.blt_eq.mpr (by omega)) rfl (by omega) ?_
      refine ps_ar rfl rfl rfl rfl rfl ?_
      refine ps_istore rfl rfl ?_
      refine ps_iinc rfl rfl ?_
      refine ps_goto rfl ?_
      rw [show nI (f + i) + Int32.ofInt 1 = nI ((f + i) + 1) from nI_1 (f + i)]
      exact ih (i + 1) (by omega)
  refine pw_c rfl ?_
  refine ps_istore rfl rfl ?_
  refine ps_iload rfl rfl ?_
  refine ps_istore rfl rfl ?_
  exact loop n 0 (by omega)
/-- a plate of the class at p: its size -/
def cP (I : Nat → Nat → Int32) (p w v : Nat) : Prop := I p 4 = nI w ∧ I p 5 = nI v ∧ I p 6 = nI (w * v) ∧ 0 < w ∧ 0 < v ∧ w * v ≤ 289
theorem cP_b {p w v : Nat} (h : cP I p w v) : w ≤ 289 ∧ v ≤ 289 := ⟨Nat.le_trans (Nat.le_mul_of_pos_right _ h.2.2.2.2.1) h.2.2.2.2.2, Nat.le_trans (Nat.le_mul_of_pos_left _ h.2.2.2.1) h.2.2.2.2.2⟩
theorem cP_o {p w v : Nat} (h : cP I p w v) (o : ∀ j, I' p j = I p j) : cP I' p w v := ⟨(o _).trans h.1, (o _).trans h.2.1, (o _).trans h.2.2.1, h.2.2.2⟩
def rszI (I : Nat → Nat → Int32) (p w v : Nat) : Nat → Nat → Int32 := pm_u (pm_u (pm_u (pm_u I p 4 (nI w)) p 5 (nI v)) p 6 (nI (w * v))) p 9 0
theorem rsz_cP {p w v : Nat} (h1 : 0 < w) (h2 : 0 < v) (h3 : w * v ≤ 289) : cP (rszI I p w v) p w v := by
  refine ⟨?_, ?_, ?_, h1, h2, h3⟩
  · unfold rszI; rw [pu_n (by decide), pu_n (by decide), pu_n (by decide), pu_s]
  · unfold rszI; rw [pu_n (by decide), pu_n (by decide), pu_s]
  · unfold rszI; rw [pu_n (by decide), pu_s]
theorem rsz_o {p w v a j : Nat} (h : ¬ (a = p ∧ (j = 4 ∨ j = 5 ∨ j = 6 ∨ j = 9))) : rszI I p w v a j = I a j := by
  unfold rszI
  rw [pu_x (fun z => h (by omega)), pu_x (fun z => h (by omega)), pu_x (fun z => h (by omega)), pu_x (fun z => h (by omega))]
theorem B_resizeX {p w v : Nat} (hp : isP p) (h1 : 0 < w) (h2 : 0 < v) (h3 : w * v ≤ 289) (kk : Q [] (rszI I p w v, L, g_R s, 306)) : pm_W (g_P ys) 49 0 [.ref p, .int (nI w), .int (nI v), .retAddr 0] [] (I, L, g_R s, 306) (0, 0) Q := by
  obtain ⟨hS0, hS1, hS2, hS3, hR0, hR1, hR2⟩ := pl_F (ys := ys) (s := s) hp
  have w289 : w ≤ 289 := Nat.le_trans (Nat.le_mul_of_pos_right _ h2) h3
  have v289 : v ≤ 289 := Nat.le_trans (Nat.le_mul_of_pos_left _ h1) h3
  have vd : v ≤ 289 / w := (Nat.le_div_iff_mul_le h1).mpr (by rw [Nat.mul_comm]; exact h3)
  have d289 : 289 / w ≤ 289 := Nat.div_le_self _ _
  refine ps_iload rfl rfl ?_
  refine pw_c rfl ?_
  refine ps_icmpf rfl (decide_eq_false (fun q => absurd ((nI_ltI (b := 1) (by omega) (by omega)).mp q) (by omega))) ?_
  refine ps_iload rfl rfl ?_
  refine pw_c rfl ?_
  refine ps_icmpf rfl (decide_eq_false (fun q => absurd ((nI_ltI (b := 1) (by omega) (by omega)).mp q) (by omega))) ?_
  refine ps_iload rfl rfl ?_
  refine pw_c rfl ?_
  refine ps_icmpf rfl (decide_eq_false (fun q => absurd ((nI_ltI (a := 289) (by omega) (by omega)).mp q) (by omega))) ?_
  refine ps_iload rfl rfl ?_
  refine pw_c rfl ?_
  refine ps_iload rfl rfl ?_
  refine ps_div rfl (nI_nz h1 (by omega)) ?_
  rw [show (289 : Int32) / nI w = nI (289 / w) from nI_div (a := 289) (by omega) (by omega)]
  refine ps_icmpf rfl (decide_eq_false (fun q => absurd ((nI_ltI (by omega) (by omega)).mp q) (by omega))) ?_
  refine pw_c rfl ?_
  refine ps_goto rfl ?_
  refine ps_istore rfl rfl ?_
  refine ps_aload rfl rfl ?_
  refine ps_iload rfl rfl ?_
  refine ps_iff rfl (rfl) ?_
  refine ps_iload rfl rfl ?_
  refine ps_goto rfl ?_
  refine ps_pfi 9 4 rfl rfl rfl (by first | exact hS0 _ _ | exact hS1 _ _ | exact hS2 _ _ | exact hS3 _ _ | exact hS4 _ _ | exact hS5 _ _ | exact hS6 _ _ | exact hS7 _ _ | exact hS8 _ _ | exact hS9 _ _ | exact hS10 _ _ | exact hS11 _ _ | exact hS12 _ _ | exact hS13 _ _ | assumption | rfl) rfl ?_
  refine ps_aload rfl rfl ?_
  refine ps_iload rfl rfl ?_
  refine ps_iff rfl (rfl) ?_
  refine ps_iload rfl rfl ?_
  refine ps_goto rfl ?_
  refine ps_pfi 9 5 rfl rfl rfl (by first | exact hS0 _ _ | exact hS1 _ _ | exact hS2 _ _ | exact hS3 _ _ | exact hS4 _ _ | exact hS5 _ _ | exact hS6 _ _ | exact hS7 _ _ | exact hS8 _ _ | exact hS9 _ _ | exact hS10 _ _ | exact hS11 _ _ | exact hS12 _ _ | exact hS13 _ _ | assumption | rfl) rfl ?_
  refine ps_aload rfl rfl ?_
  refine ps_aload rfl rfl ?_
  refine ps_gfi 9 4 rfl rfl rfl (by first | exact hS0 _ _ | exact hS1 _ _ | exact hS2 _ _ | exact hS3 _ _ | exact hS4 _ _ | exact hS5 _ _ | exact hS6 _ _ | exact hS7 _ _ | exact hS8 _ _ | exact hS9 _ _ | exact hS10 _ _ | exact hS11 _ _ | exact hS12 _ _ | exact hS13 _ _ | assumption | rfl) rfl ?_
  show pm_W _ _ _ _ [.int (pm_u (pm_u I p 4 (nI w)) p 5 (nI v) p 4), .ref p] (pm_u (pm_u I p 4 (nI w)) p 5 (nI v), L, g_R s, 306) _ _
  rw [pu_n (by decide), pu_s]
  refine ps_aload rfl rfl ?_
  refine ps_gfi 9 5 rfl rfl rfl (by first | exact hS0 _ _ | exact hS1 _ _ | exact hS2 _ _ | exact hS3 _ _ | exact hS4 _ _ | exact hS5 _ _ | exact hS6 _ _ | exact hS7 _ _ | exact hS8 _ _ | exact hS9 _ _ | exact hS10 _ _ | exact hS11 _ _ | exact hS12 _ _ | exact hS13 _ _ | assumption | rfl) rfl ?_
  show pm_W _ _ _ _ [.int (pm_u (pm_u I p 4 (nI w)) p 5 (nI v) p 5), .int (nI w), .ref p] _ _ _
  rw [pu_s]
  refine ps_ar rfl rfl rfl rfl rfl ?_
  rw [show nI w * nI v = nI (w * v) from pk_mul w v]
  refine ps_pfi 9 6 rfl rfl rfl (by first | exact hS0 _ _ | exact hS1 _ _ | exact hS2 _ _ | exact hS3 _ _ | exact hS4 _ _ | exact hS5 _ _ | exact hS6 _ _ | exact hS7 _ _ | exact hS8 _ _ | exact hS9 _ _ | exact hS10 _ _ | exact hS11 _ _ | exact hS12 _ _ | exact hS13 _ _ | assumption | rfl) rfl ?_
  refine ps_aload rfl rfl ?_
  refine pw_c rfl ?_
  refine ps_pfz 9 9 rfl rfl rfl (by first | exact hS0 _ _ | exact hS1 _ _ | exact hS2 _ _ | exact hS3 _ _ | exact hS4 _ _ | exact hS5 _ _ | exact hS6 _ _ | exact hS7 _ _ | exact hS8 _ _ | exact hS9 _ _ | exact hS10 _ _ | exact hS11 _ _ | exact hS12 _ _ | exact hS13 _ _ | assumption | rfl) rfl (Or.inl rfl) ?_
  refine ps_vret rfl rfl ?_
  exact kk
/-- weighed by its holes -/
theorem B_weighX {p w v : Nat} (hp : isP p) (hP : cP I p w v) (kk : ∀ I', (∀ a j, ¬ (a = p + 2 ∧ j < w * v) → I' a j = I a j) → (∀ j, j < w * v → I' (p + 2) j = if I (p + 1) j = 1 then 1 else -1) → Q [] (I', L, g_R s, 306)) : pm_W (g_P ys) 62 0 [.ref p, .retAddr 0] [] (I, L, g_R s, 306) (0, 0) Q := by
  obtain ⟨hS0, hS1, hS2, hS3, hR0, hR1, hR2⟩ := pl_F (ys := ys) (s := s) hp
  have h289 := hP.2.2.2.2.2
  have loop : ∀ d i I', i + d = w * v → (∀ a j, ¬ (a = p + 2 ∧ j < i) → I' a j = I a j) → (∀ j, j < i → I' (p + 2) j = if I (p + 1) j = 1 then 1 else -1) → pm_W (g_P ys) 62 2 [.ref p, .int (nI i)] [] (I', L, g_R s, 306) (0, 0) Q := by
    intro d
    induction d with
    | zero =>
      intro i I' hi h1 h2
      have hi : i = w * v := by omega
      have ce : I' p 6 = nI (w * v) := (h1 _ _ (by omega)).trans hP.2.2.1
      refine ps_iload rfl rfl ?_
      refine ps_aload rfl rfl ?_
      refine ps_gfi 9 6 rfl rfl rfl (by first | exact hS0 _ _ | exact hS1 _ _ | exact hS2 _ _ | exact hS3 _ _ | exact hS4 _ _ | exact hS5 _ _ | exact hS6 _ _ | exact hS7 _ _ | exact hS8 _ _ | exact hS9 _ _ | exact hS10 _ _ | exact hS11 _ _ | exact hS12 _ _ | exact hS13 _ _ | assumption | rfl) rfl ?_
      rw [show ((I', L, g_R s, 306) : pm_H).1 p 6 = nI (w * v) from ce]
      refine ps_icmpt rfl (decide_eq_true (nI_le (by omega) (by omega))) ?_
      refine ps_vret rfl rfl ?_
      rw [hi] at h1 h2
      exact kk _ h1 h2
    | succ d ih =>
      intro i I' hi h1 h2
      have ce : I' p 6 = nI (w * v) := (h1 _ _ (by omega)).trans hP.2.2.1
      refine ps_iload rfl rfl ?_
      refine ps_aload rfl rfl ?_
      refine ps_gfi 9 6 rfl rfl rfl (by first | exact hS0 _ _ | exact hS1 _ _ | exact hS2 _ _ | exact hS3 _ _ | exact hS4 _ _ | exact hS5 _ _ | exact hS6 _ _ | exact hS7 _ _ | exact hS8 _ _ | exact hS9 _ _ | exact hS10 _ _ | exact hS11 _ _ | exact hS12 _ _ | exact hS13 _ _ | assumption | rfl) rfl ?_
      rw [show ((I', L, g_R s, 306) : pm_H).1 p 6 = nI (w * v) from ce]
      refine ps_icmpf rfl (decide_eq_false (nI_ge (by omega) (by omega))) ?_
      refine ps_aload rfl rfl ?_
      refine ps_gfr 9 1 rfl rfl rfl (by first | exact hS0 _ _ | exact hS1 _ _ | exact hS2 _ _ | exact hS3 _ _ | exact hS4 _ _ | exact hS5 _ _ | exact hS6 _ _ | exact hS7 _ _ | exact hS8 _ _ | exact hS9 _ _ | exact hS10 _ _ | exact hS11 _ _ | exact hS12 _ _ | exact hS13 _ _ | assumption | rfl) rfl (by assumption) ?_
      refine ps_iload rfl rfl ?_
      refine ps_aload rfl rfl ?_
      refine ps_gfr 9 0 rfl rfl rfl (by first | exact hS0 _ _ | exact hS1 _ _ | exact hS2 _ _ | exact hS3 _ _ | exact hS4 _ _ | exact hS5 _ _ | exact hS6 _ _ | exact hS7 _ _ | exact hS8 _ _ | exact hS9 _ _ | exact hS10 _ _ | exact hS11 _ _ | exact hS12 _ _ | exact hS13 _ _ | assumption | rfl) rfl (by assumption) ?_
      refine ps_iload rfl rfl ?_
      refine ps_iald (i) rfl (by first | exact hS0 _ _ | exact hS1 _ _ | exact hS2 _ _ | exact hS3 _ _ | exact hS4 _ _ | exact hS5 _ _ | exact hS6 _ _ | exact hS7 _ _ | exact hS8 _ _ | exact hS9 _ _ | exact hS10 _ _ | exact hS11 _ _ | exact hS12 _ _ | exact hS13 _ _ | assumption | rfl) rfl (rfl) (by omega) ?_
      rw [show ((I', L, g_R s, 306) : pm_H).1 (p + 1) i = I (p + 1) i from h1 _ _ (by omega)]
      have next : ∀ x : Int32, x = (if I (p + 1) i = 1 then 1 else -1) → pm_W (g_P ys) 62 30 [.ref p, .int (nI i)] [.int x, .int (nI i), .ref (p + 2)] (I', L, g_R s, 306) (0, 0) Q := by
        intro x hx
        refine ps_iast (i) rfl (by first | exact hS0 _ _ | exact hS1 _ _ | exact hS2 _ _ | exact hS3 _ _ | exact hS4 _ _ | exact hS5 _ _ | exact hS6 _ _ | exact hS7 _ _ | exact hS8 _ _ | exact hS9 _ _ | exact hS10 _ _ | exact hS11 _ _ | exact hS12 _ _ | exact hS13 _ _ | assumption | rfl) rfl (rfl) (by omega) ?_
        refine ps_iinc rfl rfl ?_
        refine ps_goto rfl ?_
        rw [show nI i + Int32.ofInt 1 = nI (i + 1) from nI_1 i]
        exact ih (i + 1) _ (by omega) (fun a j q => (pu_x (fun z => q (by omega))).trans (h1 a j (fun z => q (by omega)))) (row_t (G := fun j => if I (p + 1) j = 1 then (1 : Int32) else -1) h2 hx)
      by_cases e : I (p + 1) i = 1
      · refine pw_c rfl ?_
        refine ps_icmpf rfl (decide_eq_false (fun z => z e)) ?_
        refine pw_c rfl ?_
        refine ps_goto rfl ?_
        exact next 1 (if_pos e).symm
      · refine pw_c rfl ?_
        refine ps_icmpt rfl (decide_eq_true e) ?_
        refine pw_c rfl ?_
        exact next (-1) (if_neg e).symm
  refine pw_c rfl ?_
  refine ps_istore rfl rfl ?_
  exact loop (w * v) 0 I (by omega) (fun _ _ _ => rfl) (fun j hj => absurd hj (by omega))
theorem B_countUpX {p w v : Nat} (hp : isP p) (hP : cP I p w v) (kk : Q [] (pm_u (pm_u I p 7 (suI (fun i => I (p + 1) i) (w * v))) p 8 (suI (fun i => I (p + 2) i) (w * v)), L, g_R s, 306)) : pm_W (g_P ys) 71 0 [.ref p] [] (I, L, g_R s, 306) (0, 0) Q := by
  obtain ⟨hS0, hS1, hS2, hS3, hR0, hR1, hR2⟩ := pl_F (ys := ys) (s := s) hp
  have h289 := hP.2.2.2.2.2
  refine ps_aload rfl rfl ?_
  refine ps_aload rfl rfl ?_
  refine ps_gfr 9 0 rfl rfl rfl (by first | exact hS0 _ _ | exact hS1 _ _ | exact hS2 _ _ | exact hS3 _ _ | exact hS4 _ _ | exact hS5 _ _ | exact hS6 _ _ | exact hS7 _ _ | exact hS8 _ _ | exact hS9 _ _ | exact hS10 _ _ | exact hS11 _ _ | exact hS12 _ _ | exact hS13 _ _ | assumption | rfl) rfl (by assumption) ?_
  refine pw_c rfl ?_
  refine ps_aload rfl rfl ?_
  refine ps_gfi 9 6 rfl rfl rfl (by first | exact hS0 _ _ | exact hS1 _ _ | exact hS2 _ _ | exact hS3 _ _ | exact hS4 _ _ | exact hS5 _ _ | exact hS6 _ _ | exact hS7 _ _ | exact hS8 _ _ | exact hS9 _ _ | exact hS10 _ _ | exact hS11 _ _ | exact hS12 _ _ | exact hS13 _ _ | assumption | rfl) rfl ?_
  rw [show ((I, L, g_R s, 306) : pm_H).1 p 6 = nI (w * v) from hP.2.2.1]
  refine pw_k rfl rfl rfl rfl ⟨Nat.zero_le _, Nat.zero_le _⟩ ?_
  refine B_sumX (b := p + 1) (f := 0) (n := w * v) (N := 289) hS1 (by omega) (by omega) ?_
  rw [show (fun i => I (p + 1) (0 + i)) = (fun i => I (p + 1) i) from by funext i; rw [Nat.zero_add]]
  refine ps_pfi 9 7 rfl rfl rfl (by first | exact hS0 _ _ | exact hS1 _ _ | exact hS2 _ _ | exact hS3 _ _ | exact hS4 _ _ | exact hS5 _ _ | exact hS6 _ _ | exact hS7 _ _ | exact hS8 _ _ | exact hS9 _ _ | exact hS10 _ _ | exact hS11 _ _ | exact hS12 _ _ | exact hS13 _ _ | assumption | rfl) rfl ?_
  refine ps_aload rfl rfl ?_
  refine ps_aload rfl rfl ?_
  refine ps_gfr 9 1 rfl rfl rfl (by first | exact hS0 _ _ | exact hS1 _ _ | exact hS2 _ _ | exact hS3 _ _ | exact hS4 _ _ | exact hS5 _ _ | exact hS6 _ _ | exact hS7 _ _ | exact hS8 _ _ | exact hS9 _ _ | exact hS10 _ _ | exact hS11 _ _ | exact hS12 _ _ | exact hS13 _ _ | assumption | rfl) rfl (by assumption) ?_
  refine pw_c rfl ?_
  refine ps_aload rfl rfl ?_
  refine ps_gfi 9 6 rfl rfl rfl (by first | exact hS0 _ _ | exact hS1 _ _ | exact hS2 _ _ | exact hS3 _ _ | exact hS4 _ _ | exact hS5 _ _ | exact hS6 _ _ | exact hS7 _ _ | exact hS8 _ _ | exact hS9 _ _ | exact hS10 _ _ | exact hS11 _ _ | exact hS12 _ _ | exact hS13 _ _ | assumption | rfl) rfl ?_
  show pm_W _ _ _ _ [.int (pm_u I p 7 (suI (fun i => I (p + 1) i) (w * v)) p 6), .int 0, .ref (p + 2), .ref p] (pm_u I p 7 (suI (fun i => I (p + 1) i) (w * v)), L, g_R s, 306) _ _
  rw [pu_n (by decide), hP.2.2.1]
  refine pw_k rfl rfl rfl rfl ⟨Nat.zero_le _, Nat.zero_le _⟩ ?_
  refine B_sumX (b := p + 2) (f := 0) (n := w * v) (N := 289) hS2 (by omega) (by omega) ?_
  rw [show (fun i => pm_u I p 7 (suI (fun i => I (p + 1) i) (w * v)) (p + 2) (0 + i)) = (fun i => I (p + 2) i) from by funext i; rw [Nat.zero_add, pu_o (by omega)]]
  refine ps_pfi 9 8 rfl rfl rfl (by first | exact hS0 _ _ | exact hS1 _ _ | exact hS2 _ _ | exact hS3 _ _ | exact hS4 _ _ | exact hS5 _ _ | exact hS6 _ _ | exact hS7 _ _ | exact hS8 _ _ | exact hS9 _ _ | exact hS10 _ _ | exact hS11 _ _ | exact hS12 _ _ | exact hS13 _ _ | assumption | rfl) rfl ?_
  refine ps_vret rfl rfl ?_
  exact kk
end KR
