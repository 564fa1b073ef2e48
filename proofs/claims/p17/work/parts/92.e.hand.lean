/-! BY HAND: sums and what is decoded -/
section HM
variable {ys : List Int32} {I : Nat → Nat → Int32} {L : Nat → Nat → Int64} {s : Nat → Option Nat} {Q : List Value → pm_H → Prop} {k w v : Nat} {h : pm_H}
theorem M_downBy {a b : Int32} (hb : ¬ b = 0) (kk : ∀ r, Q [.int r] h) : pm_W (g_P ys) 249 0 [.int a, .int b, .retAddr 0] [] h (0, 0) Q := by
  have fin : ∀ q : Int32, pm_W (g_P ys) 249 37 [.int a, .int b, .int q] [] h (0, 0) Q := by
    intro q
    refine ps_iload rfl rfl ?_
    refine ps_iret rfl rfl ?_
    exact kk _
  have fin2 : ∀ q c : Int32, pm_W (g_P ys) 249 19 [.int a, .int b, .int q] [.int c] h (0, 0) Q := by
    intro q c
    refine ps_iload rfl rfl ?_
    refine ps_if rfl (fun hc => ?_) (fun hc => ?_)
    · refine pw_c rfl ?_
      refine ps_icmp rfl (fun hc => ?_) (fun hc => ?_)
      · exact fin q
      · refine ps_iload rfl rfl ?_
        refine pw_c rfl ?_
        refine ps_ar rfl rfl rfl rfl rfl ?_
        refine ps_goto rfl ?_
        refine ps_iret rfl rfl ?_
        exact kk _
    · refine pw_c rfl ?_
      refine ps_goto rfl ?_
      refine ps_icmp rfl (fun hc => ?_) (fun hc => ?_)
      · exact fin q
      · refine ps_iload rfl rfl ?_
        refine pw_c rfl ?_
        refine ps_ar rfl rfl rfl rfl rfl ?_
        refine ps_goto rfl ?_
        refine ps_iret rfl rfl ?_
        exact kk _
  refine ps_iload rfl rfl ?_
  refine ps_iload rfl rfl ?_
  refine ps_div rfl (hb) ?_
  refine ps_istore rfl rfl ?_
  refine ps_iload rfl rfl ?_
  refine ps_iload rfl rfl ?_
  refine ps_rem rfl (hb) ?_
  refine ps_if rfl (fun hc => ?_) (fun hc => ?_)
  · exact fin _
  · refine ps_iload rfl rfl ?_
    refine ps_if rfl (fun hd => ?_) (fun hd => ?_)
    · refine pw_c rfl ?_
      exact fin2 _ _
    · refine pw_c rfl ?_
      refine ps_goto rfl ?_
      exact fin2 _ _
theorem M_lostAny (hu : I 275 24 = nI k) (hp : mPl I k w v) (kk : ∀ r, Q [.int r] (I, L, g_R s, 306)) : pm_W (g_P ys) 248 0 [.ref 275, .retAddr 0, .retAddr 0] [] (I, L, g_R s, 306) (0, 0) Q := by
  obtain ⟨hk, hw, hv, hw0, hv0, hwv⟩ := id hp
  have loop : ∀ d c, c + d = w * v → ∀ r, pm_W (g_P ys) 248 4 [.ref 275, .int r, .int (nI c)] [] (I, L, g_R s, 306) (0, 0) Q := by
    intro d
    induction d with
    | zero =>
      intro c hc r
      refine ps_iload rfl rfl ?_
      refine ps_aload rfl rfl ?_
      refine pw_k rfl rfl rfl rfl ⟨Nat.zero_le _, Nat.zero_le _⟩ ?_
      refine M_cells0 hu hk ?_
      refine ps_icmpt rfl (by rw [hw, hv, pk_mul]; exact decide_eq_true (nI_le (by omega) (by omega))) ?_
      refine ps_iload rfl rfl ?_
      refine ps_iret rfl rfl ?_
      exact kk _
    | succ d ih =>
      intro c hc r
      have nx : ∀ q, pm_W (g_P ys) 248 27 [.ref 275, .int r, .int (nI c)] [.int q, .int r] (I, L, g_R s, 306) (0, 0) Q := by
        intro q
        refine ps_ar rfl rfl rfl rfl rfl ?_
        refine ps_istore rfl rfl ?_
        refine ps_iinc rfl rfl ?_
        refine ps_goto rfl ?_
        rw [show nI c + Int32.ofInt 1 = nI (c + 1) from nI_1 c]
        exact ih (c + 1) (by omega) _
      refine ps_iload rfl rfl ?_
      refine ps_aload rfl rfl ?_
      refine pw_k rfl rfl rfl rfl ⟨Nat.zero_le _, Nat.zero_le _⟩ ?_
      refine M_cells0 hu hk ?_
      refine ps_icmpf rfl (by rw [hw, hv, pk_mul]; exact decide_eq_false (nI_ge (by omega) (by omega))) ?_
      refine ps_iload rfl rfl ?_
      refine ps_aload rfl rfl ?_
      refine ps_gfr 11 27 rfl rfl rfl rfl rfl (rfl) ?_
      refine ps_iload rfl rfl ?_
      refine ps_bald (c) rfl rfl (Or.inr rfl) rfl (rfl) (by omega) ?_
      refine ps_if rfl (fun hc => ?_) (fun hc => ?_)
      · refine pw_c rfl ?_
        exact nx _
      · refine pw_c rfl ?_
        refine ps_goto rfl ?_
        exact nx _
  refine pw_c rfl ?_
  refine ps_istore rfl rfl ?_
  refine pw_c rfl ?_
  refine ps_istore rfl rfl ?_
  exact loop (w * v) 0 (by omega) _
theorem M_lightAny (hu : I 275 24 = nI k) (hp : mPl I k w v) (kk : ∀ r, Q [.int r] (I, L, g_R s, 306)) : pm_W (g_P ys) 247 0 [.ref 275, .retAddr 0, .retAddr 0] [] (I, L, g_R s, 306) (0, 0) Q := by
  obtain ⟨hk, hw, hv, hw0, hv0, hwv⟩ := id hp
  have loop : ∀ d c, c + d = w * v → ∀ r, pm_W (g_P ys) 247 4 [.ref 275, .int r, .int (nI c)] [] (I, L, g_R s, 306) (0, 0) Q := by
    intro d
    induction d with
    | zero =>
      intro c hc r
      refine ps_iload rfl rfl ?_
      refine ps_aload rfl rfl ?_
      refine pw_k rfl rfl rfl rfl ⟨Nat.zero_le _, Nat.zero_le _⟩ ?_
      refine M_cells0 hu hk ?_
      refine ps_icmpt rfl (by rw [hw, hv, pk_mul]; exact decide_eq_true (nI_le (by omega) (by omega))) ?_
      refine ps_iload rfl rfl ?_
      refine ps_aload rfl rfl ?_
      refine ps_gfr 11 16 rfl rfl rfl rfl rfl (rfl) ?_
      refine pw_c rfl ?_
      refine ps_iald (3) rfl rfl rfl (rfl) (by omega) ?_
      refine ps_aload rfl rfl ?_
      refine pw_k rfl rfl rfl rfl ⟨Nat.zero_le _, Nat.zero_le _⟩ ?_
      refine M_cells0 hu hk ?_
      refine ps_aload rfl rfl ?_
      refine pw_k rfl rfl rfl rfl ⟨Nat.zero_le _, Nat.zero_le _⟩ ?_
      refine M_lostAny hu hp ?_
      intro q
      refine ps_ar rfl rfl rfl rfl rfl ?_
      refine ps_ar rfl rfl rfl rfl rfl ?_
      refine ps_ar rfl rfl rfl rfl rfl ?_
      refine ps_iret rfl rfl ?_
      exact kk _
    | succ d ih =>
      intro c hc r
      refine ps_iload rfl rfl ?_
      refine ps_aload rfl rfl ?_
      refine pw_k rfl rfl rfl rfl ⟨Nat.zero_le _, Nat.zero_le _⟩ ?_
      refine M_cells0 hu hk ?_
      refine ps_icmpf rfl (by rw [hw, hv, pk_mul]; exact decide_eq_false (nI_ge (by omega) (by omega))) ?_
      refine ps_iload rfl rfl ?_
      refine ps_aload rfl rfl ?_
      refine ps_gfr 11 29 rfl rfl rfl rfl rfl (rfl) ?_
      refine ps_iload rfl rfl ?_
      refine ps_iald (c) rfl rfl rfl (rfl) (by omega) ?_
      refine ps_ar rfl rfl rfl rfl rfl ?_
      refine ps_istore rfl rfl ?_
      refine ps_iinc rfl rfl ?_
      refine ps_goto rfl ?_
      rw [show nI c + Int32.ofInt 1 = nI (c + 1) from nI_1 c]
      exact ih (c + 1) (by omega) _
  refine pw_c rfl ?_
  refine ps_istore rfl rfl ?_
  refine pw_c rfl ?_
  refine ps_istore rfl rfl ?_
  exact loop (w * v) 0 (by omega) _
theorem M_trueAny (hu : I 275 24 = nI k) (hp : mPl I k w v) {n : Nat} (hn : I 288 0 = nI n) (hn8 : n ≤ 8) (x y : Int32) (kk : ∀ r, Q [.int r] (I, L, g_R s, 306)) : pm_W (g_P ys) 250 0 [.ref 275, .int x, .int y, .retAddr 0, .retAddr 0] [] (I, L, g_R s, 306) (0, 0) Q := by
  have loop : ∀ d c, c + d = n → ∀ r, pm_W (g_P ys) 250 5 [.ref 275, .int x, .int y, .int r, .int (nI c)] [] (I, L, g_R s, 306) (0, 0) Q := by
    intro d
    induction d with
    | zero =>
      intro c hc r
      refine ps_iload rfl rfl ?_
      refine ps_aload rfl rfl ?_
      refine ps_gfr 11 16 rfl rfl rfl rfl rfl (rfl) ?_
      refine pw_c rfl ?_
      refine ps_iald (0) rfl rfl rfl (rfl) (by omega) ?_
      refine ps_icmpt rfl (by show decide _ = true; rw [show ((I, L, g_R s, 306) : pm_H).1 288 0 = nI n from hn]; exact decide_eq_true (nI_le (by omega) (by omega))) ?_
      refine ps_iload rfl rfl ?_
      refine ps_iret rfl rfl ?_
      exact kk _
    | succ d ih =>
      intro c hc r
      have nx : ∀ q, pm_W (g_P ys) 250 71 [.ref 275, .int x, .int y, .int r, .int (nI c)] [.int q, .int r] (I, L, g_R s, 306) (0, 0) Q := by
        intro q
        refine ps_ar rfl rfl rfl rfl rfl ?_
        refine ps_istore rfl rfl ?_
        refine ps_iinc rfl rfl ?_
        refine ps_goto rfl ?_
        rw [show nI c + Int32.ofInt 1 = nI (c + 1) from nI_1 c]
        exact ih (c + 1) (by omega) _
      refine ps_iload rfl rfl ?_
      refine ps_aload rfl rfl ?_
      refine ps_gfr 11 16 rfl rfl rfl rfl rfl (rfl) ?_
      refine pw_c rfl ?_
      refine ps_iald (0) rfl rfl rfl (rfl) (by omega) ?_
      refine ps_icmpf rfl (by show decide _ = false; rw [show ((I, L, g_R s, 306) : pm_H).1 288 0 = nI n from hn]; exact decide_eq_false (nI_ge (by omega) (by omega))) ?_
      refine ps_iload rfl rfl ?_
      refine ps_aload rfl rfl ?_
      refine ps_aload rfl rfl ?_
      refine ps_gfr 11 16 rfl rfl rfl rfl rfl (rfl) ?_
      refine pw_c rfl ?_
      refine pw_c rfl ?_
      refine ps_iload rfl rfl ?_
      refine ps_ar rfl rfl rfl rfl rfl ?_
      refine ps_ar rfl rfl rfl rfl rfl ?_
      refine ps_iald (5 + 3 * c) rfl rfl rfl (by simp only [ni_lit, ni_l0, pk_mul, nI_add, Nat.add_zero]) (by omega) ?_
      refine ps_aload rfl rfl ?_
      refine ps_gfr 11 16 rfl rfl rfl rfl rfl (rfl) ?_
      refine pw_c rfl ?_
      refine pw_c rfl ?_
      refine ps_iload rfl rfl ?_
      refine ps_ar rfl rfl rfl rfl rfl ?_
      refine ps_ar rfl rfl rfl rfl rfl ?_
      refine pw_c rfl ?_
      refine ps_ar rfl rfl rfl rfl rfl ?_
      refine ps_iald (5 + 3 * c + 1) rfl rfl rfl (by simp only [ni_lit, ni_l0, pk_mul, nI_add, Nat.add_zero]) (by omega) ?_
      refine pw_k rfl rfl rfl rfl ⟨Nat.zero_le _, Nat.zero_le _⟩ ?_
      refine M_cellAt hu hp _ _ ?_
      refine ps_aload rfl rfl ?_
      refine ps_iload rfl rfl ?_
      refine ps_iload rfl rfl ?_
      refine pw_k rfl rfl rfl rfl ⟨Nat.zero_le _, Nat.zero_le _⟩ ?_
      refine M_cellAt hu hp _ _ ?_
      refine ps_icmp rfl (fun hc => ?_) (fun hc => ?_)
      · refine pw_c rfl ?_
        exact nx _
      · refine ps_aload rfl rfl ?_
        refine ps_gfr 11 16 rfl rfl rfl rfl rfl (rfl) ?_
        refine pw_c rfl ?_
        refine pw_c rfl ?_
        refine ps_iload rfl rfl ?_
        refine ps_ar rfl rfl rfl rfl rfl ?_
        refine ps_ar rfl rfl rfl rfl rfl ?_
        refine pw_c rfl ?_
        refine ps_ar rfl rfl rfl rfl rfl ?_
        refine ps_iald (5 + 3 * c + 2) rfl rfl rfl (by simp only [ni_lit, ni_l0, pk_mul, nI_add, Nat.add_zero]) (by omega) ?_
        refine ps_goto rfl ?_
        exact nx _
  refine pw_c rfl ?_
  refine ps_istore rfl rfl ?_
  refine pw_c rfl ?_
  refine ps_istore rfl rfl ?_
  exact loop n 0 (by omega) _
/-- alike but for one row -/
def rAg (b : Nat) (I I' : Nat → Nat → Int32) : Prop := ∀ a j : Nat, ¬ (a = b ∧ j < 289) → I' a j = I a j
theorem rAg_refl {b : Nat} : rAg b I I := fun _ _ _ => rfl
theorem rAg_o {b : Nat} {I' : Nat → Nat → Int32} (h : rAg b I I') {a j : Nat} (ha : ¬ a = b) : I' a j = I a j := h a j (fun q => ha q.1)
theorem rAg_u {b : Nat} {I' : Nat → Nat → Int32} (h : rAg b I I') {j : Nat} {x : Int32} (hj : j < 289) : rAg b I (pm_u I' b j x) := by
  intro a i hn
  unfold pm_u
  split
  · rename_i e
    subst e
    split
    · rename_i e2
      subst e2
      exact absurd ⟨rfl, hj⟩ hn
    · exact h _ _ hn
  · exact h _ _ hn
theorem rAg_mPl {b : Nat} {I' : Nat → Nat → Int32} (h : rAg b I I') (hb : ¬ 278 = b) (hp : mPl I k w v) : mPl I' k w v := by
  unfold mPl at hp ⊢
  rw [rAg_o h hb, rAg_o h hb]
  exact hp
theorem M_decodesAny {b : Nat} (hb : ∀ I', pm_sh (g_P ys) (I', L, g_R s, 306) b = some (.inr (0, 289))) (hu : I 275 24 = nI k) (hp : mPl I k w v) (kk : ∀ I', rAg 298 I I' → Q [] (I', L, g_R s, 306)) : pm_W (g_P ys) 255 0 [.ref 275, .ref b, .retAddr 0, .retAddr 0] [] (I, L, g_R s, 306) (0, 0) Q := by
  obtain ⟨hk, hw, hv, hw0, hv0, hwv⟩ := id hp
  obtain ⟨hwb, hvb⟩ := hp.b
  have outer : ∀ d j, j + d = v → ∀ u I', rAg 298 I I' → pm_W (g_P ys) 255 2 [.ref 275, .ref b, .int (nI j), u] [] (I', L, g_R s, 306) (0, 0) Q := by
    intro d
    induction d with
    | zero =>
      intro j hj u I' ag
      have hp' := rAg_mPl ag (by decide) hp
      have hu' : I' 275 24 = nI k := by rw [rAg_o ag (by decide)]; exact hu
      refine ps_iload rfl rfl ?_
      refine ps_aload rfl rfl ?_
      refine pw_k rfl rfl rfl rfl ⟨Nat.zero_le _, Nat.zero_le _⟩ ?_
      refine M_high hu' hk ?_
      refine ps_icmpt rfl (by rw [hp'.2.2.1]; exact decide_eq_true (nI_le (by omega) (by omega))) ?_
      refine ps_vret rfl rfl ?_
      exact kk _ ag
    | succ d ih =>
      intro j hj u I' ag
      have inner : ∀ e i, i + e = w → ∀ I', rAg 298 I I' → pm_W (g_P ys) 255 12 [.ref 275, .ref b, .int (nI j), .int (nI i)] [] (I', L, g_R s, 306) (0, 0) Q := by
        intro e
        induction e with
        | zero =>
          intro i hi I' ag
          have hp' := rAg_mPl ag (by decide) hp
          have hu' : I' 275 24 = nI k := by rw [rAg_o ag (by decide)]; exact hu
          refine ps_iload rfl rfl ?_
          refine ps_aload rfl rfl ?_
          refine pw_k rfl rfl rfl rfl ⟨Nat.zero_le _, Nat.zero_le _⟩ ?_
          refine M_wide hu' hk ?_
          refine ps_icmpt rfl (by rw [hp'.2.1]; exact decide_eq_true (nI_le (by omega) (by omega))) ?_
          refine ps_iinc rfl rfl ?_
          refine ps_goto rfl ?_
          rw [show nI j + Int32.ofInt 1 = nI (j + 1) from nI_1 j]
          exact ih (j + 1) (by omega) _ _ ag
        | succ e ih2 =>
          intro i hi I' ag
          have hp' := rAg_mPl ag (by decide) hp
          have hu' : I' 275 24 = nI k := by rw [rAg_o ag (by decide)]; exact hu
          have hc := cxy_lt hw0 hv0 (nI i).toInt (nI j).toInt
          refine ps_iload rfl rfl ?_
          refine ps_aload rfl rfl ?_
          refine pw_k rfl rfl rfl rfl ⟨Nat.zero_le _, Nat.zero_le _⟩ ?_
          refine M_wide hu' hk ?_
          refine ps_icmpf rfl (by rw [hp'.2.1]; exact decide_eq_false (nI_ge (by omega) (by omega))) ?_
          refine ps_aload rfl rfl ?_
          refine ps_gfr 11 30 rfl rfl rfl rfl rfl (rfl) ?_
          refine ps_aload rfl rfl ?_
          refine ps_iload rfl rfl ?_
          refine ps_iload rfl rfl ?_
          refine pw_k rfl rfl rfl rfl ⟨Nat.zero_le _, Nat.zero_le _⟩ ?_
          refine M_cellAt hu' hp' _ _ ?_
          refine ps_aload rfl rfl ?_
          refine ps_aload rfl rfl ?_
          refine ps_iload rfl rfl ?_
          refine ps_iload rfl rfl ?_
          refine pw_k rfl rfl rfl rfl ⟨Nat.zero_le _, Nat.zero_le _⟩ ?_
          refine M_decodedAt (hb _) hu' hp' _ _ ?_
          intro r
          refine ps_iast (cxy w v (nI i).toInt (nI j).toInt) rfl rfl rfl (rfl) (by omega) ?_
          refine ps_iinc rfl rfl ?_
          refine ps_goto rfl ?_
          rw [show nI i + Int32.ofInt 1 = nI (i + 1) from nI_1 i]
          exact ih2 (i + 1) (by omega) _ (rAg_u ag (by omega))
      have hp' := rAg_mPl ag (by decide) hp
      have hu' : I' 275 24 = nI k := by rw [rAg_o ag (by decide)]; exact hu
      refine ps_iload rfl rfl ?_
      refine ps_aload rfl rfl ?_
      refine pw_k rfl rfl rfl rfl ⟨Nat.zero_le _, Nat.zero_le _⟩ ?_
      refine M_high hu' hk ?_
      refine ps_icmpf rfl (by rw [hp'.2.2.1]; exact decide_eq_false (nI_ge (by omega) (by omega))) ?_
      refine pw_c rfl ?_
      refine ps_istore rfl rfl ?_
      exact inner w 0 (by omega) _ ag
  refine pw_c rfl ?_
  refine ps_istore rfl rfl ?_
  exact outer v 0 (by omega) _ _ rAg_refl
end HM
/-! sides -/
section HN
variable {ys : List Int32} {I : Nat → Nat → Int32} {L : Nat → Nat → Int64} {s : Nat → Option Nat} {Q : List Value → pm_H → Prop} {k w v : Nat}
def sAg (k : Nat) (I I' : Nat → Nat → Int32) : Prop := ∀ a j : Nat, ¬ ((a = 291 ∨ a = 292 ∨ a = 293 ∨ a = 294) ∧ j = k) → I' a j = I a j
theorem sAg_refl : sAg k I I := fun _ _ _ => rfl
theorem sAg_u {I' : Nat → Nat → Int32} (h : sAg k I I') {b : Nat} {x : Int32} (hb : b = 291 ∨ b = 292 ∨ b = 293 ∨ b = 294) : sAg k I (pm_u I' b k x) := by
  intro a j hn
  unfold pm_u
  split
  · rename_i e
    subst e
    split
    · rename_i e2
      exact absurd ⟨hb, e2⟩ hn
    · exact h _ _ hn
  · exact h _ _ hn
theorem sAg_mPl {I' : Nat → Nat → Int32} (h : sAg k I I') {n : Nat} (hp : mPl I n w v) : mPl I' n w v := by
  unfold mPl at hp ⊢
  rw [h _ _ (by omega), h _ _ (by omega)]
  exact hp
theorem M_sideAny (hp : mPl I k w v) {i j : Nat} (hi : i < 1000) (hj : j < 1000) (kk : ∀ r, Q [.int r] (I, L, g_R s, 306)) : pm_W (g_P ys) 199 0 [.ref 275, .int (nI k), .int (nI i), .int (nI j), .retAddr 0, .retAddr 0, .retAddr 0] [] (I, L, g_R s, 306) (0, 0) Q := by
  rw [← iI_nat i, ← iI_nat j]
  exact M_sideOf hp (by omega) (by omega) (kk _)
theorem M_laysSides (hp : mPl I k w v) (k1 : ¬ I 294 k = 0 → Q [] (I, L, g_R s, 306)) (k2 : I 294 k = 0 → ∀ I', sAg k I I' → I' 294 k = 1 → Q [] (I', L, g_R s, 306)) : pm_W (g_P ys) 198 0 [.ref 275, .int (nI k), .retAddr 0, .retAddr 0, .retAddr 0, .retAddr 0] [] (I, L, g_R s, 306) (0, 0) Q := by
  obtain ⟨hk, hw, hv, hw0, hv0, hwv⟩ := id hp
  obtain ⟨hwb, hvb⟩ := hp.b
  refine ps_aload rfl rfl ?_
  refine ps_gfr 11 23 rfl rfl rfl rfl rfl (rfl) ?_
  refine ps_iload rfl rfl ?_
  refine ps_bald (k) rfl rfl (Or.inr rfl) rfl (rfl) (by omega) ?_
  refine ps_if rfl (fun hc => ?_) (fun hc => ?_)
  · have h0 : I 294 k = 0 := by simpa [pm_cmp] using hc
    have outer : ∀ d j, j + d = v → ∀ b u1 u2 I', sAg k I I' → I' 294 k = 1 → pm_W (g_P ys) 198 34 [.ref 275, .int (nI k), .int b, .int (nI j), u1, u2] [] (I', L, g_R s, 306) (0, 0) Q := by
      intro d
      induction d with
      | zero =>
        intro j hj b u1 u2 I' ag ha
        have hp' := sAg_mPl ag hp
        refine ps_iload rfl rfl ?_
        refine ps_aload rfl rfl ?_
        refine ps_iload rfl rfl ?_
        refine pw_k rfl rfl rfl rfl ⟨Nat.zero_le _, Nat.zero_le _⟩ ?_
        refine M_highOf hk ?_
        refine ps_icmpt rfl (by rw [hp'.2.2.1]; exact decide_eq_true (nI_le (by omega) (by omega))) ?_
        refine ps_vret rfl rfl ?_
        exact k2 h0 _ ag ha
      | succ d ih =>
        intro j hj b u1 u2 I' ag ha
        have inner : ∀ e i, i + e = w → ∀ b u2 I', sAg k I I' → I' 294 k = 1 → pm_W (g_P ys) 198 46 [.ref 275, .int (nI k), .int b, .int (nI j), .int (nI i), u2] [] (I', L, g_R s, 306) (0, 0) Q := by
          intro e
          induction e with
          | zero =>
            intro i hi b u2 I' ag ha
            have hp' := sAg_mPl ag hp
            refine ps_iload rfl rfl ?_
            refine ps_aload rfl rfl ?_
            refine ps_iload rfl rfl ?_
            refine pw_k rfl rfl rfl rfl ⟨Nat.zero_le _, Nat.zero_le _⟩ ?_
            refine M_wideOf hk ?_
            refine ps_icmpt rfl (by rw [hp'.2.1]; exact decide_eq_true (nI_le (by omega) (by omega))) ?_
            refine ps_iinc rfl rfl ?_
            refine ps_goto rfl ?_
            rw [show nI j + Int32.ofInt 1 = nI (j + 1) from nI_1 j]
            exact ih (j + 1) (by omega) _ _ _ _ ag ha
          | succ e ih2 =>
            intro i hi b u2 I' ag ha
            have hp' := sAg_mPl ag hp
            have nx : ∀ b u2 I', sAg k I I' → I' 294 k = 1 → pm_W (g_P ys) 198 142 [.ref 275, .int (nI k), .int b, .int (nI j), .int (nI i), u2] [] (I', L, g_R s, 306) (0, 0) Q := by
              intro b u2 I' ag ha
              refine ps_iinc rfl rfl ?_
              refine ps_goto rfl ?_
              rw [show nI i + Int32.ofInt 1 = nI (i + 1) from nI_1 i]
              exact ih2 (i + 1) (by omega) _ _ _ ag ha
            have f2 : ∀ r q I', sAg k I I' → I' 294 k = 1 → pm_W (g_P ys) 198 139 [.ref 275, .int (nI k), .int b, .int (nI j), .int (nI i), .int q] [.int r, .int (nI k), .ref 292] (I', L, g_R s, 306) (0, 0) Q := by
              intro r q I' ag ha
              refine ps_iast (k) rfl rfl rfl (rfl) (by omega) ?_
              refine pw_c rfl ?_
              refine ps_istore rfl rfl ?_
              exact nx _ _ _ (sAg_u ag (Or.inr (Or.inl rfl))) (by show pm_u I' 292 k r 294 k = 1; rw [pu_o (by decide)]; exact ha)
            have f1 : ∀ r q I', sAg k I I' → I' 294 k = 1 → pm_W (g_P ys) 198 107 [.ref 275, .int (nI k), .int b, .int (nI j), .int (nI i), .int q] [.int r, .int (nI k), .ref 291] (I', L, g_R s, 306) (0, 0) Q := by
              intro r q I' ag ha
              have ag2 : sAg k I (pm_u I' 291 k r) := sAg_u ag (Or.inl rfl)
              have ha2 : pm_u I' 291 k r 294 k = 1 := by rw [pu_o (by decide)]; exact ha
              refine ps_iast (k) rfl rfl rfl (rfl) (by omega) ?_
              refine ps_aload rfl rfl ?_
              refine ps_gfr 11 21 rfl rfl rfl rfl rfl (rfl) ?_
              refine ps_iload rfl rfl ?_
              refine ps_iload rfl rfl ?_
              refine ps_if rfl (fun hc => ?_) (fun hc => ?_)
              · refine ps_iload rfl rfl ?_
                refine ps_goto rfl ?_
                exact f2 _ _ _ ag2 ha2
              · refine ps_iload rfl rfl ?_
                refine ps_aload rfl rfl ?_
                refine ps_gfr 11 21 rfl rfl rfl rfl rfl (rfl) ?_
                refine ps_iload rfl rfl ?_
                refine ps_iald (k) rfl rfl rfl (rfl) (by omega) ?_
                refine ps_icmp rfl (fun hc => ?_) (fun hc => ?_)
                · refine ps_aload rfl rfl ?_
                  refine ps_gfr 11 21 rfl rfl rfl rfl rfl (rfl) ?_
                  refine ps_iload rfl rfl ?_
                  refine ps_iald (k) rfl rfl rfl (rfl) (by omega) ?_
                  exact f2 _ _ _ ag2 ha2
                · refine ps_iload rfl rfl ?_
                  refine ps_goto rfl ?_
                  exact f2 _ _ _ ag2 ha2
            refine ps_iload rfl rfl ?_
            refine ps_aload rfl rfl ?_
            refine ps_iload rfl rfl ?_
            refine pw_k rfl rfl rfl rfl ⟨Nat.zero_le _, Nat.zero_le _⟩ ?_
            refine M_wideOf hk ?_
            refine ps_icmpf rfl (by rw [hp'.2.1]; exact decide_eq_false (nI_ge (by omega) (by omega))) ?_
            refine ps_iload rfl rfl ?_
            refine ps_iload rfl rfl ?_
            refine ps_ar rfl rfl rfl rfl rfl ?_
            refine ps_if rfl (fun hc => ?_) (fun hc => ?_)
            · refine ps_aload rfl rfl ?_
              refine ps_iload rfl rfl ?_
              refine ps_iload rfl rfl ?_
              refine ps_iload rfl rfl ?_
              refine pw_k rfl rfl rfl rfl ⟨Nat.zero_le _, Nat.zero_le _⟩ ?_
              refine M_sideAny hp' (by omega) (by omega) ?_
              intro q
              refine ps_istore rfl rfl ?_
              refine ps_aload rfl rfl ?_
              refine ps_gfr 11 20 rfl rfl rfl rfl rfl (rfl) ?_
              refine ps_iload rfl rfl ?_
              refine ps_iload rfl rfl ?_
              refine ps_if rfl (fun hc => ?_) (fun hc => ?_)
              · refine ps_iload rfl rfl ?_
                refine ps_goto rfl ?_
                exact f1 _ _ _ ag ha
              · refine ps_iload rfl rfl ?_
                refine ps_aload rfl rfl ?_
                refine ps_gfr 11 20 rfl rfl rfl rfl rfl (rfl) ?_
                refine ps_iload rfl rfl ?_
                refine ps_iald (k) rfl rfl rfl (rfl) (by omega) ?_
                refine ps_icmp rfl (fun hc => ?_) (fun hc => ?_)
                · refine ps_aload rfl rfl ?_
                  refine ps_gfr 11 20 rfl rfl rfl rfl rfl (rfl) ?_
                  refine ps_iload rfl rfl ?_
                  refine ps_iald (k) rfl rfl rfl (rfl) (by omega) ?_
                  exact f1 _ _ _ ag ha
                · refine ps_iload rfl rfl ?_
                  refine ps_goto rfl ?_
                  exact f1 _ _ _ ag ha
            · refine ps_goto rfl ?_
              exact nx _ _ _ ag ha
        have hp' := sAg_mPl ag hp
        refine ps_iload rfl rfl ?_
        refine ps_aload rfl rfl ?_
        refine ps_iload rfl rfl ?_
        refine pw_k rfl rfl rfl rfl ⟨Nat.zero_le _, Nat.zero_le _⟩ ?_
        refine M_highOf hk ?_
        refine ps_icmpf rfl (by rw [hp'.2.2.1]; exact decide_eq_false (nI_ge (by omega) (by omega))) ?_
        refine pw_c rfl ?_
        refine ps_istore rfl rfl ?_
        exact inner w 0 (by omega) _ _ _ ag ha
    have ag1 : sAg k I (pm_u I 294 k 1) := sAg_u sAg_refl (Or.inr (Or.inr (Or.inr rfl)))
    refine ps_aload rfl rfl ?_
    refine ps_gfr 11 23 rfl rfl rfl rfl rfl (rfl) ?_
    refine ps_iload rfl rfl ?_
    refine pw_c rfl ?_
    refine ps_zast (k) rfl rfl rfl (rfl) (by omega) ?_
    show pm_W (g_P ys) 198 17 _ _ (pm_u I 294 k 1, L, g_R s, 306) (0, 0) Q
    refine ps_aload rfl rfl ?_
    refine ps_gfr 11 22 rfl rfl rfl rfl rfl (rfl) ?_
    refine ps_iload rfl rfl ?_
    refine ps_aload rfl rfl ?_
    refine ps_iload rfl rfl ?_
    refine pw_c rfl ?_
    refine pw_c rfl ?_
    show pm_W (g_P ys) 198 26 _ [.int (nI 0), .int (nI 0), .int (nI k), .ref 275, .int (nI k), .ref 293] _ _ _
    refine pw_k rfl rfl rfl rfl ⟨Nat.zero_le _, Nat.zero_le _⟩ ?_
    refine M_sideAny (sAg_mPl ag1 hp) (by omega) (by omega) ?_
    intro q
    refine ps_iast (k) rfl rfl rfl (rfl) (by omega) ?_
    refine pw_c rfl ?_
    refine ps_istore rfl rfl ?_
    refine pw_c rfl ?_
    refine ps_istore rfl rfl ?_
    exact outer v 0 (by omega) _ _ _ _ (sAg_u ag1 (Or.inr (Or.inr (Or.inl rfl)))) (by show pm_u (pm_u I 294 k 1) 293 k q 294 k = 1; rw [pu_o (by decide)]; exact pu_s)
  · refine ps_vret rfl rfl ?_
    exact k1 (by simpa [pm_cmp] using hc)
end HN
