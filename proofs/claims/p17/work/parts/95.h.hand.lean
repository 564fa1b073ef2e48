/-! BY HAND: shadows of the model, how great they are -/
section IT
variable {I I' : Nat → Nat → Int32} {L : Nat → Nat → Int64} {s : Nat → Option Nat} {w v : Nat}
theorem cxy_in {i j : Nat} (hi : i < w) (hj : j < v) (hb : w ≤ 289 ∧ v ≤ 289) : cxy w v (nI i).toInt (nI j).toInt = j * w + i := by
  rw [nI_toInt (by omega), nI_toInt (by omega)]
  unfold cxy
  rw [Int.emod_eq_of_lt (by omega) (by omega), Int.emod_eq_of_lt (by omega) (by omega), Int.toNat_natCast, Int.toNat_natCast]
theorem i_add {x y : Int32} (h1 : -2147483648 ≤ x.toInt + y.toInt) (h2 : x.toInt + y.toInt < 2147483648) : (x + y).toInt = x.toInt + y.toInt := by
  rw [show x + y = iI (x.toInt + y.toInt) from by rw [← iI_add, ← iI_of, ← iI_of], iI_toInt h1 h2]
/-- alike but for the rows of the shadows -/
def lAg (I I' : Nat → Nat → Int32) : Prop := ∀ a j : Nat, ¬ ((a = 295 ∨ a = 296 ∨ a = 297) ∧ j < 289) → I' a j = I a j
def lB (I' : Nat → Nat → Int32) : Prop := ∀ j, j < 289 → (0 ≤ (I' 295 j).toInt ∧ (I' 295 j).toInt ≤ 1) ∧ 0 ≤ (I' 296 j).toInt ∧ (I' 296 j).toInt ≤ 16083
theorem lAg_refl : lAg I I := fun _ _ _ => rfl
theorem lAg_o (h : lAg I I') {a j : Nat} (ha : ¬ (a = 295 ∨ a = 296 ∨ a = 297)) : I' a j = I a j := h a j (fun q => ha q.1)
theorem lAg_u (h : lAg I I') {b j : Nat} {x : Int32} (hb : b = 295 ∨ b = 296 ∨ b = 297) (hj : j < 289) : lAg I (pm_u I' b j x) := by
  intro a i hn
  unfold pm_u
  split
  · rename_i e
    subst e
    split
    · rename_i e2
      subst e2
      exact absurd ⟨hb, hj⟩ hn
    · exact h _ _ hn
  · exact h _ _ hn
theorem lAg_mPl (h : lAg I I') {n : Nat} (hp : mPl I n w v) : mPl I' n w v := by
  unfold mPl at hp ⊢
  rw [lAg_o h (by decide), lAg_o h (by decide)]
  exact hp
theorem lB_l (h : lB I') {j : Nat} {x : Int32} (h1 : 0 ≤ x.toInt) (h2 : x.toInt ≤ 1) : lB (pm_u I' 295 j x) := by
  intro c hc
  rw [pu_o (a := 295) (b := 296) (by decide)]
  refine ⟨?_, (h c hc).2⟩
  by_cases e : c = j
  · subst e
    rw [pu_s]
    exact ⟨h1, h2⟩
  · rw [pu_n e]
    exact (h c hc).1
theorem lB_w (h : lB I') {j : Nat} {x : Int32} (h1 : 0 ≤ x.toInt) (h2 : x.toInt ≤ 16083) : lB (pm_u I' 296 j x) := by
  intro c hc
  rw [pu_o (a := 296) (b := 295) (by decide)]
  refine ⟨(h c hc).1, ?_⟩
  by_cases e : c = j
  · subst e
    rw [pu_s]
    exact ⟨h1, h2⟩
  · rw [pu_n e]
    exact (h c hc).2
theorem lB_s (h : lB I') {j : Nat} {x : Int32} : lB (pm_u I' 297 j x) := by
  intro c hc
  rw [pu_o (by decide), pu_o (by decide)]
  exact h c hc
theorem lB_0 (iv : sx_IV xT xtg xPH (I, L, g_R s, 306)) : lB I := fun j hj =>
  ⟨iv.1 295 j (.ofNat 0, .ofNat 288, .ofNat 0, .ofNat 1) (by decide) (by show (0 : Int) ≤ _; omega) (by show _ ≤ (288 : Int); omega), iv.1 296 j (.ofNat 0, .ofNat 288, .ofNat 0, .ofNat 16083) (by decide) (by show (0 : Int) ≤ _; omega) (by show _ ≤ (288 : Int); omega)⟩
abbrev lyW : sx_W := [(70, .ofNat 0, .ofNat 288), (71, .ofNat 0, .ofNat 288), (72, .ofNat 0, .ofNat 288)]
theorem lAg_iv (iv : sx_IV xT xtg xPH (I, L, g_R s, 306)) (ag : lAg I I') (b : lB I') : sx_IV xT xtg xPH (I', L, g_R s, 306) ∧ sx_fr xtg xVP lyW (false, false) (I, L, g_R s, 306) (I', L, g_R s, 306) := by
  have ag2 : ∀ a j : Nat, ¬ (a = 295 ∨ a = 296 ∨ a = 297) → I' a j = I a j := fun a j ha => lAg_o ag ha
  refine ⟨iv_new iv (fun c j q hq k1 k2 => ?_) (xK_ag (P := fun a => a = 295 ∨ a = 296 ∨ a = 297) (fun a e => ?_) ag2 iv.2.2.2.2.2), fun c j hn => ?_, fun _ l z k => xV_ag (P := fun a => a = 295 ∨ a = 296 ∨ a = 297) (fun a e => ?_) ag2 k, fun _ => rfl⟩
  · by_cases e : c = 295 ∨ c = 296 ∨ c = 297
    · rcases e with rfl | rfl | rfl
      · have hq' : q ∈ [((.ofNat 0, .ofNat 288, .ofNat 0, .ofNat 1) : Int × Int × Int × Int)] := hq
        rcases List.mem_cons.mp hq' with rfl | hq'
        · have k2' : (j : Int) ≤ 288 := k2
          exact (b j (by omega)).1
        · cases hq'
      · have hq' : q ∈ [((.ofNat 0, .ofNat 288, .ofNat 0, .ofNat 16083) : Int × Int × Int × Int)] := hq
        rcases List.mem_cons.mp hq' with rfl | hq'
        · have k2' : (j : Int) ≤ 288 := k2
          exact (b j (by omega)).2
        · cases hq'
      · exact absurd hq (by intro q; cases q)
    · rw [ag2 c j e]
      exact iv.1 c j q hq k1 k2
  · rcases e with rfl | rfl | rfl <;> decide
  · refine ag c j (fun q => hn ?_)
    obtain ⟨e, hj⟩ := q
    rcases e with rfl | rfl | rfl
    · exact sx_wk_ok (lo := 0) (hi := 288) (by decide) (by omega) (by omega)
    · exact sx_wk_ok (lo := 0) (hi := 288) (by decide) (by omega) (by omega)
    · exact sx_wk_ok (lo := 0) (hi := 288) (by decide) (by omega) (by omega)
  · rcases e with rfl | rfl | rfl <;> decide
end IT
section IU
variable {ys : List Int32} {I : Nat → Nat → Int32} {L : Nat → Nat → Int64} {s : Nat → Option Nat} {Q : List Value → pm_H → Prop} {k w v : Nat}
theorem M_holeAny {u : Int32} (hu : u = nI k) (hp : mPl I k w v) (x y : Int32) (kk : ∀ r : Int32, r = 0 ∨ r = 1 → Q [.int r] (I, L, g_R s, 306)) : pm_W (g_P ys) 200 0 [.ref 275, .int u, .int x, .int y] [] (I, L, g_R s, 306) (0, 0) Q := by
  have bx := i_bd x
  have by' := i_bd y
  rw [hu, iI_of x, iI_of y]
  exact M_isHole hp (by omega) (by omega) (kk _ (bI_01 _))
theorem M_letsAny (hu : I 275 24 = nI k) (hp : mPl I k w v) (x y : Int32) (kk : ∀ r : Int32, r = 0 ∨ r = 1 → Q [.int r] (I, L, g_R s, 306)) : pm_W (g_P ys) 243 0 [.ref 275, .int x, .int y] [] (I, L, g_R s, 306) (0, 0) Q := by
  refine ps_aload rfl rfl ?_
  refine ps_aload rfl rfl ?_
  refine ps_gfi 11 24 rfl rfl rfl rfl rfl ?_
  refine ps_iload rfl rfl ?_
  refine ps_aload rfl rfl ?_
  refine ps_gfi 11 25 rfl rfl rfl rfl rfl ?_
  refine ps_ar rfl rfl rfl rfl rfl ?_
  refine ps_iload rfl rfl ?_
  refine pw_k rfl rfl rfl rfl ⟨Nat.zero_le _, Nat.zero_le _⟩ ?_
  refine M_holeAny hu hp _ _ ?_
  intro r hr
  refine ps_aload rfl rfl ?_
  refine ps_gfi 11 26 rfl rfl rfl rfl rfl ?_
  refine ps_icmp rfl (fun hc => ?_) (fun hc => ?_)
  · refine pw_c rfl ?_
    refine ps_zret rfl rfl (Or.inl rfl) ?_
    exact kk _ (Or.inl rfl)
  · refine pw_c rfl ?_
    refine ps_goto rfl ?_
    refine ps_zret rfl rfl (Or.inr rfl) ?_
    exact kk _ (Or.inr rfl)
theorem M_wholeB (hu : I 275 24 = nI k) (hp : mPl I k w v) (hB : sx_IB xT xtg I) {n : Nat} (hn : I 288 0 = nI n) (hn8 : n ≤ 8) (x y : Int32) (kk : ∀ r : Int32, 0 ≤ r.toInt → r.toInt ≤ 8091 → Q [.int r] (I, L, g_R s, 306)) : pm_W (g_P ys) 242 0 [.ref 275, .int x, .int y, .retAddr 0, .retAddr 0] [] (I, L, g_R s, 306) (0, 0) Q := by
  have loop : ∀ d c, c + d = n → ∀ r : Int32, 0 ≤ r.toInt → r.toInt ≤ 99 + 999 * c → pm_W (g_P ys) 242 10 [.ref 275, .int x, .int y, .int r, .int (nI c)] [] (I, L, g_R s, 306) (0, 0) Q := by
    intro d
    induction d with
    | zero =>
      intro c hc r r0 r1
      refine ps_iload rfl rfl ?_
      refine ps_aload rfl rfl ?_
      refine ps_gfr 11 16 rfl rfl rfl rfl rfl (rfl) ?_
      refine pw_c rfl ?_
      refine ps_iald (0) rfl rfl rfl (rfl) (by omega) ?_
      refine ps_icmpt rfl (by show decide _ = true; rw [show ((I, L, g_R s, 306) : pm_H).1 288 0 = nI n from hn]; exact decide_eq_true (nI_le (by omega) (by omega))) ?_
      refine ps_iload rfl rfl ?_
      refine ps_iret rfl rfl ?_
      exact kk _ r0 (by omega)
    | succ d ih =>
      intro c hc r r0 r1
      have nx : ∀ r : Int32, 0 ≤ r.toInt → r.toInt ≤ 99 + 999 * ((c + 1 : Nat) : Int) → pm_W (g_P ys) 242 72 [.ref 275, .int x, .int y, .int r, .int (nI c)] [] (I, L, g_R s, 306) (0, 0) Q := by
        intro r r0 r1
        refine ps_iinc rfl rfl ?_
        refine ps_goto rfl ?_
        rw [show nI c + Int32.ofInt 1 = nI (c + 1) from nI_1 c]
        exact ih (c + 1) (by omega) _ r0 r1
      refine ps_iload rfl rfl ?_
      refine ps_aload rfl rfl ?_
      refine ps_gfr 11 16 rfl rfl rfl rfl rfl (rfl) ?_
      refine pw_c rfl ?_
      refine ps_iald (0) rfl rfl rfl (rfl) (by omega) ?_
      refine ps_icmpf rfl (by show decide _ = false; rw [show ((I, L, g_R s, 306) : pm_H).1 288 0 = nI n from hn]; exact decide_eq_false (nI_ge (by omega) (by omega))) ?_
      refine ps_aload rfl rfl ?_
      refine ps_iload rfl rfl ?_
      refine ps_aload rfl rfl ?_
      refine ps_gfr 11 16 rfl rfl rfl rfl rfl (rfl) ?_
      refine pw_c rfl ?_
      refine pw_c rfl ?_
      refine ps_iload rfl rfl ?_
      refine ps_ar rfl rfl rfl rfl rfl ?_
      refine ps_ar rfl rfl rfl rfl rfl ?_
      refine ps_iald (5 + 3 * c) rfl rfl rfl (by simp only [ni_lit, ni_l0, pk_mul, nI_add, Nat.add_zero]) (by omega) ?_
      refine ps_ar rfl rfl rfl rfl rfl ?_
      refine ps_iload rfl rfl ?_
      refine ps_aload rfl rfl ?_
      refine ps_gfr 11 16 rfl rfl rfl rfl rfl (rfl) ?_
      refine pw_c rfl ?_
      refine pw_c rfl ?_
      refine ps_iload rfl rfl ?_
      refine ps_ar rfl rfl rfl rfl rfl ?_
      refine ps_ar rfl rfl rfl rfl rfl ?_
      refine pw_c rfl ?_
      refine ps_ar rfl rfl rfl rfl rfl ?_
      refine ps_iald (5 + 3 * c + 1) rfl rfl rfl (by simp only [ni_lit, ni_l0, pk_mul, nI_add, Nat.add_zero]) (by omega) ?_
      refine ps_ar rfl rfl rfl rfl rfl ?_
      refine pw_k rfl rfl rfl rfl ⟨Nat.zero_le _, Nat.zero_le _⟩ ?_
      refine M_letsAny hu hp _ _ ?_
      intro q _
      have xb := hB 288 (5 + 3 * c + 2) (.ofNat 0, .ofNat 88, .ofNat 0, .ofNat 999) (by decide) (by show (0 : Int) ≤ _; omega) (by show _ ≤ (88 : Int); omega)
      have x0 : (0 : Int) ≤ (I 288 (5 + 3 * c + 2)).toInt := xb.1
      have x9 : (I 288 (5 + 3 * c + 2)).toInt ≤ 999 := xb.2
      have e := i_add (x := r) (y := I 288 (5 + 3 * c + 2)) (by omega) (by omega)
      refine ps_if rfl (fun hc => ?_) (fun hc => ?_)
      · exact nx _ r0 (by omega)
      · refine ps_iload rfl rfl ?_
        refine ps_aload rfl rfl ?_
        refine ps_gfr 11 16 rfl rfl rfl rfl rfl (rfl) ?_
        refine pw_c rfl ?_
        refine pw_c rfl ?_
        refine ps_iload rfl rfl ?_
        refine ps_ar rfl rfl rfl rfl rfl ?_
        refine ps_ar rfl rfl rfl rfl rfl ?_
        refine pw_c rfl ?_
        refine ps_ar rfl rfl rfl rfl rfl ?_
        refine ps_iald (5 + 3 * c + 2) rfl rfl rfl (by simp only [ni_lit, ni_l0, pk_mul, nI_add, Nat.add_zero]) (by omega) ?_
        refine ps_ar rfl rfl rfl rfl rfl ?_
        refine ps_istore rfl rfl ?_
        exact nx _ (by show 0 ≤ (r + I 288 (5 + 3 * c + 2)).toInt; omega) (by show (r + I 288 (5 + 3 * c + 2)).toInt ≤ _; omega)
  have bb := hB 288 3 (.ofNat 3, .ofNat 3, .ofNat 0, .ofNat 99) (by decide) (by decide) (by decide)
  have b0 : (0 : Int) ≤ (I 288 3).toInt := bb.1
  have b9 : (I 288 3).toInt ≤ 99 := bb.2
  refine ps_aload rfl rfl ?_
  refine ps_gfr 11 16 rfl rfl rfl rfl rfl (rfl) ?_
  refine pw_c rfl ?_
  refine ps_iald (3) rfl rfl rfl (rfl) (by omega) ?_
  refine ps_istore rfl rfl ?_
  refine pw_c rfl ?_
  refine ps_istore rfl rfl ?_
  exact loop n 0 (by omega) _ b0 (by show (I 288 3).toInt ≤ _; omega)
theorem M_laysLost (iv : sx_IV xT xtg xPH (I, L, g_R s, 306)) (hu : I 275 24 = nI k) (hp : mPl I k w v) (kk : ∀ I', lAg I I' → lB I' → Q [] (I', L, g_R s, 306)) : pm_W (g_P ys) 238 0 [.ref 275, .retAddr 0] [] (I, L, g_R s, 306) (0, 0) Q := by
  obtain ⟨hk, hw, hv, hw0, hv0, hwv⟩ := id hp
  obtain ⟨m, hm, hm12⟩ : ∃ m : Nat, I 288 1 = nI m ∧ m ≤ 12 := by
    have b := iv.1 288 1 (.ofNat 1, .ofNat 1, .ofNat 0, .ofNat 12) (by decide) (by decide) (by decide)
    have b1 : (0 : Int) ≤ (I 288 1).toInt := b.1
    have b2 : (I 288 1).toInt ≤ 12 := b.2
    exact ⟨(I 288 1).toInt.toNat, i_nat (by omega), by omega⟩
  have loop2 : ∀ d c, c + d = m → ∀ I', lAg I I' → lB I' → pm_W (g_P ys) 238 24 [.ref 275, .int (nI c)] [] (I', L, g_R s, 306) (0, 0) Q := by
    intro d
    induction d with
    | zero =>
      intro c hc I' ag b
      have hm' : I' 288 1 = nI m := by rw [lAg_o ag (by decide)]; exact hm
      refine ps_iload rfl rfl ?_
      refine ps_aload rfl rfl ?_
      refine ps_gfr 11 16 rfl rfl rfl rfl rfl (rfl) ?_
      refine pw_c rfl ?_
      refine ps_iald (1) rfl rfl rfl (rfl) (by omega) ?_
      refine ps_icmpt rfl (by show decide _ = true; rw [show ((I', L, g_R s, 306) : pm_H).1 288 1 = nI m from hm']; exact decide_eq_true (nI_le (by omega) (by omega))) ?_
      refine ps_vret rfl rfl ?_
      exact kk _ ag b
    | succ d ih =>
      intro c hc I' ag b
      have hm' : I' 288 1 = nI m := by rw [lAg_o ag (by decide)]; exact hm
      have hu' : I' 275 24 = nI k := by rw [lAg_o ag (by decide)]; exact hu
      have hp' := lAg_mPl ag hp
      have hc2 := cxy_lt hw0 hv0 (I' 288 (29 + 3 * c)).toInt (I' 288 (29 + 3 * c + 1)).toInt
      refine ps_iload rfl rfl ?_
      refine ps_aload rfl rfl ?_
      refine ps_gfr 11 16 rfl rfl rfl rfl rfl (rfl) ?_
      refine pw_c rfl ?_
      refine ps_iald (1) rfl rfl rfl (rfl) (by omega) ?_
      refine ps_icmpf rfl (by show decide _ = false; rw [show ((I', L, g_R s, 306) : pm_H).1 288 1 = nI m from hm']; exact decide_eq_false (nI_ge (by omega) (by omega))) ?_
      refine ps_aload rfl rfl ?_
      refine ps_gfr 11 27 rfl rfl rfl rfl rfl (rfl) ?_
      refine ps_aload rfl rfl ?_
      refine ps_aload rfl rfl ?_
      refine ps_gfr 11 16 rfl rfl rfl rfl rfl (rfl) ?_
      refine pw_c rfl ?_
      refine pw_c rfl ?_
      refine ps_iload rfl rfl ?_
      refine ps_ar rfl rfl rfl rfl rfl ?_
      refine ps_ar rfl rfl rfl rfl rfl ?_
      refine ps_iald (29 + 3 * c) rfl rfl rfl (by simp only [ni_lit, ni_l0, pk_mul, nI_add, Nat.add_zero]) (by omega) ?_
      refine ps_aload rfl rfl ?_
      refine ps_gfr 11 16 rfl rfl rfl rfl rfl (rfl) ?_
      refine pw_c rfl ?_
      refine pw_c rfl ?_
      refine ps_iload rfl rfl ?_
      refine ps_ar rfl rfl rfl rfl rfl ?_
      refine ps_ar rfl rfl rfl rfl rfl ?_
      refine pw_c rfl ?_
      refine ps_ar rfl rfl rfl rfl rfl ?_
      refine ps_iald (29 + 3 * c + 1) rfl rfl rfl (by simp only [ni_lit, ni_l0, pk_mul, nI_add, Nat.add_zero]) (by omega) ?_
      refine pw_k rfl rfl rfl rfl ⟨Nat.zero_le _, Nat.zero_le _⟩ ?_
      refine M_cellAt hu' hp' _ _ ?_
      refine pw_c rfl ?_
      refine ps_zast (cxy w v (I' 288 (29 + 3 * c)).toInt (I' 288 (29 + 3 * c + 1)).toInt) rfl rfl rfl (rfl) (by omega) ?_
      refine ps_iinc rfl rfl ?_
      refine ps_goto rfl ?_
      rw [show nI c + Int32.ofInt 1 = nI (c + 1) from nI_1 c]
      exact ih (c + 1) (by omega) _ (lAg_u ag (Or.inl rfl) (by omega)) (lB_l b (by decide) (by decide))
  have loop1 : ∀ d c, c + d = 289 → ∀ I', lAg I I' → lB I' → pm_W (g_P ys) 238 2 [.ref 275, .int (nI c)] [] (I', L, g_R s, 306) (0, 0) Q := by
    intro d
    induction d with
    | zero =>
      intro c hc I' ag b
      have hc : c = 289 := by omega
      subst hc
      refine ps_iload rfl rfl ?_
      refine pw_c rfl ?_
      refine ps_icmpt rfl (by decide) ?_
      refine pw_c rfl ?_
      refine ps_istore rfl rfl ?_
      exact loop2 m 0 (by omega) _ ag b
    | succ d ih =>
      intro c hc I' ag b
      refine ps_iload rfl rfl ?_
      refine pw_c rfl ?_
      refine ps_icmpf rfl (decide_eq_false (nI_ge (b := 289) (by omega) (by omega))) ?_
      refine ps_aload rfl rfl ?_
      refine ps_gfr 11 27 rfl rfl rfl rfl rfl (rfl) ?_
      refine ps_iload rfl rfl ?_
      refine pw_c rfl ?_
      refine ps_zast (c) rfl rfl rfl (rfl) (by omega) ?_
      refine ps_iinc rfl rfl ?_
      refine ps_goto rfl ?_
      rw [show nI c + Int32.ofInt 1 = nI (c + 1) from nI_1 c]
      exact ih (c + 1) (by omega) _ (lAg_u ag (Or.inl rfl) (by omega)) (lB_l b (by decide) (by decide))
  refine pw_c rfl ?_
  refine ps_istore rfl rfl ?_
  exact loop1 289 0 (by omega) _ lAg_refl (lB_0 iv)
theorem M_laysShadowsIV (iv : sx_IV xT xtg xPH (I, L, g_R s, 306)) (hu : I 275 24 = nI k) (hp : mPl I k w v) (kk : ∀ I', lAg I I' → sx_IV xT xtg xPH (I', L, g_R s, 306) → sx_fr xtg xVP lyW (false, false) (I, L, g_R s, 306) (I', L, g_R s, 306) → Q [] (I', L, g_R s, 306)) : pm_W (g_P ys) 237 0 [.ref 275, .retAddr 0, .retAddr 0] [] (I, L, g_R s, 306) (0, 0) Q := by
  obtain ⟨hk, hw, hv, hw0, hv0, hwv⟩ := id hp
  obtain ⟨hwb, hvb⟩ := hp.b
  obtain ⟨n, hn, hn8⟩ := now_bd iv
  obtain ⟨m, hm, hm8⟩ : ∃ m : Nat, I 288 2 = nI m ∧ m ≤ 8 := by
    have b := iv.1 288 2 (.ofNat 2, .ofNat 2, .ofNat 0, .ofNat 8) (by decide) (by decide) (by decide)
    have b1 : (0 : Int) ≤ (I 288 2).toInt := b.1
    have b2 : (I 288 2).toInt ≤ 8 := b.2
    exact ⟨(I 288 2).toInt.toNat, i_nat (by omega), by omega⟩
  have nowB : ∀ {I'}, lAg I I' → ∀ j, j ≤ 88 → 0 ≤ (I' 288 j).toInt ∧ (I' 288 j).toInt ≤ 999 := by
    intro I' ag j hj
    rw [lAg_o ag (by decide)]
    exact iv.1 288 j (.ofNat 0, .ofNat 88, .ofNat 0, .ofNat 999) (by decide) (by show (0 : Int) ≤ _; omega) (by show _ ≤ (88 : Int); omega)
  have sh : ∀ d c, c + d = w * v → ∀ I', lAg I I' → lB I' → pm_W (g_P ys) 237 122 [.ref 275, .int (nI c), .int (nI w)] [] (I', L, g_R s, 306) (0, 0) Q := by
    intro d
    induction d with
    | zero =>
      intro c hc I' ag b
      have hu' : I' 275 24 = nI k := by rw [lAg_o ag (by decide)]; exact hu
      have hp' := lAg_mPl ag hp
      refine ps_iload rfl rfl ?_
      refine ps_aload rfl rfl ?_
      refine pw_k rfl rfl rfl rfl ⟨Nat.zero_le _, Nat.zero_le _⟩ ?_
      refine M_cells0 hu' hk ?_
      refine ps_icmpt rfl (by rw [hp'.2.1, hp'.2.2.1, pk_mul]; exact decide_eq_true (nI_le (by omega) (by omega))) ?_
      refine ps_vret rfl rfl ?_
      obtain ⟨g1, g2⟩ := lAg_iv iv ag b
      exact kk _ ag g1 g2
    | succ d ih =>
      intro c hc I' ag b
      have hu' : I' 275 24 = nI k := by rw [lAg_o ag (by decide)]; exact hu
      have hp' := lAg_mPl ag hp
      have nx : ∀ x, pm_W (g_P ys) 237 154 [.ref 275, .int (nI c), .int (nI w)] [.int x, .int (nI c), .ref 297] (I', L, g_R s, 306) (0, 0) Q := by
        intro x
        refine ps_iast (c) rfl rfl rfl (rfl) (by omega) ?_
        refine ps_iinc rfl rfl ?_
        refine ps_goto rfl ?_
        rw [show nI c + Int32.ofInt 1 = nI (c + 1) from nI_1 c]
        exact ih (c + 1) (by omega) _ (lAg_u ag (Or.inr (Or.inr rfl)) (by omega)) (lB_s b)
      refine ps_iload rfl rfl ?_
      refine ps_aload rfl rfl ?_
      refine pw_k rfl rfl rfl rfl ⟨Nat.zero_le _, Nat.zero_le _⟩ ?_
      refine M_cells0 hu' hk ?_
      refine ps_icmpf rfl (by rw [hp'.2.1, hp'.2.2.1, pk_mul]; exact decide_eq_false (nI_ge (by omega) (by omega))) ?_
      refine ps_aload rfl rfl ?_
      refine ps_gfr 11 29 rfl rfl rfl rfl rfl (rfl) ?_
      refine ps_iload rfl rfl ?_
      refine ps_aload rfl rfl ?_
      refine ps_gfr 11 27 rfl rfl rfl rfl rfl (rfl) ?_
      refine ps_iload rfl rfl ?_
      refine ps_bald (c) rfl rfl (Or.inr rfl) rfl (rfl) (by omega) ?_
      refine ps_if rfl (fun hc => ?_) (fun hc => ?_)
      · refine ps_aload rfl rfl ?_
        refine ps_gfr 11 28 rfl rfl rfl rfl rfl (rfl) ?_
        refine ps_iload rfl rfl ?_
        refine ps_iald (c) rfl rfl rfl (rfl) (by omega) ?_
        exact nx _
      · refine pw_c rfl ?_
        refine ps_goto rfl ?_
        exact nx _
  have st : ∀ d c, c + d = m → ∀ I', lAg I I' → lB I' → (∀ j, j < w * v → (I' 296 j).toInt ≤ 8091 + 999 * (c : Int)) → pm_W (g_P ys) 237 55 [.ref 275, .int (nI c), .int (nI w)] [] (I', L, g_R s, 306) (0, 0) Q := by
    intro d
    induction d with
    | zero =>
      intro c hc I' ag b wb
      have hm' : I' 288 2 = nI m := by rw [lAg_o ag (by decide)]; exact hm
      refine ps_iload rfl rfl ?_
      refine ps_aload rfl rfl ?_
      refine ps_gfr 11 16 rfl rfl rfl rfl rfl (rfl) ?_
      refine pw_c rfl ?_
      refine ps_iald (2) rfl rfl rfl (rfl) (by omega) ?_
      refine ps_icmpt rfl (by show decide _ = true; rw [show ((I', L, g_R s, 306) : pm_H).1 288 2 = nI m from hm']; exact decide_eq_true (nI_le (by omega) (by omega))) ?_
      refine pw_c rfl ?_
      refine ps_istore rfl rfl ?_
      exact sh (w * v) 0 (by omega) _ ag b
    | succ d ih =>
      intro c hc I' ag b wb
      have hm' : I' 288 2 = nI m := by rw [lAg_o ag (by decide)]; exact hm
      have hu' : I' 275 24 = nI k := by rw [lAg_o ag (by decide)]; exact hu
      have hp' := lAg_mPl ag hp
      have hc2 := cxy_lt hw0 hv0 (I' 288 (65 + 3 * c)).toInt (I' 288 (65 + 3 * c + 1)).toInt
      have y0 := nowB ag (65 + 3 * c + 2) (by omega)
      generalize hz : cxy w v (I' 288 (65 + 3 * c)).toInt (I' 288 (65 + 3 * c + 1)).toInt = z at hc2
      have wz := (b z (by omega)).2
      have wz2 := wb z hc2
      have e := i_add (x := I' 296 z) (y := I' 288 (65 + 3 * c + 2)) (by omega) (by omega)
      refine ps_iload rfl rfl ?_
      refine ps_aload rfl rfl ?_
      refine ps_gfr 11 16 rfl rfl rfl rfl rfl (rfl) ?_
      refine pw_c rfl ?_
      refine ps_iald (2) rfl rfl rfl (rfl) (by omega) ?_
      refine ps_icmpf rfl (by show decide _ = false; rw [show ((I', L, g_R s, 306) : pm_H).1 288 2 = nI m from hm']; exact decide_eq_false (nI_ge (by omega) (by omega))) ?_
      refine ps_aload rfl rfl ?_
      refine ps_gfr 11 28 rfl rfl rfl rfl rfl (rfl) ?_
      refine ps_aload rfl rfl ?_
      refine ps_aload rfl rfl ?_
      refine ps_gfr 11 16 rfl rfl rfl rfl rfl (rfl) ?_
      refine pw_c rfl ?_
      refine pw_c rfl ?_
      refine ps_iload rfl rfl ?_
      refine ps_ar rfl rfl rfl rfl rfl ?_
      refine ps_ar rfl rfl rfl rfl rfl ?_
      refine ps_iald (65 + 3 * c) rfl rfl rfl (by simp only [ni_lit, ni_l0, pk_mul, nI_add, Nat.add_zero]) (by omega) ?_
      refine ps_aload rfl rfl ?_
      refine ps_gfr 11 16 rfl rfl rfl rfl rfl (rfl) ?_
      refine pw_c rfl ?_
      refine pw_c rfl ?_
      refine ps_iload rfl rfl ?_
      refine ps_ar rfl rfl rfl rfl rfl ?_
      refine ps_ar rfl rfl rfl rfl rfl ?_
      refine pw_c rfl ?_
      refine ps_ar rfl rfl rfl rfl rfl ?_
      refine ps_iald (65 + 3 * c + 1) rfl rfl rfl (by simp only [ni_lit, ni_l0, pk_mul, nI_add, Nat.add_zero]) (by omega) ?_
      refine pw_k rfl rfl rfl rfl ⟨Nat.zero_le _, Nat.zero_le _⟩ ?_
      refine M_cellAt hu' hp' _ _ ?_
      refine ps_ar rfl rfl rfl rfl rfl ?_
      refine ps_iald (z) rfl rfl rfl (congrArg nI hz) (by omega) ?_
      refine ps_aload rfl rfl ?_
      refine ps_gfr 11 16 rfl rfl rfl rfl rfl (rfl) ?_
      refine pw_c rfl ?_
      refine pw_c rfl ?_
      refine ps_iload rfl rfl ?_
      refine ps_ar rfl rfl rfl rfl rfl ?_
      refine ps_ar rfl rfl rfl rfl rfl ?_
      refine pw_c rfl ?_
      refine ps_ar rfl rfl rfl rfl rfl ?_
      refine ps_iald (65 + 3 * c + 2) rfl rfl rfl (by simp only [ni_lit, ni_l0, pk_mul, nI_add, Nat.add_zero]) (by omega) ?_
      refine ps_ar rfl rfl rfl rfl rfl ?_
      refine ps_iast (z) rfl rfl rfl (congrArg nI hz) (by omega) ?_
      refine ps_iinc rfl rfl ?_
      refine ps_goto rfl ?_
      rw [show nI c + Int32.ofInt 1 = nI (c + 1) from nI_1 c]
      refine ih (c + 1) (by omega) _ (lAg_u ag (Or.inr (Or.inl rfl)) (by omega)) (lB_w b (by show 0 ≤ (I' 296 z + I' 288 (65 + 3 * c + 2)).toInt; omega) (by show (I' 296 z + I' 288 (65 + 3 * c + 2)).toInt ≤ _; omega)) (fun j hj => ?_)
      by_cases ej : j = z
      · subst ej
        rw [show pm_u I' 296 j (I' 296 j + I' 288 (65 + 3 * c + 2)) 296 j = I' 296 j + I' 288 (65 + 3 * c + 2) from pu_s]
        omega
      · rw [show pm_u I' 296 z (I' 296 z + I' 288 (65 + 3 * c + 2)) 296 j = I' 296 j from pu_n ej]
        have := wb j hj
        omega
  have outer : ∀ d j, j + d = v → ∀ u I', lAg I I' → lB I' → (∀ c, c < j * w → (I' 296 c).toInt ≤ 8091) → (j = v → u = .int (nI w)) → pm_W (g_P ys) 237 6 [.ref 275, .int (nI j), u] [] (I', L, g_R s, 306) (0, 0) Q := by
    intro d
    induction d with
    | zero =>
      intro j hj u I' ag b wb hu2
      have hu' : I' 275 24 = nI k := by rw [lAg_o ag (by decide)]; exact hu
      have hp' := lAg_mPl ag hp
      have hj : j = v := by omega
      subst hj
      cases hu2 rfl
      refine ps_iload rfl rfl ?_
      refine ps_aload rfl rfl ?_
      refine pw_k rfl rfl rfl rfl ⟨Nat.zero_le _, Nat.zero_le _⟩ ?_
      refine M_high hu' hk ?_
      refine ps_icmpt rfl (by rw [hp'.2.2.1]; exact decide_eq_true (nI_le (by omega) (by omega))) ?_
      refine pw_c rfl ?_
      refine ps_istore rfl rfl ?_
      exact st m 0 (by omega) _ ag b (fun c hc => by have := wb c (by rw [Nat.mul_comm]; exact hc); omega)
    | succ d ih =>
      intro j hj u I' ag b wb _
      have inner : ∀ e i, i + e = w → ∀ I', lAg I I' → lB I' → (∀ c, c < j * w + i → (I' 296 c).toInt ≤ 8091) → pm_W (g_P ys) 237 16 [.ref 275, .int (nI j), .int (nI i)] [] (I', L, g_R s, 306) (0, 0) Q := by
        intro e
        induction e with
        | zero =>
          intro i hi I' ag b wb
          have hi : i = w := by omega
          subst hi
          have hu' : I' 275 24 = nI k := by rw [lAg_o ag (by decide)]; exact hu
          have hp' := lAg_mPl ag hp
          refine ps_iload rfl rfl ?_
          refine ps_aload rfl rfl ?_
          refine pw_k rfl rfl rfl rfl ⟨Nat.zero_le _, Nat.zero_le _⟩ ?_
          refine M_wide hu' hk ?_
          refine ps_icmpt rfl (by rw [hp'.2.1]; exact decide_eq_true (nI_le (by omega) (by omega))) ?_
          refine ps_iinc rfl rfl ?_
          refine ps_goto rfl ?_
          rw [show nI j + Int32.ofInt 1 = nI (j + 1) from nI_1 j]
          exact ih (j + 1) (by omega) _ _ ag b (fun c hc => wb c (by rw [Nat.add_mul] at hc; omega)) (fun _ => rfl)
        | succ e ih2 =>
          intro i hi I' ag b wb
          have hu' : I' 275 24 = nI k := by rw [lAg_o ag (by decide)]; exact hu
          have hp' := lAg_mPl ag hp
          have hn' : I' 288 0 = nI n := by rw [lAg_o ag (by decide)]; exact hn
          have hc := cxy_lt hw0 hv0 (nI i).toInt (nI j).toInt
          have hcx := cxy_in (w := w) (v := v) (i := i) (j := j) (by omega) (by omega) hp.b
          have hB' : sx_IB xT xtg I' := (lAg_iv iv ag b).1.1
          refine ps_iload rfl rfl ?_
          refine ps_aload rfl rfl ?_
          refine pw_k rfl rfl rfl rfl ⟨Nat.zero_le _, Nat.zero_le _⟩ ?_
          refine M_wide hu' hk ?_
          refine ps_icmpf rfl (by rw [hp'.2.1]; exact decide_eq_false (nI_ge (by omega) (by omega))) ?_
          refine ps_aload rfl rfl ?_
          refine ps_gfr 11 28 rfl rfl rfl rfl rfl (rfl) ?_
          refine ps_aload rfl rfl ?_
          refine ps_iload rfl rfl ?_
          refine ps_iload rfl rfl ?_
          refine pw_k rfl rfl rfl rfl ⟨Nat.zero_le _, Nat.zero_le _⟩ ?_
          refine M_cellAt hu' hp' _ _ ?_
          refine ps_aload rfl rfl ?_
          refine ps_iload rfl rfl ?_
          refine ps_iload rfl rfl ?_
          refine pw_k rfl rfl rfl rfl ⟨Nat.zero_le _, Nat.zero_le _⟩ ?_
          refine M_wholeB hu' hp' hB' hn' hn8 _ _ ?_
          intro r r0 r1
          rw [hcx] at hc
          refine ps_iast (j * w + i) rfl rfl rfl (congrArg nI hcx) (by omega) ?_
          refine ps_iinc rfl rfl ?_
          refine ps_goto rfl ?_
          rw [show nI i + Int32.ofInt 1 = nI (i + 1) from nI_1 i]
          refine ih2 (i + 1) (by omega) _ (lAg_u ag (Or.inr (Or.inl rfl)) (by omega)) (lB_w b r0 (by omega)) (fun c hc2 => ?_)
          by_cases ec : c = j * w + i
          · subst ec
            rw [show pm_u I' 296 (j * w + i) r 296 (j * w + i) = r from pu_s]
            exact r1
          · rw [show pm_u I' 296 (j * w + i) r 296 c = I' 296 c from pu_n ec]
            exact wb c (by omega)
      have hu' : I' 275 24 = nI k := by rw [lAg_o ag (by decide)]; exact hu
      have hp' := lAg_mPl ag hp
      refine ps_iload rfl rfl ?_
      refine ps_aload rfl rfl ?_
      refine pw_k rfl rfl rfl rfl ⟨Nat.zero_le _, Nat.zero_le _⟩ ?_
      refine M_high hu' hk ?_
      refine ps_icmpf rfl (by rw [hp'.2.2.1]; exact decide_eq_false (nI_ge (by omega) (by omega))) ?_
      refine pw_c rfl ?_
      refine ps_istore rfl rfl ?_
      exact inner w 0 (by omega) _ ag b (fun c hc => wb c (by omega))
  refine ps_aload rfl rfl ?_
  refine pw_k rfl rfl rfl rfl ⟨Nat.zero_le _, Nat.zero_le _⟩ ?_
  refine M_laysLost iv hu hp ?_
  intro I' ag b
  refine pw_c rfl ?_
  refine ps_istore rfl rfl ?_
  exact outer v 0 (by omega) _ _ ag b (fun c hc => by rw [Nat.zero_mul] at hc; omega) (fun q => by omega)
end IU
section IV
variable {ys : List Int32} {l : Nat}
theorem k_laysShadows (hl : l = 1 ∨ l = 2 ∨ l = 3) : xk ys (237, [.inl (2, .ofNat 0, .ofNat 0, 50)], [(0, 24, .ofNat 0, .ofNat 5, l)], [(70, .ofNat 0, .ofNat 288), (71, .ofNat 0, .ofNat 288), (72, .ofNat 0, .ofNat 288)], (false, false), [([], [], [], [])]) := by
  intro h vs Q iv va fa kk
  obtain ⟨I, L, s, rfl⟩ := x_form iv
  obtain ⟨_, c1, rfl, ⟨a, rfl, ha, _⟩, va1⟩ := vas_c va
  cases vas_n va1
  cases ref_M ha
  obtain ⟨_, _, q3⟩ := fas1 fa rfl
  obtain ⟨n, w, v, hz, hp⟩ := flag_pl hl q3
  have hp : mPl I n w v := hp
  exact M_laysShadowsIV iv (i_nat hz) hp (fun I' _ g1 g2 => kk _ _ g1 g2 ⟨_, List.mem_cons_self, po_0⟩)
end IV
