/-! BY HAND: writes -/
section HE
variable {I I' : Nat → Nat → Int32}
theorem pu_s {a k : Nat} {x : Int32} : pm_u I a k x a k = x := by
  unfold pm_u
  rw [if_pos rfl, if_pos rfl]
theorem pu_n {a j k : Nat} {x : Int32} (h : ¬ j = k) : pm_u I a k x a j = I a j := by
  unfold pm_u
  rw [if_pos rfl, if_neg h]
theorem pu_o {a b j k : Nat} {x : Int32} (h : ¬ b = a) : pm_u I a k x b j = I b j := by
  unfold pm_u
  rw [if_neg h]
theorem ib_u (hB : sx_IB xT xtg I) {a k : Nat} {x : Int32} {lo hi : Int} (hw : sx_wr (xsb (xtg a)) k k (lo, hi) = true) (h1 : lo ≤ x.toInt) (h2 : x.toInt ≤ hi) : sx_IB xT xtg (pm_u I a k x) := by
  intro c j q hq k1 k2
  unfold pm_u
  split
  · rename_i e
    subst e
    split
    · rename_i e2
      subst e2
      exact sx_wr_ok hw (Int.le_refl _) (Int.le_refl _) h1 h2 q hq k1 k2
    · exact hB c j q hq k1 k2
  · exact hB c j q hq k1 k2
theorem fr_u {W : sx_W} (h : ∀ c j : Nat, ¬ sx_WP W (xtg c) j → I' c j = I c j) {a k : Nat} {x : Int32} (hw : sx_wk W (xtg a) k k = true) : ∀ c j : Nat, ¬ sx_WP W (xtg c) j → pm_u I' a k x c j = I c j := by
  intro c j hn
  unfold pm_u
  split
  · rename_i e
    subst e
    split
    · rename_i e2
      subst e2
      exact absurd (sx_wk_ok hw (Int.le_refl _) (Int.le_refl _)) hn
    · exact h c j hn
  · exact h c j hn
theorem iv_new {L : Nat → Nat → Int64} {s : Nat → Option Nat} (iv : sx_IV xT xtg xPH (I, L, g_R s, 306)) (hB : sx_IB xT xtg I') (hK : xK I') : sx_IV xT xtg xPH (I', L, g_R s, 306) := ⟨hB, iv.2.1, iv.2.2.1, rfl, ⟨s, rfl⟩, hK⟩
theorem xCp_u (h : xCp I) {a k : Nat} {x : Int32} (ha : ¬ xtg a = 36) : xCp (pm_u I a k x) := by
  intro b hb
  have e : ¬ b = a := fun q => ha (by rw [← q]; exact hb)
  rw [pu_o e, pu_o e, pu_o e]
  exact h b hb
end HE
section HF
variable {ys : List Int32} {I : Nat → Nat → Int32} {L : Nat → Nat → Int64} {s : Nat → Option Nat} {Q : List Value → pm_H → Prop} {k w v : Nat}
theorem M_weightAny {u : Int32} (hu : u = nI k) (hp : mPl I k w v) (x y : Int32) (kk : ∀ r, Q [.int r] (I, L, g_R s, 306)) : pm_W (g_P ys) 203 0 [.ref 275, .int u, .int x, .int y] [] (I, L, g_R s, 306) (0, 0) Q := by
  have bx := i_bd x
  have by' := i_bd y
  rw [hu, iI_of x, iI_of y]
  exact M_weightOf hp (by omega) (by omega) (kk _)
theorem M_decodedAt {b : Nat} (hb : pm_sh (g_P ys) (I, L, g_R s, 306) b = some (.inr (0, 289))) (hu : I 275 24 = nI k) (hp : mPl I k w v) (x y : Int32) (kk : ∀ r, Q [.int r] (I, L, g_R s, 306)) : pm_W (g_P ys) 245 0 [.ref 275, .ref b, .int x, .int y, .retAddr 0, .retAddr 0, .retAddr 0] [] (I, L, g_R s, 306) (0, 0) Q := by
  obtain ⟨hk, hw, hv, hw0, hv0, hwv⟩ := id hp
  obtain ⟨hwb, hvb⟩ := hp.b
  have outer : ∀ d j, j + d = v → ∀ r u, pm_W (g_P ys) 245 6 [.ref 275, .ref b, .int x, .int y, .int r, .int (nI j), u] [] (I, L, g_R s, 306) (0, 0) Q := by
    intro d
    induction d with
    | zero =>
      intro j hj r u
      refine ps_iload rfl rfl ?_
      refine ps_aload rfl rfl ?_
      refine pw_k rfl rfl rfl rfl ⟨Nat.zero_le _, Nat.zero_le _⟩ ?_
      refine M_high hu hk ?_
      refine ps_icmpt rfl (by rw [hv]; exact decide_eq_true (nI_le (by omega) (by omega))) ?_
      refine ps_iload rfl rfl ?_
      refine ps_iret rfl rfl ?_
      exact kk _
    | succ d ih =>
      intro j hj r u
      have inner : ∀ e i, i + e = w → ∀ r, pm_W (g_P ys) 245 18 [.ref 275, .ref b, .int x, .int y, .int r, .int (nI j), .int (nI i)] [] (I, L, g_R s, 306) (0, 0) Q := by
        intro e
        induction e with
        | zero =>
          intro i hi r
          refine ps_iload rfl rfl ?_
          refine ps_aload rfl rfl ?_
          refine pw_k rfl rfl rfl rfl ⟨Nat.zero_le _, Nat.zero_le _⟩ ?_
          refine M_wide hu hk ?_
          refine ps_icmpt rfl (by rw [hw]; exact decide_eq_true (nI_le (by omega) (by omega))) ?_
          refine ps_iinc rfl rfl ?_
          refine ps_goto rfl ?_
          rw [show nI j + Int32.ofInt 1 = nI (j + 1) from nI_1 j]
          exact ih (j + 1) (by omega) _ _
        | succ e ih2 =>
          intro i hi r
          have h1 : w * (j + 1) ≤ w * v := Nat.mul_le_mul_left w (by omega)
          rw [Nat.mul_succ] at h1
          refine ps_iload rfl rfl ?_
          refine ps_aload rfl rfl ?_
          refine pw_k rfl rfl rfl rfl ⟨Nat.zero_le _, Nat.zero_le _⟩ ?_
          refine M_wide hu hk ?_
          refine ps_icmpf rfl (by rw [hw]; exact decide_eq_false (nI_ge (by omega) (by omega))) ?_
          refine ps_iload rfl rfl ?_
          refine ps_aload rfl rfl ?_
          refine ps_aload rfl rfl ?_
          refine pw_k rfl rfl rfl rfl ⟨Nat.zero_le _, Nat.zero_le _⟩ ?_
          refine M_wide hu hk ?_
          refine ps_iload rfl rfl ?_
          rw [hw]
          refine ps_ar rfl rfl rfl rfl rfl ?_
          refine ps_iload rfl rfl ?_
          refine ps_ar rfl rfl rfl rfl rfl ?_
          refine ps_iald (w * j + i) rfl hb rfl (by rw [pk_mul, nI_add]) (by omega) ?_
          refine ps_aload rfl rfl ?_
          refine ps_aload rfl rfl ?_
          refine ps_gfi 11 24 rfl rfl rfl rfl rfl ?_
          refine ps_iload rfl rfl ?_
          refine ps_iload rfl rfl ?_
          refine ps_ar rfl rfl rfl rfl rfl ?_
          refine ps_aload rfl rfl ?_
          refine ps_gfi 11 25 rfl rfl rfl rfl rfl ?_
          refine ps_ar rfl rfl rfl rfl rfl ?_
          refine ps_iload rfl rfl ?_
          refine ps_iload rfl rfl ?_
          refine ps_ar rfl rfl rfl rfl rfl ?_
          refine pw_k rfl rfl rfl rfl ⟨Nat.zero_le _, Nat.zero_le _⟩ ?_
          refine M_weightAny hu hp _ _ ?_
          intro r2
          refine ps_ar rfl rfl rfl rfl rfl ?_
          refine ps_ar rfl rfl rfl rfl rfl ?_
          refine ps_istore rfl rfl ?_
          refine ps_iinc rfl rfl ?_
          refine ps_goto rfl ?_
          rw [show nI i + Int32.ofInt 1 = nI (i + 1) from nI_1 i]
          exact ih2 (i + 1) (by omega) _
      refine ps_iload rfl rfl ?_
      refine ps_aload rfl rfl ?_
      refine pw_k rfl rfl rfl rfl ⟨Nat.zero_le _, Nat.zero_le _⟩ ?_
      refine M_high hu hk ?_
      refine ps_icmpf rfl (by rw [hv]; exact decide_eq_false (nI_ge (by omega) (by omega))) ?_
      refine pw_c rfl ?_
      refine ps_istore rfl rfl ?_
      exact inner w 0 (by omega) _
  refine pw_c rfl ?_
  refine ps_istore rfl rfl ?_
  refine pw_c rfl ?_
  refine ps_istore rfl rfl ?_
  exact outer v 0 (by omega) _ _
theorem suI_bd {f : Nat → Int32} : ∀ {n : Nat}, (∀ c, c < n → 0 ≤ (f c).toInt ∧ (f c).toInt ≤ 1) → n ≤ 1000000 → 0 ≤ (suI f n).toInt ∧ (suI f n).toInt ≤ n
  | 0, _, _ => by
    rw [suI]
    exact ⟨by decide, by decide⟩
  | n + 1, h, hn => by
    have h1 := suI_bd (f := f) (n := n) (fun c hc => h c (by omega)) (by omega)
    have h2 := h n (by omega)
    rw [suI, iI_of (suI f n), iI_of (f n), iI_add, iI_toInt (by omega) (by omega)]
    omega
end HF
section HG
variable {ys : List Int32} {l : Nat}
theorem k_decodedAt (hl : l = 1 ∨ l = 2 ∨ l = 3) {t : Nat} (ht : xsh t = some (.inr (0, 289))) : xk ys (245, [.inl (2, .ofNat 0, .ofNat 0, 50), .inl (2, .ofNat 0, .ofNat 0, t), .inl (0, .negSucc 2147483647, .ofNat 2147483647, 0), .inl (0, .negSucc 2147483647, .ofNat 2147483647, 0)], [(0, 24, .ofNat 0, .ofNat 5, l)], [], (false, false), [([.inl (0, .negSucc 2147483647, .ofNat 2147483647, 0)], [], [], [])]) := by
  intro h vs Q iv va fa kk
  obtain ⟨I, L, s, rfl⟩ := x_form iv
  obtain ⟨_, c1, rfl, ⟨a, rfl, ha, _⟩, va1⟩ := vas_c va
  obtain ⟨_, c2, rfl, ⟨b, rfl, hb, _⟩, va2⟩ := vas_c va1
  obtain ⟨_, c3, rfl, ⟨y, rfl, _⟩, va3⟩ := vas_c va2
  obtain ⟨_, c4, rfl, ⟨z, rfl, _⟩, va4⟩ := vas_c va3
  cases vas_n va4
  cases ref_M ha
  obtain ⟨_, _, q3⟩ := fas1 fa rfl
  obtain ⟨n, w, v, hz, hp⟩ := flag_pl hl q3
  have hp : mPl I n w v := hp
  have hu : I 275 24 = nI n := i_nat hz
  have hb' : pm_sh (g_P ys) (I, L, g_R s, 306) b = some (.inr (0, 289)) := (xC ys).1 _ _ _ iv.2.2.2 (by show xsh (xtg b) = _; rw [hb]; exact ht)
  exact M_decodedAt hb' hu hp y z (fun r => kk _ _ iv (sx_fr_refl _ _ _ _ _) ⟨_, List.mem_cons_self, po_f⟩)
theorem holes_bd {I : Nat → Nat → Int32} {L : Nat → Nat → Int64} {s : Nat → Option Nat} (iv : sx_IV xT xtg xPH (I, L, g_R s, 306)) {n w v : Nat} (hp : mPl I n w v) : 0 ≤ (suI (fun c => I 280 (289 * n + c)) (w * v)).toInt ∧ (suI (fun c => I 280 (289 * n + c)) (w * v)).toInt ≤ 289 := by
  have hk := hp.1
  have hwv := hp.2.2.2.2.2
  have h1 := suI_bd (f := fun c => I 280 (289 * n + c)) (n := w * v) (fun c hc => iv.1 280 (289 * n + c) (.ofNat 0, .ofNat 1733, .ofNat 0, .ofNat 1) (by decide) (by show (0 : Int) ≤ _; omega) (by show _ ≤ (1733 : Int); omega)) (by omega)
  omega
theorem k_holesOf (hl : l = 2 ∨ l = 3) : xk ys (204, [.inl (2, .ofNat 0, .ofNat 0, 50), .inl (0, .ofNat 0, .ofNat 5, l)], [], [], (false, false), [([.inl (0, .ofNat 1, .ofNat 289, 0)], [], [], [])]) := by
  intro h vs Q iv va fa kk
  obtain ⟨I, L, s, rfl⟩ := x_form iv
  obtain ⟨_, c1, rfl, ⟨a, rfl, ha, _⟩, va1⟩ := vas_c va
  obtain ⟨_, c2, rfl, ⟨x, rfl, h1, h2, h3⟩, va2⟩ := vas_c va1
  cases vas_n va2
  cases ref_M ha
  have key : ∃ n w v : Nat, x.toInt = (n : Int) ∧ mPl I n w v ∧ ¬ suI (fun c => I 280 (289 * n + c)) (w * v) = 0 := by
    rcases hl with rfl | rfl
    · obtain ⟨n, w, v, g1, g2, g3, _⟩ := h3.resolve_left (by decide)
      exact ⟨n, w, v, g1, g2, g3⟩
    · obtain ⟨n, w, v, g1, g2, g3⟩ := h3.resolve_left (by decide)
      exact ⟨n, w, v, g1, g2, g3⟩
  obtain ⟨n, w, v, hz, hp, hne⟩ := key
  cases i_nat hz
  have hb := holes_bd iv hp
  have h0 : ¬ (suI (fun c => I 280 (289 * n + c)) (w * v)).toInt = 0 := fun q => hne ((i_eq _ _).mpr (by rw [q]; rfl))
  exact M_holesOf hp.1 hp.2.1 hp.2.2.1 hp.2.2.2.2.2 (kk _ _ iv (sx_fr_refl _ _ _ _ _) ⟨_, List.mem_cons_self, po_i (by show (1 : Int) ≤ _; omega) (by show _ ≤ (289 : Int); omega)⟩)
theorem k_holesOf1 : xk ys (204, [.inl (2, .ofNat 0, .ofNat 0, 50), .inl (0, .ofNat 0, .ofNat 5, 1)], [], [], (false, false), [([.inl (0, .ofNat 0, .ofNat 0, 0)], [], [], []), ([.inl (0, .ofNat 1, .ofNat 289, 0)], [], [(1, .ofNat 0, .ofNat 5, 3)], [])]) := by
  intro h vs Q iv va fa kk
  obtain ⟨I, L, s, rfl⟩ := x_form iv
  obtain ⟨_, c1, rfl, ⟨a, rfl, ha, _⟩, va1⟩ := vas_c va
  obtain ⟨_, c2, rfl, ⟨x, rfl, h1, h2, h3⟩, va2⟩ := vas_c va1
  cases vas_n va2
  cases ref_M ha
  obtain ⟨n, w, v, hz, hp⟩ := h3.resolve_left (by decide)
  have hp : mPl I n w v := hp
  cases i_nat hz
  have hb := holes_bd iv hp
  refine M_holesOf hp.1 hp.2.1 hp.2.2.1 hp.2.2.2.2.2 ?_
  by_cases hne : suI (fun c => I 280 (289 * n + c)) (w * v) = 0
  · rw [hne]
    exact kk _ _ iv (sx_fr_refl _ _ _ _ _) ⟨_, List.mem_cons_self, po_i (Int.le_refl _) (Int.le_refl _)⟩
  · have h0 : ¬ (suI (fun c => I 280 (289 * n + c)) (w * v)).toInt = 0 := fun q => hne ((i_eq _ _).mpr (by rw [q]; rfl))
    refine kk _ _ iv (sx_fr_refl _ _ _ _ _) ⟨_, List.mem_cons_of_mem _ List.mem_cons_self, ⟨⟨_, rfl, by show (1 : Int) ≤ _; omega, by show _ ≤ (289 : Int); omega, Or.inl rfl⟩, trivial⟩, fun _ q => (by cases q), fun q hq => ?_, fun _ q => (by cases q)⟩
    rcases List.mem_cons.mp hq with rfl | hq
    · exact ⟨nI n, rfl, h1, h2, Or.inr ⟨n, w, v, hz, hp, hne⟩⟩
    · cases hq
theorem k_isPrime : xk ys (212, [.inl (0, .negSucc 2147483647, .ofNat 2147483647, 0)], [], [], (false, false), [([.inl (0, .ofNat 0, .ofNat 0, 0)], [], [], []), ([.inl (0, .ofNat 1, .ofNat 1, 0)], [], [(0, .ofNat 3, .ofNat 47, 0)], [])]) := by
  intro h vs Q iv va fa kk
  obtain ⟨_, c2, rfl, ⟨x, rfl, _⟩, va2⟩ := vas_c va
  cases vas_n va2
  by_cases hx : 3 ≤ x.toInt ∧ x.toInt ≤ 47
  · have hz : x.toInt = (x.toInt.toNat : Int) := by omega
    have hx' : x = nI x.toInt.toNat := i_nat hz
    show pm_W (g_P ys) 212 0 [.int x, .retAddr 0] [] h (0, 0) Q
    rw [hx']
    refine M_isPrime (by omega) (by omega) ?_
    cases prB x.toInt.toNat with
    | false => exact kk _ _ iv (sx_fr_refl _ _ _ _ _) ⟨_, List.mem_cons_self, po_i (Int.le_refl _) (Int.le_refl _)⟩
    | true =>
      refine kk _ _ iv (sx_fr_refl _ _ _ _ _) ⟨_, List.mem_cons_of_mem _ List.mem_cons_self, ⟨⟨_, rfl, Int.le_refl _, Int.le_refl _, Or.inl rfl⟩, trivial⟩, fun _ q => (by cases q), fun q hq => ?_, fun _ q => (by cases q)⟩
      rcases List.mem_cons.mp hq with rfl | hq
      · exact ⟨x, rfl, hx.1, hx.2, Or.inl rfl⟩
      · cases hq
  · have hin : (decide ((3 : Int64) ≤ x.toInt64) && decide (x.toInt64 ≤ (47 : Int64))) = false := by
      cases d : (decide ((3 : Int64) ≤ x.toInt64) && decide (x.toInt64 ≤ (47 : Int64))) with
      | false => rfl
      | true =>
        rw [Bool.and_eq_true, decide_eq_true_iff, decide_eq_true_iff, Int64.le_iff_toInt_le, Int64.le_iff_toInt_le, Int32.toInt_toInt64] at d
        exact absurd ⟨d.1, d.2⟩ hx
    show pm_W (g_P ys) 212 0 [.int x, .retAddr 0] [] h (0, 0) Q
    refine ps_iload rfl rfl ?_
    refine ps_ar rfl rfl rfl rfl rfl ?_
    refine pw_c rfl ?_
    refine pw_c rfl ?_
    refine pw_k rfl rfl rfl rfl ⟨Nat.zero_le _, Nat.zero_le _⟩ ?_
    refine M_isIn ?_
    rw [hin]
    refine ps_iff rfl (rfl) ?_
    refine pw_c rfl ?_
    refine ps_zret rfl rfl (Or.inl rfl) ?_
    exact kk _ _ iv (sx_fr_refl _ _ _ _ _) ⟨_, List.mem_cons_self, po_i (Int.le_refl _) (Int.le_refl _)⟩
end HG
