/-! BY HAND: the model's coarse, best -/
section JA
theorem nI_sub {a b : Nat} (h : b ≤ a) : nI a - nI b = nI (a - b) := by
  rw [← iI_nat a, ← iI_nat b, iI_sub, ← iI_nat (a - b)]
  congr 1
  omega
theorem nI_inj {a b : Nat} (ha : a < 2 ^ 31) (hb : b < 2 ^ 31) (h : nI a = nI b) : a = b := by
  have := congrArg Int32.toInt h
  rw [nI_toInt ha, nI_toInt hb] at this
  omega
end JA
section JB
variable {ys : List Int32}
abbrev coW : sx_W := [(50, .ofNat 0, .ofNat 1), (50, .ofNat 24, .ofNat 26), (70, .ofNat 0, .ofNat 288), (71, .ofNat 0, .ofNat 288), (72, .ofNat 0, .ofNat 288)]
theorem k_coarse : xk ys kh_264_0 := by
  intro h vs Q iv va fa kk
  obtain ⟨I0, L0, s0, rfl⟩ := x_form iv
  obtain ⟨_, c1, rfl, ⟨a, rfl, ha, _⟩, va1⟩ := vas_c va
  obtain ⟨_, c2, rfl, ⟨x1, rfl, _⟩, va2⟩ := vas_c va1
  obtain ⟨_, c3, rfl, ⟨x2, rfl, _⟩, va3⟩ := vas_c va2
  cases vas_n va3
  cases ref_M ha
  have fin : ∀ (r : Int32) h', sx_IV xT xtg xPH h' → sx_fr xtg xVP coW (false, false) (I0, L0, g_R s0, 306) h' → Q [.int r] h' := fun r h' iv' fr' => kk _ _ iv' (fr_wk (by decide) fr') ⟨_, List.mem_cons_self, po_f⟩
  have no : ∀ y : Int32, 0 ≤ y.toInt → y.toInt ≤ 9 → ¬ y = 0 → pm_W (g_P ys) 264 26 [.ref 275, .int x1, .int x2, .retAddr 0, .retAddr 0, .retAddr 0] [.int y, .ref 275] (I0, L0, g_R s0, 306) (0, 0) Q := by
    intro y h1 h2 h3
    obtain ⟨g1, g2⟩ := is_iv iv h1 h2
    refine pw_k rfl rfl rfl rfl ⟨Nat.zero_le _, Nat.zero_le _⟩ ?_
    refine M_is ?_
    rw [decide_eq_false h3]
    refine ps_iff rfl (by decide) ?_
    refine pw_c rfl ?_
    refine ps_iret rfl rfl ?_
    exact fin _ _ g1 (fr_wk (by decide) g2)
  refine ps_aload rfl rfl ?_
  refine ps_iload rfl rfl ?_
  refine pw_c rfl ?_
  refine ps_icmp rfl (fun h1 => ?_) (fun h1 => ?_)
  · refine pw_c rfl ?_
    refine ps_goto rfl ?_
    exact no 1 (by decide) (by decide) (by decide)
  · have h1 : ¬ x1 < 2 := of_decide_eq_false h1
    have m2 : 2 ≤ x1.toInt := by
      have q : ¬ x1.toInt < (2 : Int32).toInt := fun q => h1 ((i_lt _ _).mpr q)
      have q' : ¬ x1.toInt < 2 := q
      omega
    refine ps_iload rfl rfl ?_
    refine ps_if rfl (fun h2 => ?_) (fun h2 => ?_)
    · have h2 : (0 : Int32) ≤ x2 := of_decide_eq_true h2
      have k0 : 0 ≤ x2.toInt := (i_le _ _).mp h2
      refine ps_aload rfl rfl ?_
      refine ps_gfi 11 14 rfl rfl rfl rfl rfl ?_
      refine ps_if rfl (fun h3 => ?_) (fun h3 => ?_)
      · have h3 : ¬ I0 275 14 = 0 := of_decide_eq_true h3
        obtain ⟨g1, g2⟩ := is_iv (a := 0) iv (by decide) (by decide)
        refine pw_c rfl ?_
        refine pw_k rfl rfl rfl rfl ⟨Nat.zero_le _, Nat.zero_le _⟩ ?_
        refine M_is ?_
        refine ps_ift rfl (by decide) ?_
        show pm_W (g_P ys) 264 34 _ _ (isI I0 0, L0, g_R s0, 306) (0, 0) Q
        have pb := iv.1 275 14 (.ofNat 14, .ofNat 14, .ofNat 0, .ofNat 6) (by decide) (by decide) (by decide)
        have pb1 : (0 : Int) ≤ (I0 275 14).toInt := pb.1
        have pb2 : (I0 275 14).toInt ≤ 6 := pb.2
        have pb3 : ¬ (I0 275 14).toInt = 0 := fun q => h3 ((i_eq _ _).mpr q)
        have pe : (isI I0 0 275 14) = I0 275 14 := rfl
        refine sg_by (sg_co0_t ys) sg_co0_b g1 (lc := [.ref 275, .int x1, .int x2, .retAddr 0, .retAddr 0, .retAddr 0]) (sc := []) (gc := []) ⟨va_M, va_f, va_f, trivial, trivial, trivial, trivial⟩ trivial trivial (fas_c (by show (1 : Int) ≤ (isI I0 0 275 14).toInt; rw [pe]; omega) (by show (isI I0 0 275 14).toInt ≤ (6 : Int); rw [pe]; omega) fas_n) (fun v h' iv' fr' q => ?_) (fun st hst lc' sc' h' iv' fr' ps => ?_)
        · obtain ⟨o, ho, po⟩ := q
          cases ho
        · rcases List.mem_cons.mp hst with rfl | hst
          · obtain ⟨p1, p2, p3, _⟩ := ps
            obtain ⟨w0, l1, rfl, m0, p1a⟩ := mxs_c p1
            obtain ⟨w1, l2, rfl, m1, p1b⟩ := mxs_c p1a
            obtain ⟨w2, l3, rfl, m2', p1c⟩ := mxs_c p1b
            obtain ⟨w3, l4, rfl, _, p1d⟩ := mxs_c p1c
            obtain ⟨w4, l5, rfl, _, p1e⟩ := mxs_c p1d
            obtain ⟨w5, l6, rfl, _, p1f⟩ := mxs_c p1e
            cases mxs_n p1f
            cases mxs_n p2
            cases mx_0 m0
            cases mx_0 m1
            cases mx_0 m2'
            obtain ⟨J, L, s, rfl⟩ := x_form iv'
            have fr1 := sx_fr_trans (fr_wk (W2 := coW) (by decide) g2) (fr_wk (W2 := coW) (by decide) fr')
            obtain ⟨_, _, fl⟩ := f275 p3 (f := (0, 24, .ofNat 0, .ofNat 5, 1)) (by simp) rfl
            obtain ⟨k, w, v, hz, hp⟩ := flag_pl (Or.inl rfl) fl
            have hp : mPl J k w v := hp
            have hu : J 275 24 = nI k := i_nat hz
            obtain ⟨hk, hw, hv, hw0, hv0, hwv⟩ := id hp
            obtain ⟨hwb, hvb⟩ := hp.b
            obtain ⟨m, hm⟩ : ∃ m : Nat, x1.toInt = (m : Int) := ⟨x1.toInt.toNat, by omega⟩
            obtain ⟨c, hc⟩ : ∃ c : Nat, x2.toInt = (c : Int) := ⟨x2.toInt.toNat, by omega⟩
            have bm := i_bd x1
            have bc := i_bd x2
            cases i_nat hm
            cases i_nat hc
            have m1 : ¬ nI m = 0 := nI_ne0 (by omega) (by omega)
            have rf : pm_W (g_P ys) 264 63 [.ref 275, .int (nI m), .int (nI c), w3, w4, w5] [] (J, L, g_R s, 306) (0, 0) Q := by
              refine sg_by (sg_co5_t ys) sg_co5_b iv' (lc := [.ref 275, .int (nI m), .int (nI c), w3, w4, w5]) (sc := []) (gc := []) ⟨va_M, va_f, va_f, trivial, trivial, trivial, trivial⟩ trivial trivial fas_n (fun v h' iv9 fr9 q => ?_) (fun st hst => by cases hst)
              obtain ⟨o, ho, po⟩ := q
              rcases List.mem_cons.mp ho with rfl | ho
              · obtain ⟨w0, l1, rfl, m0, ps1⟩ := mxs_c po.1
                cases mxs_n ps1
                obtain ⟨x, rfl, _⟩ := m0
                exact fin _ _ iv9 (sx_fr_trans fr1 (fr_wk (by decide) fr9))
              · cases ho
            refine ps_aload rfl rfl ?_
            refine pw_k rfl rfl rfl rfl ⟨Nat.zero_le _, Nat.zero_le _⟩ ?_
            refine M_wide hu hk ?_
            refine ps_iload rfl rfl ?_
            rw [hw]
            refine ps_rem rfl (m1) ?_
            rw [nI_rem (by omega) (by omega) (by omega)]
            refine ps_if rfl (fun h4 => ?_) (fun h4 => ?_)
            · exact rf
            · have h4 : nI (w % m) = 0 := by simpa [pm_cmp] using h4
              have wm : w % m = 0 := nI_inj (b := 0) (by have := Nat.mod_le w m; omega) (by omega) h4
              have mw : m ≤ w := Nat.le_of_dvd hw0 (Nat.dvd_of_mod_eq_zero wm)
              have ew : w = w / m * m := by
                have := Nat.div_add_mod w m
                rw [Nat.mul_comm] at this
                omega
              generalize he : w / m = e at ew
              have e0 : 0 < e := by
                rcases Nat.eq_zero_or_pos e with q | q
                · rw [q, Nat.zero_mul] at ew
                  omega
                · exact q
              refine ps_iload rfl rfl ?_
              refine ps_aload rfl rfl ?_
              refine pw_k rfl rfl rfl rfl ⟨Nat.zero_le _, Nat.zero_le _⟩ ?_
              refine M_cells0 hu hk ?_
              rw [hw, hv, pk_mul]
              refine ps_iload rfl rfl ?_
              refine ps_div rfl (m1) ?_
              rw [nI_div (by omega) (by omega)]
              refine ps_icmp rfl (fun h5 => ?_) (fun h5 => ?_)
              · have h5 : nI c < nI (w * v / m) := of_decide_eq_true h5
                have h5 : c < w * v / m := (nI_ltI (by omega) (by have := Nat.div_le_self (w * v) m; omega)).mp h5
                have cm : (c + 1) * m ≤ w * v := Nat.le_trans (Nat.mul_le_mul_right m h5) (Nat.div_mul_le_self _ _)
                rw [Nat.add_mul, Nat.one_mul] at cm
                refine ps_aload rfl rfl ?_
                refine pw_k rfl rfl rfl rfl ⟨Nat.zero_le _, Nat.zero_le _⟩ ?_
                refine M_laysShadowsIV iv' hu hp ?_
                intro I2 ag g3 g4
                have hp2 := lAg_mPl ag hp
                have hu2 : I2 275 24 = nI k := by rw [lAg_o ag (by decide)]; exact hu
                have fr2 := sx_fr_trans fr1 (fr_wk (W2 := coW) (by decide) g4)
                have loop : ∀ d x, x + d = m → ∀ r, pm_W (g_P ys) 264 86 [.ref 275, .int (nI m), .int (nI c), .int (nI e), .int r, .int (nI x)] [] (I2, L, g_R s, 306) (0, 0) Q := by
                  intro d
                  induction d with
                  | zero =>
                    intro x hx r
                    refine ps_iload rfl rfl ?_
                    refine ps_iload rfl rfl ?_
                    refine ps_icmpt rfl (decide_eq_true (nI_le (by omega) (by omega))) ?_
                    refine ps_iload rfl rfl ?_
                    refine ps_iret rfl rfl ?_
                    exact fin _ _ g3 fr2
                  | succ d ih =>
                    intro x hx r
                    have ne : ¬ nI e = 0 := nI_ne0 e0 (by have := Nat.div_le_self w m; omega)
                    have eb : e ≤ 289 := by have := Nat.div_le_self w m; omega
                    have ix : w * (c / e) + m * (c % e) + x = m * c + x := by
                      have q : w * (c / e) = m * (e * (c / e)) := by rw [← Nat.mul_assoc, Nat.mul_comm m e, ← ew]
                      rw [q, ← Nat.mul_add, Nat.div_add_mod]
                    have cm' : m * c + m ≤ w * v := by rw [Nat.mul_comm m c]; exact cm
                    refine ps_iload rfl rfl ?_
                    refine ps_iload rfl rfl ?_
                    refine ps_icmpf rfl (decide_eq_false (nI_ge (by omega) (by omega))) ?_
                    refine ps_iload rfl rfl ?_
                    refine ps_aload rfl rfl ?_
                    refine ps_gfr 11 29 rfl rfl rfl rfl rfl (rfl) ?_
                    refine ps_aload rfl rfl ?_
                    refine pw_k rfl rfl rfl rfl ⟨Nat.zero_le _, Nat.zero_le _⟩ ?_
                    refine M_wide hu2 hk ?_
                    rw [hp2.2.1]
                    refine ps_iload rfl rfl ?_
                    refine ps_iload rfl rfl ?_
                    refine ps_div rfl (ne) ?_
                    rw [nI_div (by omega) (by omega)]
                    refine ps_ar rfl rfl rfl rfl rfl ?_
                    refine ps_iload rfl rfl ?_
                    refine ps_iload rfl rfl ?_
                    refine ps_iload rfl rfl ?_
                    refine ps_rem rfl (ne) ?_
                    rw [nI_rem (by omega) (by omega) (by omega)]
                    refine ps_ar rfl rfl rfl rfl rfl ?_
                    refine ps_ar rfl rfl rfl rfl rfl ?_
                    refine ps_iload rfl rfl ?_
                    refine ps_ar rfl rfl rfl rfl rfl ?_
                    refine ps_iald (m * c + x) rfl rfl rfl (by rw [pk_mul, pk_mul, nI_add, nI_add, ix]) (by omega) ?_
                    refine ps_ar rfl rfl rfl rfl rfl ?_
                    refine ps_istore rfl rfl ?_
                    refine ps_iinc rfl rfl ?_
                    refine ps_goto rfl ?_
                    rw [show nI x + Int32.ofInt 1 = nI (x + 1) from nI_1 x]
                    exact ih (x + 1) (by omega) _
                refine ps_aload rfl rfl ?_
                refine pw_k rfl rfl rfl rfl ⟨Nat.zero_le _, Nat.zero_le _⟩ ?_
                refine M_wide hu2 hk ?_
                rw [hp2.2.1]
                refine ps_iload rfl rfl ?_
                refine ps_div rfl (m1) ?_
                rw [nI_div (by omega) (by omega), he]
                refine ps_istore rfl rfl ?_
                refine pw_c rfl ?_
                refine ps_istore rfl rfl ?_
                refine pw_c rfl ?_
                refine ps_istore rfl rfl ?_
                exact loop m 0 (by omega) _
              · exact rf
          · cases hst
      · refine pw_c rfl ?_
        refine ps_goto rfl ?_
        exact no 2 (by decide) (by decide) (by decide)
    · refine pw_c rfl ?_
      refine ps_goto rfl ?_
      exact no 1 (by decide) (by decide) (by decide)
abbrev beW : sx_W := [(50, .ofNat 0, .ofNat 1), (50, .ofNat 24, .ofNat 26), (69, .ofNat 0, .ofNat 5), (66, .ofNat 0, .ofNat 5), (67, .ofNat 0, .ofNat 5), (68, .ofNat 0, .ofNat 5), (70, .ofNat 0, .ofNat 288), (71, .ofNat 0, .ofNat 288), (72, .ofNat 0, .ofNat 288), (73, .ofNat 0, .ofNat 288)]
theorem k_best : xk ys kh_274_0 := by
  intro h vs Q iv va fa kk
  obtain ⟨_, c1, rfl, ⟨a, rfl, ha, _⟩, va1⟩ := vas_c va
  obtain ⟨_, c2, rfl, ⟨x1, rfl, _⟩, va2⟩ := vas_c va1
  cases vas_n va2
  cases ref_M ha
  have fin : ∀ (r : Int32) h', sx_IV xT xtg xPH h' → sx_fr xtg xVP beW (false, false) h h' → Q [.int r] h' := fun r h' iv' fr' => kk _ _ iv' (fr_wk (by decide) fr') ⟨_, List.mem_cons_self, po_f⟩
  obtain ⟨P, hP6, hP⟩ := g_bd iv (a := 275) (k := 14) (b := 6) (q := (.ofNat 14, .ofNat 14, .ofNat 0, .ofNat 6)) (by decide) (by decide) (by decide) rfl rfl
  have loop : ∀ d c, c + d = P → ∀ (b l : Int32) u h', sx_IV xT xtg xPH h' → sx_fr xtg xVP beW (false, false) h h' → pm_W (g_P ys) 274 31 [.ref 275, .int x1, .int b, .int l, .int (nI c), u] [] h' (0, 0) Q := by
    intro d
    induction d with
    | zero =>
      intro c hc b l u h' iv' fr'
      obtain ⟨J, L, s, rfl⟩ := x_form iv'
      have hPJ : J 275 14 = nI P := (fr'.1 275 14 (by unfold sx_WP; decide)).trans hP
      refine ps_iload rfl rfl ?_
      refine ps_aload rfl rfl ?_
      refine ps_gfi 11 14 rfl rfl rfl rfl rfl ?_
      rw [show ((J, L, g_R s, 306) : pm_H).1 275 14 = nI P from hPJ]
      refine ps_icmpt rfl (decide_eq_true (nI_le (by omega) (by omega))) ?_
      refine sg_by (sg_be2_t ys) sg_be2_b iv' (lc := [.ref 275, .int x1, .int b, .int l, .int (nI c), u]) (sc := []) (gc := []) ⟨va_M, va_f, va_f, va_f, trivial, trivial, trivial⟩ trivial trivial fas_n (fun v h9 iv9 fr9 q => ?_) (fun st hst => by cases hst)
      obtain ⟨o, ho, po⟩ := q
      rcases List.mem_cons.mp ho with rfl | ho
      · obtain ⟨w0, l1, rfl, m0, ps1⟩ := mxs_c po.1
        cases mxs_n ps1
        obtain ⟨x, rfl, _⟩ := m0
        exact fin _ _ iv9 (sx_fr_trans fr' (fr_wk (by decide) fr9))
      · cases ho
    | succ d ih =>
      intro c hc b l u h' iv' fr'
      obtain ⟨J, L, s, rfl⟩ := x_form iv'
      have hPJ : J 275 14 = nI P := (fr'.1 275 14 (by unfold sx_WP; decide)).trans hP
      obtain ⟨⟨w, v, hp⟩, _⟩ := iv'.2.2.2.2.2.2.2.1 c (by show ((c : Nat) : Int) < (J 275 14).toInt; rw [hPJ, nI_toInt (by omega)]; omega)
      have tc := nI_toInt (n := c) (by omega)
      refine ps_iload rfl rfl ?_
      refine ps_aload rfl rfl ?_
      refine ps_gfi 11 14 rfl rfl rfl rfl rfl ?_
      rw [show ((J, L, g_R s, 306) : pm_H).1 275 14 = nI P from hPJ]
      refine ps_icmpf rfl (decide_eq_false (nI_ge (by omega) (by omega))) ?_
      refine sg_by (sg_be1_t ys k_canRestore k_errorNow (k_laysShadows (Or.inl rfl))) sg_be1_b iv' (lc := [.ref 275, .int x1, .int b, .int l, .int (nI c), u]) (sc := []) (gc := []) ⟨va_M, va_f, va_f, va_f, ⟨nI c, rfl, by rw [tc]; show (0 : Int) ≤ _; omega, by rw [tc]; show _ ≤ (5 : Int); omega, Or.inr ⟨c, w, v, tc, hp⟩⟩, trivial, trivial⟩ trivial trivial fas_n (fun v h9 iv9 fr9 q => ?_) (fun st hst lc' sc' h9 iv9 fr9 ps => ?_)
      · obtain ⟨o, ho, po⟩ := q
        cases ho
      · rcases List.mem_cons.mp hst with rfl | hst
        · obtain ⟨p1, p2, p3, _⟩ := ps
          obtain ⟨w0, l1, rfl, m0, p1a⟩ := mxs_c p1
          obtain ⟨w1, l2, rfl, m1, p1b⟩ := mxs_c p1a
          obtain ⟨w2, l3, rfl, ⟨y2, rfl, _⟩, p1c⟩ := mxs_c p1b
          obtain ⟨w3, l4, rfl, ⟨y3, rfl, _⟩, p1d⟩ := mxs_c p1c
          obtain ⟨w4, l5, rfl, m4, p1e⟩ := mxs_c p1d
          obtain ⟨w5, l6, rfl, _, p1f⟩ := mxs_c p1e
          cases mxs_n p1f
          cases mxs_n p2
          cases mx_0 m0
          cases mx_0 m1
          cases mx_0 m4
          refine ps_iinc rfl rfl ?_
          refine ps_goto rfl ?_
          rw [show nI c + Int32.ofInt 1 = nI (c + 1) from nI_1 c]
          exact ih (c + 1) (by omega) _ _ _ _ iv9 (sx_fr_trans fr' (fr_wk (by decide) fr9))
        · cases hst
  refine sg_by (sg_be0_t ys) sg_be0_b iv (lc := [.ref 275, .int x1, .retAddr 0, .retAddr 0, .retAddr 0, .retAddr 0]) (sc := []) (gc := []) ⟨va_M, va_f, trivial, trivial, trivial, trivial, trivial⟩ trivial trivial fas_n (fun v h9 iv9 fr9 q => ?_) (fun st hst lc' sc' h9 iv9 fr9 ps => ?_)
  · obtain ⟨o, ho, po⟩ := q
    rcases List.mem_cons.mp ho with rfl | ho
    · obtain ⟨w0, l1, rfl, m0, ps1⟩ := mxs_c po.1
      cases mxs_n ps1
      obtain ⟨x, rfl, _⟩ := m0
      exact fin _ _ iv9 (fr_wk (by decide) fr9)
    · cases ho
  · rcases List.mem_cons.mp hst with rfl | hst
    · obtain ⟨p1, p2, p3, _⟩ := ps
      obtain ⟨w0, l1, rfl, m0, p1a⟩ := mxs_c p1
      obtain ⟨w1, l2, rfl, m1, p1b⟩ := mxs_c p1a
      obtain ⟨w2, l3, rfl, ⟨y2, rfl, _⟩, p1c⟩ := mxs_c p1b
      obtain ⟨w3, l4, rfl, ⟨y3, rfl, _⟩, p1d⟩ := mxs_c p1c
      obtain ⟨w4, l5, rfl, ⟨y4, rfl, y41, y42, _⟩, p1e⟩ := mxs_c p1d
      obtain ⟨w5, l6, rfl, _, p1f⟩ := mxs_c p1e
      cases mxs_n p1f
      cases mxs_n p2
      cases mx_0 m0
      cases mx_0 m1
      cases z0 y41 y42
      exact loop P 0 (by omega) _ _ _ _ iv9 (fr_wk (by decide) fr9)
    · cases hst
end JB
