/-! BY HAND: the class, plates, second -/
theorem nI_div {a b : Nat} (ha : a < 2147483648) (hb : b < 2147483648) : nI a / nI b = nI (a / b) := by
  refine (i_eq _ _).mpr ?_
  rw [Int32.toInt_div_of_ne_left _ _ (fun q => by
    have := congrArg Int32.toInt q
    rw [nI_toInt ha] at this
    have e : (Int32.minValue).toInt = -2147483648 := rfl
    omega), nI_toInt ha, nI_toInt hb, nI_toInt (Nat.lt_of_le_of_lt (Nat.div_le_self a b) ha), Int.ofNat_tdiv]
section HX
variable {ys : List Int32} {h h' : pm_H} {Q : List Value → pm_H → Prop} {t : Nat}
theorem B_xOf (iv : sx_IV xT xtg xPH h) {a w v i : Nat} (ha : xtg a = 36) (hp : cPl h a w v) (hi : i < 1000000) (kk : Q [.int (nI (i % w))] h) : pm_W (g_P ys) 69 0 [.ref a, .int (nI i)] [] h (0, 0) Q := by
  have hs : pm_sh (g_P ys) h a = some (.inl 9) := shp_of iv ha rfl
  have b := hp.b
  refine ps_iload rfl rfl ?_
  refine ps_aload rfl rfl ?_
  refine ps_gfi 9 4 rfl rfl rfl (by first | assumption | rfl) rfl ?_
  rw [hp.1]
  refine ps_rem rfl (nI_nz hp.2.2.2.1 (by omega)) ?_
  rw [nI_rem (by omega) hp.2.2.2.1 (by omega)]
  refine ps_iret rfl rfl ?_
  exact kk
theorem B_yOf (iv : sx_IV xT xtg xPH h) {a w v i : Nat} (ha : xtg a = 36) (hp : cPl h a w v) (hi : i < 1000000) (kk : Q [.int (nI (i / w))] h) : pm_W (g_P ys) 70 0 [.ref a, .int (nI i)] [] h (0, 0) Q := by
  have hs : pm_sh (g_P ys) h a = some (.inl 9) := shp_of iv ha rfl
  have b := hp.b
  refine ps_iload rfl rfl ?_
  refine ps_aload rfl rfl ?_
  refine ps_gfi 9 4 rfl rfl rfl (by first | assumption | rfl) rfl ?_
  rw [hp.1]
  refine ps_div rfl (nI_nz hp.2.2.2.1 (by omega)) ?_
  rw [nI_div (by omega) (by omega)]
  refine ps_iret rfl rfl ?_
  exact kk
theorem B_addMirrored (ht : sx_mw xT [(t, .ofNat 0, .ofNat 288)] t 0 288 (-2147483648, 2147483647) = true) (ht36 : ¬ t = 36) (iv : sx_IV xT xtg xPH h) {a b c w v u i0 : Nat} (ha : xtg a = 36) (hb : xtg b = t) (hbs : xsh t = some (.inr (0, 289))) (hc : xtg c = u) (hcs : xsh u = some (.inr (0, 289))) (hp : cPl h a w v) (hi0 : i0 < w * v) (tm : Int32) (kk : ∀ h', rOK t h h' → Q [] h') : pm_W (g_P ys) 133 0 [.ref a, .ref b, .ref c, .int (nI i0), .int tm, .retAddr 0, .retAddr 0, .retAddr 0, .retAddr 0, .retAddr 0] [] h (0, 0) Q := by
  obtain ⟨hwb, hvb⟩ := hp.b
  obtain ⟨-, -, -, hw0, hv0, hwv⟩ := id hp
  have outer : ∀ d y, y + d = v → ∀ p, p < v → ∀ u1 u2 h', rOK t h h' → pm_W (g_P ys) 133 13 [.ref a, .ref b, .ref c, .int (nI i0), .int tm, .int (nI p), .int (nI (w * y)), .int (nI y), u1, u2] [] h' (0, 0) Q := by
    intro d
    induction d with
    | zero =>
      intro y hy p hpv u1 u2 h' ok
      have hs : pm_sh (g_P ys) h' a = some (.inl 9) := shp_of ok.1 ha rfl
      have hp' := rOK_pl ok ha ht36 hp
      refine ps_iload rfl rfl ?_
      refine ps_aload rfl rfl ?_
      refine ps_gfi 9 5 rfl rfl rfl (by first | assumption | rfl) rfl ?_
      refine ps_icmpt rfl (by show decide _ = true; rw [hp'.2.1]; exact decide_eq_true (nI_le (by omega) (by omega))) ?_
      refine ps_vret rfl rfl ?_
      exact kk _ ok
    | succ d ih =>
      intro y hy p hpv u1 u2 h' ok
      have h1 : w * (y + 1) ≤ w * v := Nat.mul_le_mul_left w (by omega)
      rw [Nat.mul_succ] at h1
      have h2 : w * (p + 1) ≤ w * v := Nat.mul_le_mul_left w (by omega)
      rw [Nat.mul_succ] at h2
      have inner : ∀ e x, x + e = w → ∀ q, q < w → ∀ h', rOK t h h' → pm_W (g_P ys) 133 32 [.ref a, .ref b, .ref c, .int (nI i0), .int tm, .int (nI p), .int (nI (w * y + x)), .int (nI y), .int (nI q), .int (nI x)] [] h' (0, 0) Q := by
        intro e
        induction e with
        | zero =>
          intro x hx q hq h' ok
          have hs : pm_sh (g_P ys) h' a = some (.inl 9) := shp_of ok.1 ha rfl
          have hp' := rOK_pl ok ha ht36 hp
          have nx : ∀ p', p' < v → pm_W (g_P ys) 133 110 [.ref a, .ref b, .ref c, .int (nI i0), .int tm, .int (nI p), .int (nI (w * y + x)), .int (nI y), .int (nI q), .int (nI x)] [.int (nI p')] h' (0, 0) Q := by
            intro p' hp'
            refine ps_istore rfl rfl ?_
            refine ps_iinc rfl rfl ?_
            refine ps_goto rfl ?_
            rw [show nI y + Int32.ofInt 1 = nI (y + 1) from nI_1 y, show w * y + x = w * (y + 1) by rw [Nat.mul_succ]; omega]
            exact ih (y + 1) (by omega) p' hp' _ _ _ ok
          refine ps_iload rfl rfl ?_
          refine ps_aload rfl rfl ?_
          refine ps_gfi 9 4 rfl rfl rfl (by first | assumption | rfl) rfl ?_
          refine ps_icmpt rfl (by show decide _ = true; rw [hp'.1]; exact decide_eq_true (nI_le (by omega) (by omega))) ?_
          refine ps_iload rfl rfl ?_
          refine ps_if rfl (fun hc => ?_) (fun hc => ?_)
          · have hne : ¬ p = 0 := fun e => by rw [e] at hc; exact absurd hc (by decide)
            refine ps_iload rfl rfl ?_
            refine pw_c rfl ?_
            refine ps_ar rfl rfl rfl rfl rfl ?_
            rw [show nI p - 1 = nI (p - 1) by rw [← iI_nat p, ← iI_nat (p - 1), show (1 : Int32) = iI 1 from rfl, iI_sub]; congr 1; omega]
            exact nx (p - 1) (by omega)
          · refine ps_aload rfl rfl ?_
            refine ps_gfi 9 5 rfl rfl rfl (by first | assumption | rfl) rfl ?_
            rw [hp'.2.1]
            refine pw_c rfl ?_
            refine ps_ar rfl rfl rfl rfl rfl ?_
            refine ps_goto rfl ?_
            rw [show nI v - 1 = nI (v - 1) by rw [← iI_nat v, ← iI_nat (v - 1), show (1 : Int32) = iI 1 from rfl, iI_sub]; congr 1; omega]
            exact nx (v - 1) (by omega)
        | succ e ih2 =>
          intro x hx q hq h' ok
          have hs : pm_sh (g_P ys) h' a = some (.inl 9) := shp_of ok.1 ha rfl
          have hsb : pm_sh (g_P ys) h' b = some (.inr (0, 289)) := shp_of ok.1 hb hbs
          have hsc : pm_sh (g_P ys) h' c = some (.inr (0, 289)) := shp_of ok.1 hc hcs
          have hp' := rOK_pl ok ha ht36 hp
          refine ps_iload rfl rfl ?_
          refine ps_aload rfl rfl ?_
          refine ps_gfi 9 4 rfl rfl rfl (by first | assumption | rfl) rfl ?_
          refine ps_icmpf rfl (by show decide _ = false; rw [hp'.1]; exact decide_eq_false (nI_ge (by omega) (by omega))) ?_
          refine ps_aload rfl rfl ?_
          refine ps_iload rfl rfl ?_
          refine ps_ar rfl rfl rfl rfl rfl ?_
          refine ps_iald (w * y + x) rfl (by first | assumption | rfl) rfl (rfl) (by omega) ?_
          refine ps_iload rfl rfl ?_
          refine ps_aload rfl rfl ?_
          refine ps_iload rfl rfl ?_
          refine ps_aload rfl rfl ?_
          refine ps_gfi 9 4 rfl rfl rfl (by first | assumption | rfl) rfl ?_
          rw [hp'.1]
          refine ps_ar rfl rfl rfl rfl rfl ?_
          refine ps_iload rfl rfl ?_
          refine ps_ar rfl rfl rfl rfl rfl ?_
          refine ps_iald (p * w + q) rfl (by first | assumption | rfl) rfl (by rw [pk_mul, nI_add]) (by rw [Nat.mul_comm p w]; omega) ?_
          refine ps_ar rfl rfl rfl rfl rfl ?_
          refine ps_ar rfl rfl rfl rfl rfl ?_
          refine ps_iast (w * y + x) rfl (by first | assumption | rfl) rfl (rfl) (by omega) ?_
          have ok2 := rOK_u ht ok hb (i := w * y + x) (by omega) (h'.1 b (w * y + x) + tm * h'.1 c (p * w + q))
          have hs2 : pm_sh (g_P ys) (pm_sI h' b (w * y + x) (h'.1 b (w * y + x) + tm * h'.1 c (p * w + q))) a = some (.inl 9) := shp_of ok2.1 ha rfl
          have hp2 := rOK_pl ok2 ha ht36 hp
          have nx : ∀ q', q' < w → pm_W (g_P ys) 133 84 [.ref a, .ref b, .ref c, .int (nI i0), .int tm, .int (nI p), .int (nI (w * y + (x + 1))), .int (nI y), .int (nI q), .int (nI x)] [.int (nI q')] (pm_sI h' b (w * y + x) (h'.1 b (w * y + x) + tm * h'.1 c (p * w + q))) (0, 0) Q := by
            intro q' hq'
            refine ps_istore rfl rfl ?_
            refine ps_iinc rfl rfl ?_
            refine ps_goto rfl ?_
            rw [show nI x + Int32.ofInt 1 = nI (x + 1) from nI_1 x]
            exact ih2 (x + 1) (by omega) q' hq' _ ok2
          refine ps_iinc rfl rfl ?_
          rw [show nI (w * y + x) + Int32.ofInt 1 = nI (w * y + (x + 1)) from nI_1 _]
          refine ps_iload rfl rfl ?_
          refine ps_if rfl (fun hc => ?_) (fun hc => ?_)
          · have hne : ¬ q = 0 := fun e => by rw [e] at hc; exact absurd hc (by decide)
            refine ps_iload rfl rfl ?_
            refine pw_c rfl ?_
            refine ps_ar rfl rfl rfl rfl rfl ?_
            rw [show nI q - 1 = nI (q - 1) by rw [← iI_nat q, ← iI_nat (q - 1), show (1 : Int32) = iI 1 from rfl, iI_sub]; congr 1; omega]
            exact nx (q - 1) (by omega)
          · refine ps_aload rfl rfl ?_
            refine ps_gfi 9 4 rfl rfl rfl (by first | assumption | rfl) rfl ?_
            rw [show ((pm_sI h' b (w * y + x) (h'.1 b (w * y + x) + tm * h'.1 c (p * w + q))) : pm_H).1 a 4 = nI w from hp2.1]
            refine pw_c rfl ?_
            refine ps_ar rfl rfl rfl rfl rfl ?_
            refine ps_goto rfl ?_
            rw [show nI w - 1 = nI (w - 1) by rw [← iI_nat w, ← iI_nat (w - 1), show (1 : Int32) = iI 1 from rfl, iI_sub]; congr 1; omega]
            exact nx (w - 1) (by omega)
      have hs : pm_sh (g_P ys) h' a = some (.inl 9) := shp_of ok.1 ha rfl
      have hp' := rOK_pl ok ha ht36 hp
      refine ps_iload rfl rfl ?_
      refine ps_aload rfl rfl ?_
      refine ps_gfi 9 5 rfl rfl rfl (by first | assumption | rfl) rfl ?_
      refine ps_icmpf rfl (by show decide _ = false; rw [hp'.2.1]; exact decide_eq_false (nI_ge (by omega) (by omega))) ?_
      refine ps_aload rfl rfl ?_
      refine ps_iload rfl rfl ?_
      refine pv_k rfl rfl rfl rfl rfl (by first | assumption | rfl) rfl ⟨Nat.zero_le _, Nat.zero_le _⟩ ?_
      refine B_xOf ok.1 ha hp' (by omega) ?_
      refine ps_istore rfl rfl ?_
      refine pw_c rfl ?_
      refine ps_istore rfl rfl ?_
      exact inner w 0 (by omega) _ (Nat.mod_lt _ hw0) _ ok
  have hs : pm_sh (g_P ys) h a = some (.inl 9) := shp_of iv ha rfl
  refine ps_aload rfl rfl ?_
  refine ps_iload rfl rfl ?_
  refine pv_k rfl rfl rfl rfl rfl (by first | assumption | rfl) rfl ⟨Nat.zero_le _, Nat.zero_le _⟩ ?_
  refine B_yOf iv ha hp (by omega) ?_
  refine ps_istore rfl rfl ?_
  refine pw_c rfl ?_
  refine ps_istore rfl rfl ?_
  refine pw_c rfl ?_
  refine ps_istore rfl rfl ?_
  exact outer v 0 (by omega) _ (Nat.div_lt_of_lt_mul hi0) _ _ _ (rOK_refl iv)
theorem B_fill (ht : sx_mw xT [(t, .ofNat 0, .ofNat 288)] t 0 288 (-2147483648, 2147483647) = true) (iv : sx_IV xT xtg xPH h) {b n : Nat} (hb : xtg b = t) (hbs : xsh t = some (.inr (0, 289))) (hn : n ≤ 289) (x : Int32) (kk : ∀ h', rOK t h h' → Q [] h') : pm_W (g_P ys) 50 0 [.ref b, .int 0, .int (nI n), .int x, .retAddr 0] [] h (0, 0) Q := by
  have loop : ∀ d i, i + d = n → ∀ h', rOK t h h' → pm_W (g_P ys) 50 10 [.ref b, .int 0, .int (nI n), .int x, .int (nI i)] [] h' (0, 0) Q := by
    intro d
    induction d with
    | zero =>
      intro i hi h' ok
      refine ps_iload rfl rfl ?_
      refine ps_iload rfl rfl ?_
      refine ps_icmpt rfl (decide_eq_true (nI_le (by omega) (by omega))) ?_
      refine ps_vret rfl rfl ?_
      exact kk _ ok
    | succ d ih =>
      intro i hi h' ok
      have hsb : pm_sh (g_P ys) h' b = some (.inr (0, 289)) := shp_of ok.1 hb hbs
      refine ps_iload rfl rfl ?_
      refine ps_iload rfl rfl ?_
      refine ps_icmpf rfl (decide_eq_false (nI_ge (by omega) (by omega))) ?_
      refine ps_aload rfl rfl ?_
      refine ps_iload rfl rfl ?_
      refine ps_iload rfl rfl ?_
      refine ps_iast (i) rfl (by first | assumption | rfl) rfl (rfl) (by omega) ?_
      refine ps_iinc rfl rfl ?_
      refine ps_goto rfl ?_
      rw [show nI i + Int32.ofInt 1 = nI (i + 1) from nI_1 i]
      exact ih (i + 1) (by omega) _ (rOK_u ht ok hb (by omega) _)
  have hsb : pm_sh (g_P ys) h b = some (.inr (0, 289)) := shp_of iv hb hbs
  have rc : ∀ Q' : List Value → pm_H → Prop, Q' [] h → pm_W (g_P ys) 51 0 [.int (nI 289), .int (nI 0), .int (nI n)] [] h (0, 0) Q' := by
    intro Q' kk'
    refine ps_iload rfl rfl ?_
    refine ps_iload rfl rfl ?_
    refine ps_icmpt rfl (decide_eq_true (nI_le (by omega) (by omega))) ?_
    refine ps_iload rfl rfl ?_
    refine ps_ift rfl (by decide) ?_
    refine ps_iload rfl rfl ?_
    refine ps_iload rfl rfl ?_
    refine ps_icmpt rfl (decide_eq_true (nI_le (by omega) (by omega))) ?_
    refine ps_vret rfl rfl ?_
    exact kk'
  refine ps_aload rfl rfl ?_
  refine ps_alen rfl (by first | assumption | rfl) ?_
  refine ps_iload rfl rfl ?_
  refine ps_iload rfl rfl ?_
  refine pw_k rfl rfl rfl rfl ⟨Nat.zero_le _, Nat.zero_le _⟩ ?_
  refine rc _ ?_
  refine ps_iload rfl rfl ?_
  refine ps_istore rfl rfl ?_
  exact loop n 0 (by omega) _ (rOK_refl iv)
/-- decoded anew -/
theorem B_decodeAll (ht : sx_mw xT [(t, .ofNat 0, .ofNat 288)] t 0 288 (-2147483648, 2147483647) = true) (ht36 : ¬ t = 36) (iv : sx_IV xT xtg xPH h) {a b c u : Nat} (ha : xtg a = 36) (hb : xtg b = t) (hbs : xsh t = some (.inr (0, 289))) (hc : xtg c = u) (hcs : xsh u = some (.inr (0, 289))) (kk : ∀ h', rOK t h h' → Q [] h') : pm_W (g_P ys) 132 0 [.ref a, .ref c, .ref b, .retAddr 0] [] h (0, 0) Q := by
  obtain ⟨w, v, hp⟩ := cPl_of iv ha
  obtain ⟨-, -, -, hw0, hv0, hwv⟩ := id hp
  have hs : pm_sh (g_P ys) h a = some (.inl 9) := shp_of iv ha rfl
  have loop : ∀ d i, i + d = w * v → ∀ h', rOK t h h' → pm_W (g_P ys) 132 12 [.ref a, .ref c, .ref b, .int (nI i)] [] h' (0, 0) Q := by
    intro d
    induction d with
    | zero =>
      intro i hi h' ok
      have hs : pm_sh (g_P ys) h' a = some (.inl 9) := shp_of ok.1 ha rfl
      have hp' := rOK_pl ok ha ht36 hp
      refine ps_iload rfl rfl ?_
      refine ps_aload rfl rfl ?_
      refine ps_gfi 9 6 rfl rfl rfl (by first | assumption | rfl) rfl ?_
      refine ps_icmpt rfl (by show decide _ = true; rw [hp'.2.2.1]; exact decide_eq_true (nI_le (by omega) (by omega))) ?_
      refine ps_vret rfl rfl ?_
      exact kk _ ok
    | succ d ih =>
      intro i hi h' ok
      have hs : pm_sh (g_P ys) h' a = some (.inl 9) := shp_of ok.1 ha rfl
      have hsc : pm_sh (g_P ys) h' c = some (.inr (0, 289)) := shp_of ok.1 hc hcs
      have hp' := rOK_pl ok ha ht36 hp
      obtain ⟨g, hg, hgt, _⟩ := ok.1.2.2.1 a 1 38 (by rw [ha]; rfl)
      have nx : ∀ h', rOK t h h' → pm_W (g_P ys) 132 39 [.ref a, .ref c, .ref b, .int (nI i)] [] h' (0, 0) Q := by
        intro h' ok
        refine ps_iinc rfl rfl ?_
        refine ps_goto rfl ?_
        rw [show nI i + Int32.ofInt 1 = nI (i + 1) from nI_1 i]
        exact ih (i + 1) (by omega) _ ok
      refine ps_iload rfl rfl ?_
      refine ps_aload rfl rfl ?_
      refine ps_gfi 9 6 rfl rfl rfl (by first | assumption | rfl) rfl ?_
      refine ps_icmpf rfl (by show decide _ = false; rw [hp'.2.2.1]; exact decide_eq_false (nI_ge (by omega) (by omega))) ?_
      refine ps_aload rfl rfl ?_
      refine ps_iload rfl rfl ?_
      refine ps_iald (i) rfl (by first | assumption | rfl) rfl (rfl) (by omega) ?_
      refine ps_if rfl (fun hc => ?_) (fun hc => ?_)
      · exact nx _ ok
      · refine ps_aload rfl rfl ?_
        refine ps_aload rfl rfl ?_
        refine ps_aload rfl rfl ?_
        refine ps_gfr 9 1 rfl rfl rfl (by first | assumption | rfl) rfl (by assumption) ?_
        refine ps_iload rfl rfl ?_
        refine ps_aload rfl rfl ?_
        refine ps_iload rfl rfl ?_
        refine ps_iald (i) rfl (by first | assumption | rfl) rfl (rfl) (by omega) ?_
        refine pv_k rfl rfl rfl rfl rfl (by first | assumption | rfl) rfl ⟨Nat.zero_le _, Nat.zero_le _⟩ ?_
        refine B_addMirrored ht ht36 ok.1 ha hb hbs hgt rfl hp' (by omega) _ ?_
        intro h2 ok2
        exact nx _ ⟨ok2.1, sx_fr_trans ok.2 ok2.2⟩
  refine ps_aload rfl rfl ?_
  refine pw_c rfl ?_
  refine ps_aload rfl rfl ?_
  refine ps_gfi 9 6 rfl rfl rfl (by first | assumption | rfl) rfl ?_
  refine pw_c rfl ?_
  rw [hp.2.2.1]
  refine pw_k rfl rfl rfl rfl ⟨Nat.zero_le _, Nat.zero_le _⟩ ?_
  refine B_fill ht iv hb hbs hwv 0 ?_
  intro h1 ok1
  refine pw_c rfl ?_
  refine ps_istore rfl rfl ?_
  exact loop (w * v) 0 (by omega) _ ok1
theorem k_decodeAll {t u : Nat} (ht : sx_mw xT [(t, .ofNat 0, .ofNat 288)] t 0 288 (-2147483648, 2147483647) = true) (ht36 : ¬ t = 36) (hbs : xsh t = some (.inr (0, 289))) (hcs : xsh u = some (.inr (0, 289))) : xk ys (132, [.inl (2, .ofNat 0, .ofNat 0, 36), .inl (2, .ofNat 0, .ofNat 0, u), .inl (2, .ofNat 0, .ofNat 0, t)], [], [(t, .ofNat 0, .ofNat 288)], (false, false), [([], [], [], [])]) := by
  intro h vs Q iv va fa kk
  obtain ⟨_, c1, rfl, ⟨a, rfl, ha, _⟩, va1⟩ := vas_c va
  obtain ⟨_, c2, rfl, ⟨c, rfl, hc, _⟩, va2⟩ := vas_c va1
  obtain ⟨_, c3, rfl, ⟨b, rfl, hb, _⟩, va3⟩ := vas_c va2
  cases vas_n va3
  exact B_decodeAll ht ht36 iv ha hb hbs hc hcs (fun h' ok => kk _ _ ok.1 ok.2 ⟨_, List.mem_cons_self, po_0⟩)
end HX
/-! two pictures laid on each other -/
section HY
variable {ys : List Int32} {h : pm_H} {Q : List Value → pm_H → Prop}
theorem k_sumAt : xk ys (172, [.inl (2, .ofNat 0, .ofNat 0, 22), .inl (2, .ofNat 0, .ofNat 0, 40), .inl (0, .ofNat 0, .ofNat 288, 0), .inl (0, .ofNat 0, .ofNat 288, 0)], [], [], (false, false), [([.inl (1, .negSucc 9223372036854775807, .ofNat 9223372036854775807, 0)], [], [], [])]) := by
  intro h vs Q iv va fa kk
  obtain ⟨_, c1, rfl, ⟨a, rfl, ha, _⟩, va1⟩ := vas_c va
  obtain ⟨_, c2, rfl, ⟨b, rfl, hb, _⟩, va2⟩ := vas_c va1
  obtain ⟨_, c3, rfl, ⟨x, rfl, x1, x2, _⟩, va3⟩ := vas_c va2
  obtain ⟨_, c4, rfl, ⟨y, rfl, y1, y2, _⟩, va4⟩ := vas_c va3
  cases vas_n va4
  have x1' : (0 : Int) ≤ x.toInt := x1
  have x2' : x.toInt ≤ 288 := x2
  have y1' : (0 : Int) ≤ y.toInt := y1
  have y2' : y.toInt ≤ 288 := y2
  obtain ⟨s0, hs0⟩ : ∃ n : Nat, x.toInt = (n : Int) := ⟨x.toInt.toNat, by omega⟩
  obtain ⟨t0, ht0⟩ : ∃ n : Nat, y.toInt = (n : Int) := ⟨y.toInt.toNat, by omega⟩
  cases i_nat hs0
  cases i_nat ht0
  have hsa : pm_sh (g_P ys) h a = some (.inl 7) := shp_of iv ha rfl
  have hsb : pm_sh (g_P ys) h b = some (.inl 10) := shp_of iv hb rfl
  obtain ⟨r, hr, hrt, _⟩ := iv.2.2.1 a 0 23 (by rw [ha]; rfl)
  obtain ⟨f, hf, hft, _⟩ := iv.2.2.1 b 2 43 (by rw [hb]; rfl)
  obtain ⟨p, hpr, hpt, _⟩ := iv.2.2.1 b 13 36 (by rw [hb]; rfl)
  have hsr : pm_sh (g_P ys) h r = some (.inr (0, 289)) := shp_of iv hrt rfl
  have hsf : pm_sh (g_P ys) h f = some (.inr (0, 289)) := shp_of iv hft rfl
  have hsp : pm_sh (g_P ys) h p = some (.inl 9) := shp_of iv hpt rfl
  obtain ⟨w, v, hp⟩ := cPl_of iv hpt
  obtain ⟨hwb, hvb⟩ := hp.b
  obtain ⟨hw, hv, hc, hw0, hv0, hwv⟩ := id hp
  have fin : ∀ z : Int64, Q [.long z] h := by
    intro z
    refine kk _ _ iv (sx_fr_refl _ _ _ _ _) ⟨_, List.mem_cons_self, ⟨⟨z, rfl, ?_, ?_⟩, trivial⟩, fun _ q => (by cases q), fun _ q => (by cases q), fun _ q => (by cases q)⟩
    · have := Int64.le_toInt z
      show (-9223372036854775808 : Int) ≤ _
      omega
    · have := Int64.toInt_lt z
      show _ ≤ (9223372036854775807 : Int)
      omega
  have outer : ∀ d j, j + d = v → ∀ z u1 u2, pm_W (g_P ys) 172 15 [.ref a, .ref b, .int (nI s0), .int (nI t0), .ref p, .long z, .retAddr 0, .int (nI (w * j)), .int (nI j), u1, u2] [] h (0, 0) Q := by
    intro d
    induction d with
    | zero =>
      intro j hj z u1 u2
      refine ps_iload rfl rfl ?_
      refine ps_aload rfl rfl ?_
      refine ps_gfi 9 5 rfl rfl rfl (by first | assumption | rfl) rfl ?_
      refine ps_icmpt rfl (by show decide _ = true; rw [hv]; exact decide_eq_true (nI_le (by omega) (by omega))) ?_
      refine ps_lload rfl rfl ?_
      refine ps_lret rfl rfl ?_
      exact fin _
    | succ d ih =>
      intro j hj z u1 u2
      have h1 : w * (j + 1) ≤ w * v := Nat.mul_le_mul_left w (by omega)
      rw [Nat.mul_succ] at h1
      have hq := Nat.mod_lt (j + t0) hv0
      have h2 : w * ((j + t0) % v + 1) ≤ w * v := Nat.mul_le_mul_left w (by omega)
      rw [Nat.mul_succ] at h2
      have inner : ∀ e i, i + e = w → ∀ z, pm_W (g_P ys) 172 46 [.ref a, .ref b, .int (nI s0), .int (nI t0), .ref p, .long z, .retAddr 0, .int (nI (w * j + i)), .int (nI j), .int (nI ((j + t0) % v * w)), .int (nI i)] [] h (0, 0) Q := by
        intro e
        induction e with
        | zero =>
          intro i hi z
          refine ps_iload rfl rfl ?_
          refine ps_aload rfl rfl ?_
          refine ps_gfi 9 4 rfl rfl rfl (by first | assumption | rfl) rfl ?_
          refine ps_icmpt rfl (by show decide _ = true; rw [hw]; exact decide_eq_true (nI_le (by omega) (by omega))) ?_
          refine ps_iinc rfl rfl ?_
          refine ps_goto rfl ?_
          rw [show nI j + Int32.ofInt 1 = nI (j + 1) from nI_1 j, show w * j + i = w * (j + 1) by rw [Nat.mul_succ]; omega]
          exact ih (j + 1) (by omega) _ _ _
        | succ e ih2 =>
          intro i hi z
          have hm := Nat.mod_lt (i + s0) hw0
          refine ps_iload rfl rfl ?_
          refine ps_aload rfl rfl ?_
          refine ps_gfi 9 4 rfl rfl rfl (by first | assumption | rfl) rfl ?_
          refine ps_icmpf rfl (by show decide _ = false; rw [hw]; exact decide_eq_false (nI_ge (by omega) (by omega))) ?_
          refine ps_lload rfl rfl ?_
          refine ps_aload rfl rfl ?_
          refine ps_gfr 7 0 rfl rfl rfl (by first | assumption | rfl) rfl (by assumption) ?_
          refine ps_iload rfl rfl ?_
          refine ps_iald (w * j + i) rfl (by first | assumption | rfl) rfl (rfl) (by omega) ?_
          refine ps_ar rfl rfl rfl rfl rfl ?_
          refine ps_aload rfl rfl ?_
          refine ps_gfr 10 2 rfl rfl rfl (by first | assumption | rfl) rfl (by assumption) ?_
          refine ps_iload rfl rfl ?_
          refine ps_iload rfl rfl ?_
          refine ps_iload rfl rfl ?_
          refine ps_ar rfl rfl rfl rfl rfl ?_
          refine ps_aload rfl rfl ?_
          refine ps_gfi 9 4 rfl rfl rfl (by first | assumption | rfl) rfl ?_
          rw [hw, show nI i + nI s0 = nI (i + s0) from nI_add i s0]
          refine ps_rem rfl (nI_nz hw0 (by omega)) ?_
          rw [nI_rem (by omega) hw0 (by omega)]
          refine ps_ar rfl rfl rfl rfl rfl ?_
          refine ps_iald ((j + t0) % v * w + (i + s0) % w) rfl (by first | assumption | rfl) rfl (by rw [nI_add]) (by rw [Nat.mul_comm ((j + t0) % v) w]; omega) ?_
          refine ps_ar rfl rfl rfl rfl rfl ?_
          refine ps_ar rfl rfl rfl rfl rfl ?_
          refine ps_ar rfl rfl rfl rfl rfl ?_
          refine ps_lstore rfl rfl ?_
          refine ps_iinc rfl rfl ?_
          refine ps_iinc rfl rfl ?_
          refine ps_goto rfl ?_
          rw [show nI i + Int32.ofInt 1 = nI (i + 1) from nI_1 i, show nI (w * j + i) + Int32.ofInt 1 = nI (w * j + (i + 1)) from nI_1 _]
          exact ih2 (i + 1) (by omega) _
      refine ps_iload rfl rfl ?_
      refine ps_aload rfl rfl ?_
      refine ps_gfi 9 5 rfl rfl rfl (by first | assumption | rfl) rfl ?_
      refine ps_icmpf rfl (by show decide _ = false; rw [hv]; exact decide_eq_false (nI_ge (by omega) (by omega))) ?_
      refine ps_iload rfl rfl ?_
      refine ps_iload rfl rfl ?_
      refine ps_ar rfl rfl rfl rfl rfl ?_
      refine ps_aload rfl rfl ?_
      refine ps_gfi 9 5 rfl rfl rfl (by first | assumption | rfl) rfl ?_
      rw [hv, show nI j + nI t0 = nI (j + t0) from nI_add j t0]
      refine ps_rem rfl (nI_nz hv0 (by omega)) ?_
      rw [nI_rem (by omega) hv0 (by omega)]
      refine ps_aload rfl rfl ?_
      refine ps_gfi 9 4 rfl rfl rfl (by first | assumption | rfl) rfl ?_
      rw [hw]
      refine ps_ar rfl rfl rfl rfl rfl ?_
      refine ps_istore rfl rfl ?_
      refine pw_c rfl ?_
      refine ps_istore rfl rfl ?_
      rw [show nI ((j + t0) % v) * nI w = nI ((j + t0) % v * w) from pk_mul _ _]
      exact inner w 0 (by omega) _
  refine ps_aload rfl rfl ?_
  refine ps_gfr 10 13 rfl rfl rfl (by first | assumption | rfl) rfl (by assumption) ?_
  refine ps_astore rfl rfl ?_
  refine pw_c rfl ?_
  refine ps_lstore rfl rfl ?_
  refine pw_c rfl ?_
  refine ps_istore rfl rfl ?_
  refine pw_c rfl ?_
  refine ps_istore rfl rfl ?_
  exact outer v 0 (by omega) _ _ _
end HY
