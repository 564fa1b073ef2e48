/-! BY HAND: the model's shots, coarse, best -/
section IX
variable {h : pm_H} {ws : List Value} {I I' : Nat → Nat → Int32} {L : Nat → Nat → Int64} {s : Nat → Option Nat}
theorem va_f {x : Int32} : sx_va xtg xVP h (.inl (0, .negSucc 2147483647, .ofNat 2147483647, 0)) (.int x) := ⟨x, rfl, Int32.le_toInt x, Int.le_of_lt_add_one (Int32.toInt_lt x), Or.inl rfl⟩
theorem va_M : sx_va xtg xVP h (.inl (2, .ofNat 0, .ofNat 0, 50)) (.ref 275) := ⟨275, rfl, rfl, by omega⟩
/-- facts of the model's object go over to a heap where it is alike -/
theorem fas_tr {h' : pm_H} {ws' : List Value} {fs : List sx_F} (k : sx_fas xVP h (.ref 275 :: ws) fs) (e : ∀ j, h'.1 275 j = h.1 275 j) (ev : ∀ l z, xVP h l z → xVP h' l z) {fs' : List sx_F} (sub : ∀ f, f ∈ fs' → f ∈ fs ∧ f.1 = 0) : sx_fas xVP h' (.ref 275 :: ws') fs' := by
  intro f hf
  obtain ⟨m, z⟩ := sub f hf
  obtain ⟨q1, q2, q3⟩ := f275 k m z
  exact ⟨275, by rw [z]; rfl, by rw [e]; exact q1, by rw [e]; exact q2, by rw [e]; exact q3.imp id (ev _ _)⟩
theorem l_rem {x y : Int64} (hy : 0 < y.toInt) : (x - x / y * y).toInt = x.toInt.tmod y.toInt := by
  have h1 := Int64.toInt_div_of_ne_right x y (fun q => by rw [q] at hy; exact absurd hy (by decide))
  have b := tmod_bounds (a := x.toInt) hy
  have yb := Int64.toInt_lt y
  have e := Int.tdiv_mul_add_tmod x.toInt y.toInt
  rw [Int64.toInt_sub, Int64.toInt_mul, h1, Int.sub_bmod_bmod, show x.toInt - x.toInt.tdiv y.toInt * y.toInt = x.toInt.tmod y.toInt from by omega]
  exact Int.bmod_eq_of_le (by omega) (by omega)
theorem l_sub {x y : Int64} (h1 : -9223372036854775808 ≤ x.toInt - y.toInt) (h2 : x.toInt - y.toInt < 9223372036854775808) : (x - y).toInt = x.toInt - y.toInt := by
  rw [Int64.toInt_sub]
  exact Int.bmod_eq_of_le (by omega) (by omega)
def sZ (f : Nat → Int32) : Nat → Int
  | 0 => 0
  | n + 1 => sZ f n + (f n).toInt
theorem sZ_bd {f : Nat → Int32} : ∀ {n : Nat}, (∀ c, c < n → 0 ≤ (f c).toInt ∧ (f c).toInt ≤ 16083) → n ≤ 289 → 0 ≤ sZ f n ∧ sZ f n ≤ 16083 * n ∧ (suI f n).toInt = sZ f n
  | 0, _, _ => ⟨Int.le_refl _, Int.le_refl _, rfl⟩
  | n + 1, h, hn => by
    obtain ⟨h1, h2, h3⟩ := sZ_bd (f := f) (n := n) (fun c hc => h c (by omega)) (by omega)
    have hx := h n (by omega)
    rw [sZ, suI]
    refine ⟨by omega, by omega, ?_⟩
    rw [i_add (by omega) (by omega)]
    omega
theorem sZ_mono {f : Nat → Int32} {n : Nat} (h : ∀ c, c < n → 0 ≤ (f c).toInt) : ∀ d c, c + d = n → sZ f c ≤ sZ f n
  | 0, c, e => by rw [show c = n from by omega]; exact Int.le_refl _
  | d + 1, c, e => by
    have q := sZ_mono h d (c + 1) (by omega)
    rw [sZ] at q
    have := h c (by omega)
    omega
end IX
section IY
variable {ys : List Int32} {I : Nat → Nat → Int32} {L : Nat → Nat → Int64} {s : Nat → Option Nat} {Q : List Value → pm_H → Prop} {k w v : Nat}
theorem M_sumWhole (hu : I 275 24 = nI k) (hp : mPl I k w v) (kk : Q [.int (suI (fun c => I 296 c) (w * v))] (I, L, g_R s, 306)) : pm_W (g_P ys) 253 0 [.ref 275, .ref 296, .int 0, .retAddr 0, .retAddr 0] [] (I, L, g_R s, 306) (0, 0) Q := by
  obtain ⟨hk, hw, hv, hw0, hv0, hwv⟩ := id hp
  have loop : ∀ d c, c + d = w * v → pm_W (g_P ys) 253 5 [.ref 275, .ref 296, .int 0, .int (suI (fun c => I 296 c) c), .int (nI c)] [] (I, L, g_R s, 306) (0, 0) Q := by
    intro d
    induction d with
    | zero =>
      intro c hc
      refine ps_iload rfl rfl ?_
      refine ps_aload rfl rfl ?_
      refine pw_k rfl rfl rfl rfl ⟨Nat.zero_le _, Nat.zero_le _⟩ ?_
      refine M_cells0 hu hk ?_
      refine ps_icmpt rfl (by rw [hw, hv, pk_mul]; exact decide_eq_true (nI_le (by omega) (by omega))) ?_
      refine ps_iload rfl rfl ?_
      refine ps_iret rfl rfl ?_
      rw [show c = w * v from by omega]
      exact kk
    | succ d ih =>
      intro c hc
      refine ps_iload rfl rfl ?_
      refine ps_aload rfl rfl ?_
      refine pw_k rfl rfl rfl rfl ⟨Nat.zero_le _, Nat.zero_le _⟩ ?_
      refine M_cells0 hu hk ?_
      refine ps_icmpf rfl (by rw [hw, hv, pk_mul]; exact decide_eq_false (nI_ge (by omega) (by omega))) ?_
      refine ps_iload rfl rfl ?_
      refine ps_iload rfl rfl ?_
      refine ps_ift rfl (by decide) ?_
      refine ps_aload rfl rfl ?_
      refine ps_iload rfl rfl ?_
      refine ps_iald (c) rfl rfl rfl (rfl) (by omega) ?_
      refine ps_goto rfl ?_
      refine ps_ar rfl rfl rfl rfl rfl ?_
      refine ps_istore rfl rfl ?_
      refine ps_iinc rfl rfl ?_
      refine ps_goto rfl ?_
      rw [show nI c + Int32.ofInt 1 = nI (c + 1) from nI_1 c]
      exact ih (c + 1) (by omega)
  refine pw_c rfl ?_
  refine ps_istore rfl rfl ?_
  refine pw_c rfl ?_
  refine ps_istore rfl rfl ?_
  exact loop (w * v) 0 (by omega)
theorem M_cellOf {N : Nat} (hN : N ≤ 289) (hf : ∀ c, c < N → 0 ≤ (I 296 c).toInt ∧ (I 296 c).toInt ≤ 16083) {q : Int64} (hq : q.toInt < sZ (fun c => I 296 c) N) (hq2 : -5000000 < q.toInt) (h0 : 0 < N) (kk : ∀ c, c < N → Q [.int (nI c)] (I, L, g_R s, 306)) : pm_W (g_P ys) 273 0 [.ref 275, .long q, .retAddr 0, .retAddr 0, .retAddr 0, .retAddr 0] [] (I, L, g_R s, 306) (0, 0) Q := by
  have sb := sZ_bd (f := fun c => I 296 c) hf hN
  have loop : ∀ d c, c + d + 1 = N → ∀ l : Int64, l.toInt = q.toInt - sZ (fun c => I 296 c) c → pm_W (g_P ys) 273 5 [.ref 275, .long q, .retAddr 0, .long l, .retAddr 0, .int (nI c)] [] (I, L, g_R s, 306) (0, 0) Q := by
    intro d
    induction d with
    | zero =>
      intro c hc l hl
      have hx := hf c (by omega)
      have e : N = c + 1 := by omega
      rw [e, sZ] at hq
      refine ps_lload rfl rfl ?_
      refine ps_aload rfl rfl ?_
      refine ps_gfr 11 28 rfl rfl rfl rfl rfl (rfl) ?_
      refine ps_iload rfl rfl ?_
      refine ps_iald (c) rfl rfl rfl (rfl) (by omega) ?_
      refine ps_ar rfl rfl rfl rfl rfl ?_
      refine ps_ar rfl rfl rfl rfl rfl ?_
      refine ps_ift rfl (by rw [lc_lt]; exact decide_eq_true (Int64.lt_iff_toInt_lt.mpr (by rw [Int32.toInt_toInt64]; show l.toInt < (I 296 c).toInt; omega))) ?_
      refine ps_iload rfl rfl ?_
      refine ps_iret rfl rfl ?_
      exact kk _ (by omega)
    | succ d ih =>
      intro c hc l hl
      have hx := hf c (by omega)
      have sc := sZ_bd (f := fun c => I 296 c) (n := c) (fun j hj => hf j (by omega)) (by omega)
      refine ps_lload rfl rfl ?_
      refine ps_aload rfl rfl ?_
      refine ps_gfr 11 28 rfl rfl rfl rfl rfl (rfl) ?_
      refine ps_iload rfl rfl ?_
      refine ps_iald (c) rfl rfl rfl (rfl) (by omega) ?_
      refine ps_ar rfl rfl rfl rfl rfl ?_
      refine ps_ar rfl rfl rfl rfl rfl ?_
      refine ps_if rfl (fun hd => ?_) (fun hd => ?_)
      · refine ps_iload rfl rfl ?_
        refine ps_iret rfl rfl ?_
        exact kk _ (by omega)
      · rw [lc_lt] at hd
        have hd := of_decide_eq_false hd
        have hd : ¬ l.toInt < (I 296 c).toInt := fun q => hd (Int64.lt_iff_toInt_lt.mpr (by rw [Int32.toInt_toInt64]; exact q))
        refine ps_lload rfl rfl ?_
        refine ps_aload rfl rfl ?_
        refine ps_gfr 11 28 rfl rfl rfl rfl rfl (rfl) ?_
        refine ps_iload rfl rfl ?_
        refine ps_iald (c) rfl rfl rfl (rfl) (by omega) ?_
        refine ps_ar rfl rfl rfl rfl rfl ?_
        refine ps_ar rfl rfl rfl rfl rfl ?_
        refine ps_lstore rfl rfl ?_
        refine ps_iinc rfl rfl ?_
        refine ps_goto rfl ?_
        rw [show nI c + Int32.ofInt 1 = nI (c + 1) from nI_1 c]
        have e := l_sub (x := l) (y := (I 296 c).toInt64) (by rw [Int32.toInt_toInt64]; omega) (by rw [Int32.toInt_toInt64]; omega)
        rw [Int32.toInt_toInt64] at e
        exact ih (c + 1) (by omega) _ (by show (l - (I 296 c).toInt64).toInt = _; rw [e, sZ]; omega)
  refine ps_lload rfl rfl ?_
  refine ps_lstore rfl rfl ?_
  refine pw_c rfl ?_
  refine ps_istore rfl rfl ?_
  exact loop (N - 1) 0 (by omega) q (by rw [sZ]; omega)
end IY
section IZ
variable {ys : List Int32}
abbrev shW : sx_W := [(50, .ofNat 0, .ofNat 1), (50, .ofNat 24, .ofNat 26), (70, .ofNat 0, .ofNat 288), (71, .ofNat 0, .ofNat 288), (72, .ofNat 0, .ofNat 288), (50, .ofNat 32, .ofNat 34), (76, .ofNat 0, .ofNat 288), (73, .ofNat 0, .ofNat 288)]
theorem k_shots : xk ys kh_272_0 := by
  intro h vs Q iv va fa kk
  obtain ⟨I0, L0, s0, rfl⟩ := x_form iv
  obtain ⟨_, c1, rfl, ⟨a, rfl, ha, _⟩, va1⟩ := vas_c va
  obtain ⟨_, c2, rfl, ⟨x1, rfl, _⟩, va2⟩ := vas_c va1
  obtain ⟨_, c3, rfl, ⟨x2, rfl, _⟩, va3⟩ := vas_c va2
  obtain ⟨_, c4, rfl, ⟨x3, rfl, _⟩, va4⟩ := vas_c va3
  cases vas_n va4
  cases ref_M ha
  have fin : ∀ (r : Int32) h', sx_IV xT xtg xPH h' → sx_fr xtg xVP shW (false, false) (I0, L0, g_R s0, 306) h' → Q [.int r] h' := fun r h' iv' fr' => kk _ _ iv' (fr_wk (by decide) fr') ⟨_, List.mem_cons_self, po_f⟩
  refine sg_by (sg_sh0_t ys (k_laysShadows (Or.inl rfl))) sg_sh0_b iv (lc := [.ref 275, .int x1, .int x2, .int x3, .retAddr 0, .retAddr 0, .retAddr 0, .retAddr 0, .retAddr 0, .retAddr 0]) (sc := []) (gc := []) ⟨va_M, va_f, va_f, va_f, trivial, trivial, trivial, trivial, trivial, trivial, trivial⟩ trivial trivial fas_n (fun v h' iv' fr' q => ?_) (fun st hst lc' sc' h' iv' fr' ps => ?_)
  · obtain ⟨o, ho, po⟩ := q
    rcases List.mem_cons.mp ho with rfl | ho
    · obtain ⟨w0, l1, rfl, m0, ps1⟩ := mxs_c po.1
      cases mxs_n ps1
      obtain ⟨x, rfl, _⟩ := m0
      exact fin _ _ iv' (fr_wk (by decide) fr')
    · cases ho
  · rcases List.mem_cons.mp hst with rfl | hst
    · obtain ⟨p1, p2, p3, _⟩ := ps
      obtain ⟨w0, l1, rfl, m0, p1⟩ := mxs_c p1
      obtain ⟨w1, l2, rfl, m1, p1⟩ := mxs_c p1
      obtain ⟨w2, l3, rfl, m2, p1⟩ := mxs_c p1
      obtain ⟨w3, l4, rfl, m3, p1⟩ := mxs_c p1
      obtain ⟨w4, l5, rfl, _, p1⟩ := mxs_c p1
      obtain ⟨w5, l6, rfl, _, p1⟩ := mxs_c p1
      obtain ⟨w6, l7, rfl, _, p1⟩ := mxs_c p1
      obtain ⟨w7, l8, rfl, _, p1⟩ := mxs_c p1
      obtain ⟨w8, l9, rfl, _, p1⟩ := mxs_c p1
      obtain ⟨w9, l0, rfl, _, p1⟩ := mxs_c p1
      cases mxs_n p1
      cases mxs_n p2
      cases mx_0 m0
      cases mx_0 m1
      cases mx_0 m2
      cases mx_0 m3
      obtain ⟨J, L, s, rfl⟩ := x_form iv'
      have fr1 := fr_wk (W2 := shW) (by decide) fr'
      obtain ⟨_, _, fl⟩ := f275 p3 (f := (0, 24, .ofNat 0, .ofNat 5, 1)) (by simp) rfl
      obtain ⟨k, w, v, hz, hp⟩ := flag_pl (Or.inl rfl) fl
      have hp : mPl J k w v := hp
      have hu : J 275 24 = nI k := i_nat hz
      obtain ⟨hk, hw, hv, hw0, hv0, hwv⟩ := id hp
      have hwv0 : 0 < w * v := Nat.mul_pos hw0 hv0
      have hf : ∀ c, c < w * v → 0 ≤ (J 296 c).toInt ∧ (J 296 c).toInt ≤ 16083 := fun c hc => (lB_0 iv' c (by omega)).2
      obtain ⟨sb1, sb2, sb3⟩ := sZ_bd (f := fun c => J 296 c) hf hwv
      generalize hS : suI (fun c => J 296 c) (w * v) = S at sb3
      -- its end
      have en : ∀ I', rAg 301 J I' → ∀ u5 u6 (cn : Int32) u8 u9, pm_W (g_P ys) 272 213 [.ref 275, .int x1, .int x2, .int x3, .int S, u5, u6, .int cn, u8, u9] [] (I', L, g_R s, 306) (0, 0) Q := by
        intro I' ag u5 u6 cn u8 u9
        have hp' := rAg_mPl ag (by decide) hp
        have hu' : I' 275 24 = nI k := by rw [rAg_o ag (by decide)]; exact hu
        obtain ⟨g1, g2⟩ := iv_row (b := 301) (by decide) (by decide) rfl (W := shW) (by decide) (false, false) iv' ag
        refine ps_aload rfl rfl ?_
        refine ps_aload rfl rfl ?_
        refine ps_gfr 11 37 rfl rfl rfl rfl rfl (rfl) ?_
        refine pw_k rfl rfl rfl rfl ⟨Nat.zero_le _, Nat.zero_le _⟩ ?_
        refine M_decodesAny (fun _ => rfl) hu' hp' ?_
        intro I2 ag2
        obtain ⟨g3, g4⟩ := iv_row (b := 298) (by decide) (by decide) rfl (W := shW) (by decide) (false, false) g1 ag2
        have fr3 := sx_fr_trans fr1 (sx_fr_trans g2 g4)
        have fs := fas_tr (h' := (I2, L, g_R s, 306)) (ws' := [.int x1, .int x2, .int x3, .int S, u5, u6, .int cn, u8, u9]) p3 (fun j => by show I2 275 j = J 275 j; rw [rAg_o ag2 (by decide), rAg_o ag (by decide)]) (fun l z q => g4.2.1 rfl l z (g2.2.1 rfl l z q)) (fs' := [(0, 0, .ofNat 0, .ofNat 0, 0), (0, 14, .ofNat 1, .ofNat 6, 0), (0, 24, .ofNat 0, .ofNat 5, 1), (0, 25, .ofNat 0, .ofNat 0, 0), (0, 26, .ofNat 0, .ofNat 0, 0)]) (fun f hf => by
          simp only [List.mem_cons, List.not_mem_nil, or_false] at hf
          rcases hf with rfl | rfl | rfl | rfl | rfl <;> exact ⟨by simp, rfl⟩)
        refine sg_by (sg_sh9_t ys (k_wideOf (Or.inl rfl)) (k_cellsOf (Or.inl rfl))) sg_sh9_b g3 (lc := [.ref 275, .int x1, .int x2, .int x3, .int S, u5, u6, .int cn, u8, u9]) (sc := []) (gc := []) ⟨va_M, va_f, va_f, va_f, trivial, trivial, trivial, va_f, trivial, trivial, trivial⟩ trivial trivial fs (fun v h' iv9 fr9 q => ?_) (fun st hst => by cases hst)
        obtain ⟨o, ho, po⟩ := q
        rcases List.mem_cons.mp ho with rfl | ho
        · obtain ⟨w0, l1, rfl, m0, ps1⟩ := mxs_c po.1
          cases mxs_n ps1
          obtain ⟨x, rfl, _⟩ := m0
          exact fin _ _ iv9 (sx_fr_trans fr3 (fr_wk (by decide) fr9))
        · cases ho
      refine ps_aload rfl rfl ?_
      refine ps_aload rfl rfl ?_
      refine ps_gfr 11 28 rfl rfl rfl rfl rfl (rfl) ?_
      refine pw_c rfl ?_
      refine pw_k rfl rfl rfl rfl ⟨Nat.zero_le _, Nat.zero_le _⟩ ?_
      refine M_sumWhole hu hp ?_
      rw [hS]
      refine ps_istore rfl rfl ?_
      refine ps_iload rfl rfl ?_
      refine ps_if rfl (fun hd => ?_) (fun hd => ?_)
      · have hd : ¬ S = 0 := of_decide_eq_true hd
        have S0 : 0 < S.toInt := by
          have : ¬ S.toInt = 0 := fun q => hd ((i_eq _ _).mpr q)
          omega
        have S64 : S.toInt64.toInt = S.toInt := Int32.toInt_toInt64 _
        have shot : ∀ (d c : Nat), x1.toInt - (c : Int) ≤ (d : Int) → ((c : Int) ≤ x1.toInt ∨ c = 0) → ∀ I', rAg 301 J I' → ∀ (q : Int64) (cn : Int32) u9, pm_W (g_P ys) 272 132 [.ref 275, .int x1, .int x2, .int x3, .int S, .long q, .retAddr 0, .int cn, .int (nI c), u9] [] (I', L, g_R s, 306) (0, 0) Q := by
          intro d
          induction d with
          | zero =>
            intro c hd hc I' ag q cn u9
            have bx := i_bd x1
            refine ps_iload rfl rfl ?_
            refine ps_iload rfl rfl ?_
            refine ps_icmpt rfl (decide_eq_true ((i_le _ _).mpr (by rw [nI_toInt (by omega)]; omega))) ?_
            exact en _ ag _ _ _ _ _
          | succ d ih =>
            intro c hd hc I' ag q cn u9
            have bx := i_bd x1
            by_cases hx : x1.toInt ≤ (c : Int)
            · refine ps_iload rfl rfl ?_
              refine ps_iload rfl rfl ?_
              refine ps_icmpt rfl (decide_eq_true ((i_le _ _).mpr (by rw [nI_toInt (by omega)]; exact hx))) ?_
              exact en _ ag _ _ _ _ _
            · have hf' : ∀ c, c < w * v → 0 ≤ (I' 296 c).toInt ∧ (I' 296 c).toInt ≤ 16083 := fun c hc => by rw [rAg_o ag (by decide)]; exact hf c hc
              have sE : sZ (fun c => I' 296 c) (w * v) = S.toInt := by
                rw [sb3, show (fun c => I' 296 c) = (fun c => J 296 c) from funext (fun c => rAg_o ag (by decide))]
              have n2 : ∀ (b : Int32) (q : Int64) u9 I', rAg 301 J I' → pm_W (g_P ys) 272 204 [.ref 275, .int x1, .int x2, .int x3, .int S, .long q, .retAddr 0, .int cn, .int (nI c), u9] [.int b, .int cn] (I', L, g_R s, 306) (0, 0) Q := by
                intro b q u9 I' ag
                refine ps_ar rfl rfl rfl rfl rfl ?_
                refine ps_istore rfl rfl ?_
                refine ps_iinc rfl rfl ?_
                refine ps_goto rfl ?_
                rw [show nI c + Int32.ofInt 1 = nI (c + 1) from nI_1 c]
                exact ih (c + 1) (by omega) (Or.inl (by omega)) _ ag _ _ _
              have n1 : ∀ (b : Int32) (q : Int64) z, z < w * v → pm_W (g_P ys) 272 185 [.ref 275, .int x1, .int x2, .int x3, .int S, .long q, .retAddr 0, .int cn, .int (nI c), .int (nI z)] [.int b, .int (I' 301 z), .int (nI z), .ref 301] (I', L, g_R s, 306) (0, 0) Q := by
                intro b q z hz
                have ag2 : rAg 301 J (pm_u I' 301 z (I' 301 z + b)) := rAg_u ag (by omega)
                refine ps_ar rfl rfl rfl rfl rfl ?_
                refine ps_iast (z) rfl rfl rfl (rfl) (by omega) ?_
                show pm_W (g_P ys) 272 187 _ _ (pm_u I' 301 z (I' 301 z + b), L, g_R s, 306) (0, 0) Q
                refine ps_iload rfl rfl ?_
                refine ps_aload rfl rfl ?_
                refine ps_gfr 11 27 rfl rfl rfl rfl rfl (rfl) ?_
                refine ps_iload rfl rfl ?_
                refine ps_bald (z) rfl rfl (Or.inr rfl) rfl (rfl) (by omega) ?_
                refine ps_if rfl (fun hc => ?_) (fun hc => ?_)
                · refine pw_c rfl ?_
                  exact n2 _ _ _ _ ag2
                · refine pw_c rfl ?_
                  refine ps_goto rfl ?_
                  exact n2 _ _ _ _ ag2
              have n0 : ∀ (q : Int64), pm_W (g_P ys) 272 150 [.ref 275, .int x1, .int x2, .int x3, .int S, .long q, .retAddr 0, .int cn, .int (nI c), u9] [] (I', L, g_R s, 306) (0, 0) Q := by
                intro q
                have hr := l_rem (x := q) (y := S.toInt64) (by rw [S64]; exact S0)
                have hb := tmod_bounds (a := q.toInt) S0
                rw [S64] at hr
                refine ps_aload rfl rfl ?_
                refine ps_lload rfl rfl ?_
                refine ps_iload rfl rfl ?_
                refine ps_ar rfl rfl rfl rfl rfl ?_
                refine ps_lrem rfl (fun e => by rw [e] at S64; exact absurd S64 (by show ¬ (0 : Int) = _; omega)) ?_
                refine pw_k rfl rfl rfl rfl ⟨Nat.zero_le _, Nat.zero_le _⟩ ?_
                refine M_cellOf (N := w * v) hwv hf' (by rw [hr, sE]; exact hb.2) (by rw [hr]; omega) hwv0 ?_
                intro z hz
                refine ps_istore rfl rfl ?_
                refine ps_aload rfl rfl ?_
                refine ps_gfr 11 37 rfl rfl rfl rfl rfl (rfl) ?_
                refine ps_iload rfl rfl ?_
                refine ps_ar rfl rfl rfl rfl rfl ?_
                refine ps_iald (z) rfl rfl rfl (rfl) (by omega) ?_
                refine ps_aload rfl rfl ?_
                refine ps_gfr 11 27 rfl rfl rfl rfl rfl (rfl) ?_
                refine ps_iload rfl rfl ?_
                refine ps_bald (z) rfl rfl (Or.inr rfl) rfl (rfl) (by omega) ?_
                refine ps_if rfl (fun hc => ?_) (fun hc => ?_)
                · refine pw_c rfl ?_
                  exact n1 _ _ _ hz
                · refine pw_c rfl ?_
                  refine ps_goto rfl ?_
                  exact n1 _ _ _ hz
              refine ps_iload rfl rfl ?_
              refine ps_iload rfl rfl ?_
              refine ps_icmpf rfl (decide_eq_false (fun q => by have q := (i_le _ _).mp q; rw [nI_toInt (by omega)] at q; omega)) ?_
              refine pw_c rfl ?_
              refine ps_lload rfl rfl ?_
              refine ps_ar rfl rfl rfl rfl rfl ?_
              refine pw_c rfl ?_
              refine ps_lrem rfl (by decide) ?_
              refine ps_lstore rfl rfl ?_
              exact n0 _
        have cl : ∀ d c, c + d = 289 → ∀ I', rAg 301 J I' → pm_W (g_P ys) 272 100 [.ref 275, .int x1, .int x2, .int x3, .int S, .int (nI c), w6, w7, w8, w9] [] (I', L, g_R s, 306) (0, 0) Q := by
          intro d
          induction d with
          | zero =>
            intro c hc I' ag
            have hc : c = 289 := by omega
            subst hc
            refine ps_iload rfl rfl ?_
            refine pw_c rfl ?_
            refine ps_icmpt rfl (by decide) ?_
            refine ps_iload rfl rfl ?_
            refine ps_ar rfl rfl rfl rfl rfl ?_
            refine ps_lstore rfl rfl ?_
            refine pw_c rfl ?_
            refine ps_istore rfl rfl ?_
            refine pw_c rfl ?_
            refine ps_istore rfl rfl ?_
            exact shot x1.toInt.toNat 0 (by omega) (Or.inr rfl) _ ag _ _ _
          | succ d ih =>
            intro c hc I' ag
            refine ps_iload rfl rfl ?_
            refine pw_c rfl ?_
            refine ps_icmpf rfl (decide_eq_false (nI_ge (b := 289) (by omega) (by omega))) ?_
            refine ps_aload rfl rfl ?_
            refine ps_gfr 11 37 rfl rfl rfl rfl rfl (rfl) ?_
            refine ps_iload rfl rfl ?_
            refine pw_c rfl ?_
            refine ps_iast (c) rfl rfl rfl (rfl) (by omega) ?_
            refine ps_iinc rfl rfl ?_
            refine ps_goto rfl ?_
            rw [show nI c + Int32.ofInt 1 = nI (c + 1) from nI_1 c]
            exact ih (c + 1) (by omega) _ (rAg_u ag (by omega))
        refine pw_c rfl ?_
        refine ps_istore rfl rfl ?_
        exact cl 289 0 (by omega) _ rAg_refl
      · refine sg_by (sg_sh5_t ys) sg_sh5_b iv' (lc := [.ref 275, .int x1, .int x2, .int x3, .int S, w5, w6, w7, w8, w9]) (sc := []) (gc := []) ⟨va_M, va_f, va_f, va_f, va_f, trivial, trivial, trivial, trivial, trivial, trivial⟩ trivial trivial fas_n (fun v h' iv9 fr9 q => ?_) (fun st hst => by cases hst)
        obtain ⟨o, ho, po⟩ := q
        rcases List.mem_cons.mp ho with rfl | ho
        · obtain ⟨w0, l1, rfl, m0, ps1⟩ := mxs_c po.1
          cases mxs_n ps1
          obtain ⟨x, rfl, _⟩ := m0
          exact fin _ _ iv9 (sx_fr_trans fr1 (fr_wk (by decide) fr9))
        · cases ho
    · cases hst
end IZ
