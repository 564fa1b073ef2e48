/-! BY HAND: how a text is read, fourth: turned plates, products of two -/
section II
variable {ys : List Int32} {I : Nat → Nat → Int32} {L : Nat → Nat → Int64} {s : Nat → Option Nat} {Q : List Value → pm_H → Prop} {n : Nat}
abbrev telI (I : Nat → Nat → Int32) (n : Nat) (x y z u : Int32) : Nat → Nat → Int32 := pm_u (pm_u (pm_u (pm_u I 279 (7 * n + 2) x) 279 (7 * n + 3) y) 279 (7 * n + 4) z) 279 (7 * n + 5) u
theorem tells_iv (iv : sx_IV xT xtg xPH (I, L, g_R s, 306)) (hz : (I 275 15).toInt = (n : Int)) (hn6 : n < 6) {f a b c : Nat} (hf : f ≤ 6) (ha : a ≤ 289) (hb : b ≤ 289) (hc : c ≤ 99) (hOK : fOK f a b) : sx_IV xT xtg xPH (telI I n (nI f) (nI a) (nI b) (nI c), L, g_R s, 306) ∧ sx_fr xtg xVP [(54, .ofNat 0, .ofNat 41)] (false, false) (I, L, g_R s, 306) (telI I n (nI f) (nI a) (nI b) (nI c), L, g_R s, 306) ∧ nAg I (telI I n (nI f) (nI a) (nI b) (nI c)) n ∧ xVP (telI I n (nI f) (nI a) (nI b) (nI c), L, g_R s, 306) 6 (n : Int) := by
  have tf := nI_toInt (n := f) (by omega)
  have ta := nI_toInt (n := a) (by omega)
  have tb := nI_toInt (n := b) (by omega)
  have tc := nI_toInt (n := c) (by omega)
  have wr : ∀ j : Nat, j < 42 → sx_wr (xsb (xtg 279)) j j (0, 289) = true := by
    have q : (List.range 42).all (fun j => sx_wr (xsb (xtg 279)) j j (0, 289)) = true := by decide +kernel
    intro j hj
    exact List.all_eq_true.mp q j (List.mem_range.mpr hj)
  have wk : ∀ j : Nat, j < 42 → sx_wk [(54, .ofNat 0, .ofNat 41)] (xtg 279) j j = true := by
    have q : (List.range 42).all (fun j => sx_wk [(54, .ofNat 0, .ofNat 41)] (xtg 279) j j) = true := by decide +kernel
    intro j hj
    exact List.all_eq_true.mp q j (List.mem_range.mpr hj)
  have ag : nAg I (telI I n (nI f) (nI a) (nI b) (nI c)) n := nAg_u (nAg_u (nAg_u (nAg_u nAg_refl (by omega)) (by omega)) (by omega)) (by omega)
  have fm : nFm (telI I n (nI f) (nI a) (nI b) (nI c)) n := by
    unfold nFm telI
    rw [pu_n (by omega), pu_n (by omega), pu_n (by omega), pu_s, pu_n (by omega), pu_n (by omega), pu_s, pu_n (by omega), pu_s, tf, ta, tb]
    exact hOK
  have sz : ∀ w v, nPl I n w v → ∃ w v, nPl (telI I n (nI f) (nI a) (nI b) (nI c)) n w v := by
    intro w v k
    refine ⟨w, v, ?_⟩
    unfold nPl telI at *
    rw [pu_n (by omega), pu_n (by omega), pu_n (by omega), pu_n (by omega), pu_n (by omega), pu_n (by omega), pu_n (by omega), pu_n (by omega)]
    exact k
  have e15 : (telI I n (nI f) (nI a) (nI b) (nI c)) 275 15 = I 275 15 := ag.1 _ _ (by decide)
  refine ⟨iv_new iv (ib_u (lo := 0) (hi := 289) (ib_u (lo := 0) (hi := 289) (ib_u (lo := 0) (hi := 289) (ib_u (lo := 0) (hi := 289) iv.1 (wr _ (by omega)) (by omega) (by omega)) (wr _ (by omega)) (by omega) (by omega)) (wr _ (by omega)) (by omega) (by omega)) (wr _ (by omega)) (by omega) (by omega)) (nAg_K ag hz iv.2.2.2.2.2), ⟨fr_u (fr_u (fr_u (fr_u (fun _ _ _ => rfl) (wk _ (by omega))) (wk _ (by omega))) (wk _ (by omega))) (wk _ (by omega)), fun _ _ _ k => nAg_V ag hz sz (fun _ => fm) k, fun _ => rfl⟩, ag, n, rfl, ?_, hn6, fm⟩
  show (n : Int) ≤ ((telI I n (nI f) (nI a) (nI b) (nI c)) 275 15).toInt
  rw [e15, hz]
  exact Int.le_refl _
theorem k_makesTurn : xk ys (302, [.inl (2, .ofNat 0, .ofNat 0, 50), .inl (0, .ofNat 0, .ofNat 5, 4), .inl (0, .ofNat 0, .ofNat 99, 0), .inl (0, .ofNat 0, .ofNat 99, 0)], [(0, 15, .ofNat 0, .ofNat 5, 0)], nwW, (false, false), [([], [(0, 15, .ofNat 0, .ofNat 5, 5)], [], [])]) := by
  intro h vs Q iv va fa kk
  obtain ⟨I, L, s, rfl⟩ := x_form iv
  obtain ⟨_, c1, rfl, ⟨a, rfl, ha, _⟩, va1⟩ := vas_c va
  obtain ⟨_, c2, rfl, ⟨x, rfl, _, _, x3⟩, va2⟩ := vas_c va1
  obtain ⟨_, c3, rfl, ⟨xa, rfl, a1, a2, _⟩, va3⟩ := vas_c va2
  obtain ⟨_, c4, rfl, ⟨xb, rfl, b1, b2, _⟩, va4⟩ := vas_c va3
  cases vas_n va4
  cases ref_M ha
  obtain ⟨p1, p2, _⟩ := fas1 fa rfl
  obtain ⟨n, hn5, hn⟩ := nat_bd (b := 5) p1 p2
  have hn : I 275 15 = nI n := hn
  have tn : (I 275 15).toInt = (n : Int) := by rw [hn, nI_toInt (by omega)]
  obtain ⟨aa, ha9, ea⟩ := nat_bd (b := 99) a1 a2
  obtain ⟨bb, hb9, eb⟩ := nat_bd (b := 99) b1 b2
  have y4 : xVP (I, L, g_R s, 306) 4 x.toInt := x3.resolve_left (by decide)
  obtain ⟨m, hz⟩ : ∃ m : Nat, x.toInt = (m : Int) := by
    obtain ⟨m, _, _, e, _⟩ := y4
    exact ⟨m, e⟩
  rw [hz] at y4
  cases i_nat hz
  cases ea
  cases eb
  obtain ⟨w, v, mlt, hp⟩ := v4_get y4
  have mlt : (m : Int) < (I 275 15).toInt := mlt
  have hp : nPl I m w v := hp
  obtain ⟨hm6, hw, hv, hw0, hv0, hwv⟩ := id hp
  have hb := nPl_b hp
  obtain ⟨g1, g2, ag1, k6⟩ := tells_iv (L := L) (s := s) iv tn (by omega) (f := 2) (a := m) (b := aa) (c := bb) (by omega) (by omega) (by omega) (by omega) ⟨by omega, fun q => by omega, fun _ => by omega, fun q => by omega, fun q => by omega⟩
  have n1 : (telI I n (nI 2) (nI m) (nI aa) (nI bb)) 275 15 = nI n := (ag1.1 _ _ (by decide)).trans hn
  have hw1 : (telI I n (nI 2) (nI m) (nI aa) (nI bb)) 279 (7 * m) = nI w := (ag1.2 _ (by omega)).trans hw
  have hv1 : (telI I n (nI 2) (nI m) (nI aa) (nI bb)) 279 (7 * m + 1) = nI v := (ag1.2 _ (by omega)).trans hv
  refine ps_aload rfl rfl ?_
  refine pw_c rfl ?_
  refine ps_iload rfl rfl ?_
  refine ps_iload rfl rfl ?_
  refine ps_iload rfl rfl ?_
  refine pw_k rfl rfl rfl rfl ⟨Nat.zero_le _, Nat.zero_le _⟩ ?_
  refine M_tells hn (by omega) _ _ _ _ ?_
  show pm_W (g_P ys) 302 8 [.ref 275, .int (nI m), .int (nI aa), .int (nI bb), .retAddr 0, .retAddr 0, .retAddr 0, .retAddr 0, .retAddr 0] [] (telI I n (nI 2) (nI m) (nI aa) (nI bb), L, g_R s, 306) (0, 0) Q
  refine ps_aload rfl rfl ?_
  refine ps_gfr 11 5 rfl rfl rfl rfl rfl (rfl) ?_
  refine pw_c rfl ?_
  refine ps_iload rfl rfl ?_
  refine ps_ar rfl rfl rfl rfl rfl ?_
  refine pw_c rfl ?_
  refine ps_ar rfl rfl rfl rfl rfl ?_
  refine ps_iald (7 * m) rfl rfl rfl (by simp only [ni_lit, ni_l0, pk_mul, nI_add, Nat.add_zero]) (by omega) ?_
  rw [show ((telI I n (nI 2) (nI m) (nI aa) (nI bb), L, g_R s, 306) : pm_H).1 279 (7 * m) = nI w from hw1]
  refine ps_istore rfl rfl ?_
  refine ps_aload rfl rfl ?_
  refine ps_gfr 11 5 rfl rfl rfl rfl rfl (rfl) ?_
  refine pw_c rfl ?_
  refine ps_iload rfl rfl ?_
  refine ps_ar rfl rfl rfl rfl rfl ?_
  refine pw_c rfl ?_
  refine ps_ar rfl rfl rfl rfl rfl ?_
  refine ps_iald (7 * m + 1) rfl rfl rfl (by simp only [ni_lit, ni_l0, pk_mul, nI_add, Nat.add_zero]) (by omega) ?_
  rw [show ((telI I n (nI 2) (nI m) (nI aa) (nI bb), L, g_R s, 306) : pm_H).1 279 (7 * m + 1) = nI v from hv1]
  refine ps_istore rfl rfl ?_
  refine ps_aload rfl rfl ?_
  refine ps_iload rfl rfl ?_
  refine ps_iload rfl rfl ?_
  refine pw_k rfl rfl rfl rfl ⟨Nat.zero_le _, Nat.zero_le _⟩ ?_
  refine M_sizesIV g1 n1 (by omega) hw0 hv0 hwv k6 ?_
  intro I2 g3 g4 pl2 k5 ag2
  have n2 : I2 275 15 = nI n := (ag2.1 _ _ (by decide)).trans n1
  have outer : ∀ d y, y + d = v → ∀ u1 u2 h', sx_IV xT xtg xPH h' → sx_fr xtg xVP [(56, .ofNat 0, .ofNat 1733), (58, .ofNat 0, .ofNat 1733)] (false, false) (I2, L, g_R s, 306) h' → (u1 = .retAddr 0 ∨ ∃ q, u1 = .int q) → pm_W (g_P ys) 302 45 [.ref 275, .int (nI m), .int (nI aa), .int (nI bb), .int (nI w), .int (nI v), .int (nI y), u1, u2] [] h' (0, 0) Q := by
    intro d
    induction d with
    | zero =>
      intro y hy u1 u2 h' iv' fr' _
      obtain ⟨I', L', s', rfl⟩ := x_form iv'
      refine ps_iload rfl rfl ?_
      refine ps_iload rfl rfl ?_
      refine ps_icmpt rfl (decide_eq_true (nI_le (by omega) (by omega))) ?_
      refine ps_vret rfl rfl ?_
      refine kk _ _ iv' (sx_fr_trans (fr_wk (by decide) g2) (sx_fr_trans (fr_wk (by decide) g4) (fr_wk (by decide) fr'))) ⟨_, List.mem_cons_self, trivial, fun f hf => ?_, fun _ q => (by cases q), fun _ q => (by cases q)⟩
      rcases List.mem_cons.mp hf with rfl | hf
      · have e15 : (I' 275 15) = nI n := (fr_p fr' (by decide)).trans n2
        have t15 : (I' 275 15).toInt = (n : Int) := by rw [e15, nI_toInt (by omega)]
        refine ⟨275, rfl, by show (0 : Int) ≤ (I' 275 15).toInt; omega, by show (I' 275 15).toInt ≤ (5 : Int); omega, Or.inr ?_⟩
        show xVP (I', L', g_R s', 306) 5 (I' 275 15).toInt
        rw [t15]
        exact fr'.2.1 rfl 5 _ k5
      · cases hf
    | succ d ih =>
      intro y hy u1 u2 h' iv' fr' _
      have h1 : w * (y + 1) ≤ w * v := Nat.mul_le_mul_left w (by omega)
      rw [Nat.mul_succ] at h1
      have inner : ∀ e x, x + e = w → ∀ u2 h', sx_IV xT xtg xPH h' → sx_fr xtg xVP [(56, .ofNat 0, .ofNat 1733), (58, .ofNat 0, .ofNat 1733)] (false, false) (I2, L, g_R s, 306) h' → pm_W (g_P ys) 302 55 [.ref 275, .int (nI m), .int (nI aa), .int (nI bb), .int (nI w), .int (nI v), .int (nI y), .int (nI x), u2] [] h' (0, 0) Q := by
        intro e
        induction e with
        | zero =>
          intro x hx u2 h' iv' fr'
          refine ps_iload rfl rfl ?_
          refine ps_iload rfl rfl ?_
          refine ps_icmpt rfl (decide_eq_true (nI_le (by omega) (by omega))) ?_
          refine ps_iinc rfl rfl ?_
          refine ps_goto rfl ?_
          rw [show nI y + Int32.ofInt 1 = nI (y + 1) from nI_1 y]
          exact ih (y + 1) (by omega) _ _ _ iv' fr' (Or.inr ⟨_, rfl⟩)
        | succ e ih2 =>
          intro x hx u2 h' iv' fr'
          obtain ⟨I', L', s', rfl⟩ := x_form iv'
          have hc := cxy_lt hw0 hv0 ((x : Int) - aa) ((y : Int) - bb)
          have e15 : (I' 275 15) = nI n := (fr_p fr' (by decide)).trans n2
          have t15 : (I' 275 15).toInt = (n : Int) := by rw [e15, nI_toInt (by omega)]
          refine ps_iload rfl rfl ?_
          refine ps_iload rfl rfl ?_
          refine ps_icmpf rfl (decide_eq_false (nI_ge (by omega) (by omega))) ?_
          refine pw_c rfl ?_
          refine ps_iload rfl rfl ?_
          refine ps_ar rfl rfl rfl rfl rfl ?_
          refine ps_iload rfl rfl ?_
          refine ps_iload rfl rfl ?_
          refine ps_ar rfl rfl rfl rfl rfl ?_
          refine ps_iload rfl rfl ?_
          rw [show nI y - nI bb = iI ((y : Int) - bb) by rw [← iI_nat y, ← iI_nat bb, iI_sub], ← iI_nat v]
          refine pw_k rfl rfl rfl rfl ⟨Nat.zero_le _, Nat.zero_le _⟩ ?_
          refine M_round (by omega) (by omega) ?_
          refine ps_iload rfl rfl ?_
          refine ps_ar rfl rfl rfl rfl rfl ?_
          refine ps_ar rfl rfl rfl rfl rfl ?_
          refine ps_iload rfl rfl ?_
          refine ps_iload rfl rfl ?_
          refine ps_ar rfl rfl rfl rfl rfl ?_
          refine ps_iload rfl rfl ?_
          rw [show nI x - nI aa = iI ((x : Int) - aa) by rw [← iI_nat x, ← iI_nat aa, iI_sub]]
          have key : pm_W (g_P ys) 302 86 [.ref 275, .int (nI m), .int (nI aa), .int (nI bb), .int (nI w), .int (iI v), .int (nI y), .int (nI x), u2] [.int (iI w), .int (iI ((x : Int) - aa)), .int (289 * nI m + iI (((y : Int) - bb) % v) * nI w)] (I', L', g_R s', 306) (0, 0) Q := by
            refine pw_k rfl rfl rfl rfl ⟨Nat.zero_le _, Nat.zero_le _⟩ ?_
            refine M_round (by omega) (by omega) ?_
            refine ps_ar rfl rfl rfl rfl rfl ?_
            have e : (289 : Int32) * nI m + iI (((y : Int) - bb) % v) * nI w + iI (((x : Int) - aa) % w) = nI (289 * m + cxy w v ((x : Int) - aa) ((y : Int) - bb)) := by
              rw [show (289 : Int32) = iI 289 from rfl, ← iI_nat m, ← iI_nat w, ← iI_nat (289 * m + cxy w v ((x : Int) - aa) ((y : Int) - bb)), iI_mul, iI_mul, iI_add, iI_add, Int.natCast_add, cxy_int hw0 hv0]
              congr 1
              omega
            rw [e]
            refine ps_istore rfl rfl ?_
            refine ps_aload rfl rfl ?_
            refine ps_iload rfl rfl ?_
            refine ps_iload rfl rfl ?_
            refine ps_ar rfl rfl rfl rfl rfl ?_
            refine ps_iload rfl rfl ?_
            refine ps_ar rfl rfl rfl rfl rfl ?_
            rw [show nI w * nI y + nI x = nI (w * y + x) by rw [pk_mul, nI_add]]
            have fl : ∀ z : Int32, sx_va xtg xVP (I', L', g_R s', 306) (.inl (0, .negSucc 2147483647, .ofNat 2147483647, 0)) (.int z) := fun z => ⟨z, rfl, by have := (i_bd z).1; show (-2147483648 : Int) ≤ _; omega, by have := (i_bd z).2; show _ ≤ (2147483647 : Int); omega, Or.inl rfl⟩
            have tm := nI_toInt (n := m) (by omega)
            have tc := nI_toInt (n := w * y + x) (by omega)
            have tf := nI_toInt (n := 289 * m + cxy w v ((x : Int) - aa) ((y : Int) - bb)) (by omega)
            refine sg_by (sg_turn_t ys) sg_turn_b iv' (gc := []) ⟨⟨275, rfl, rfl, by omega⟩, ⟨_, rfl, by rw [tm]; show (0 : Int) ≤ _; omega, by rw [tm]; show _ ≤ (5 : Int); omega, Or.inl rfl⟩, fl _, fl _, fl _, fl _, fl _, fl _, ⟨_, rfl, by rw [tf]; show (0 : Int) ≤ _; omega, by rw [tf]; show _ ≤ (1733 : Int); omega, Or.inl rfl⟩, trivial⟩ ⟨⟨_, rfl, by rw [tc]; show (0 : Int) ≤ _; omega, by rw [tc]; show _ ≤ (288 : Int); omega, Or.inl rfl⟩, ⟨275, rfl, rfl, by omega⟩, trivial⟩ trivial (fun f hf => ?_) (fun v h'' _ _ q => ?_) (fun st hst lc' sc' h'' iv'' fr'' ps => ?_)
            · rcases List.mem_cons.mp hf with rfl | hf
              · exact ⟨275, rfl, by show (0 : Int) ≤ (I' 275 15).toInt; omega, by show (I' 275 15).toInt ≤ (5 : Int); omega, Or.inl rfl⟩
              · cases hf
            · obtain ⟨o, ho, _⟩ := q
              cases ho
            · rcases List.mem_cons.mp hst with rfl | hst
              · obtain ⟨w0, l1, rfl, m0, ps1⟩ := mxs_c ps.1
                obtain ⟨w1, l2, rfl, m1, ps2⟩ := mxs_c ps1
                obtain ⟨w2, l3, rfl, m2, ps3⟩ := mxs_c ps2
                obtain ⟨w3, l4, rfl, m3, ps4⟩ := mxs_c ps3
                obtain ⟨w4, l5, rfl, m4, ps5⟩ := mxs_c ps4
                obtain ⟨w5, l6, rfl, m5, ps6⟩ := mxs_c ps5
                obtain ⟨w6, l7, rfl, m6, ps7⟩ := mxs_c ps6
                obtain ⟨w7, l8, rfl, m7, ps8⟩ := mxs_c ps7
                obtain ⟨w8, l9, rfl, m8, ps9⟩ := mxs_c ps8
                cases mxs_n ps9
                cases mxs_n ps.2.1
                cases mx_0 m0
                cases mx_0 m1
                cases mx_0 m2
                cases mx_0 m3
                cases mx_0 m4
                cases mx_0 m5
                cases mx_0 m6
                cases mx_0 m8
                obtain ⟨x', ex, rfl⟩ := mx_1 m7
                cases ex
                show pm_W (g_P ys) 302 55 _ _ _ _ _
                rw [show nI x + Int32.ofInt 1 = nI (x + 1) from nI_1 x, iI_nat v]
                exact ih2 (x + 1) (by omega) _ _ iv'' (sx_fr_trans fr' fr'')
              · cases hst
          rw [iI_nat w] at key
          exact key
      refine ps_iload rfl rfl ?_
      refine ps_iload rfl rfl ?_
      refine ps_icmpf rfl (decide_eq_false (nI_ge (by omega) (by omega))) ?_
      refine pw_c rfl ?_
      refine ps_istore rfl rfl ?_
      exact inner w 0 (by omega) _ _ iv' fr'
  refine pw_c rfl ?_
  refine ps_istore rfl rfl ?_
  exact outer v 0 (by omega) _ _ _ g3 (sx_fr_refl _ _ _ _ _) (Or.inl rfl)
/-- a product of two -/
theorem M_bothIV (iv : sx_IV xT xtg xPH (I, L, g_R s, 306)) (hn : I 275 15 = nI n) (hn6 : n < 6) {a b w v w2 v2 : Nat} (han : a < n) (hbn : b < n) (hpa : nPl I a w v) (hpb : nPl I b w2 v2) (hww : w * w2 ≤ 289) (kk : ∀ h', sx_IV xT xtg xPH h' → sx_fr xtg xVP nwW (false, false) (I, L, g_R s, 306) h' → xVP h' 5 (n : Int) → Q [] h') : pm_W (g_P ys) 304 0 [.ref 275, .int (nI a), .int (nI b), .retAddr 0, .retAddr 0, .retAddr 0, .retAddr 0] [] (I, L, g_R s, 306) (0, 0) Q := by
  have tn : (I 275 15).toInt = (n : Int) := by rw [hn, nI_toInt (by omega)]
  have hb1 := nPl_b hpa
  have hb2 := nPl_b hpb
  have hw0 := hpa.2.2.2.1
  have hv0 := hpb.2.2.2.1
  obtain ⟨g1, g2, ag1, k6⟩ := tells_iv (L := L) (s := s) iv tn hn6 (f := 4) (a := a) (b := b) (c := 0) (by omega) (by omega) (by omega) (by omega) ⟨by omega, fun q => by omega, fun _ => by omega, fun _ => by omega, fun q => by omega⟩
  have n1 : (telI I n (nI 4) (nI a) (nI b) (nI 0)) 275 15 = nI n := (ag1.1 _ _ (by decide)).trans hn
  have hw1 : (telI I n (nI 4) (nI a) (nI b) (nI 0)) 279 (7 * a) = nI w := (ag1.2 _ (by omega)).trans hpa.2.1
  have hv1 : (telI I n (nI 4) (nI a) (nI b) (nI 0)) 279 (7 * b) = nI w2 := (ag1.2 _ (by omega)).trans hpb.2.1
  refine ps_aload rfl rfl ?_
  refine pw_c rfl ?_
  refine ps_iload rfl rfl ?_
  refine ps_iload rfl rfl ?_
  refine pw_c rfl ?_
  refine pw_k rfl rfl rfl rfl ⟨Nat.zero_le _, Nat.zero_le _⟩ ?_
  refine M_tells hn hn6 _ _ _ _ ?_
  show pm_W (g_P ys) 304 8 [.ref 275, .int (nI a), .int (nI b), .retAddr 0, .retAddr 0, .retAddr 0, .retAddr 0] [] (telI I n (nI 4) (nI a) (nI b) (nI 0), L, g_R s, 306) (0, 0) Q
  refine ps_aload rfl rfl ?_
  refine ps_gfr 11 5 rfl rfl rfl rfl rfl (rfl) ?_
  refine pw_c rfl ?_
  refine ps_iload rfl rfl ?_
  refine ps_ar rfl rfl rfl rfl rfl ?_
  refine pw_c rfl ?_
  refine ps_ar rfl rfl rfl rfl rfl ?_
  refine ps_iald (7 * a) rfl rfl rfl (by simp only [ni_lit, ni_l0, pk_mul, nI_add, Nat.add_zero]) (by omega) ?_
  rw [show ((telI I n (nI 4) (nI a) (nI b) (nI 0), L, g_R s, 306) : pm_H).1 279 (7 * a) = nI w from hw1]
  refine ps_istore rfl rfl ?_
  refine ps_aload rfl rfl ?_
  refine ps_gfr 11 5 rfl rfl rfl rfl rfl (rfl) ?_
  refine pw_c rfl ?_
  refine ps_iload rfl rfl ?_
  refine ps_ar rfl rfl rfl rfl rfl ?_
  refine pw_c rfl ?_
  refine ps_ar rfl rfl rfl rfl rfl ?_
  refine ps_iald (7 * b) rfl rfl rfl (by simp only [ni_lit, ni_l0, pk_mul, nI_add, Nat.add_zero]) (by omega) ?_
  rw [show ((telI I n (nI 4) (nI a) (nI b) (nI 0), L, g_R s, 306) : pm_H).1 279 (7 * b) = nI w2 from hv1]
  refine ps_istore rfl rfl ?_
  refine ps_aload rfl rfl ?_
  refine ps_iload rfl rfl ?_
  refine ps_iload rfl rfl ?_
  refine pw_k rfl rfl rfl rfl ⟨Nat.zero_le _, Nat.zero_le _⟩ ?_
  refine M_sizesIV g1 n1 hn6 hw0 hv0 hww k6 ?_
  intro I2 g3 g4 pl2 k5 ag2
  have n2 : I2 275 15 = nI n := (ag2.1 _ _ (by decide)).trans n1
  have outer : ∀ d y, y + d = w2 → ∀ u1 h', sx_IV xT xtg xPH h' → sx_fr xtg xVP [(56, .ofNat 0, .ofNat 1733), (58, .ofNat 0, .ofNat 1733)] (false, false) (I2, L, g_R s, 306) h' → pm_W (g_P ys) 304 43 [.ref 275, .int (nI a), .int (nI b), .int (nI w), .int (nI w2), .int (nI y), u1] [] h' (0, 0) Q := by
    intro d
    induction d with
    | zero =>
      intro y hy u1 h' iv' fr'
      refine ps_iload rfl rfl ?_
      refine ps_iload rfl rfl ?_
      refine ps_icmpt rfl (decide_eq_true (nI_le (by omega) (by omega))) ?_
      refine ps_vret rfl rfl ?_
      exact kk _ iv' (sx_fr_trans (fr_wk (by decide) g2) (sx_fr_trans (fr_wk (by decide) g4) (fr_wk (by decide) fr'))) (fr'.2.1 rfl 5 _ k5)
    | succ d ih =>
      intro y hy u1 h' iv' fr'
      have h1 : w * (y + 1) ≤ w * w2 := Nat.mul_le_mul_left w (by omega)
      rw [Nat.mul_succ] at h1
      have inner : ∀ e x, x + e = w → ∀ h', sx_IV xT xtg xPH h' → sx_fr xtg xVP [(56, .ofNat 0, .ofNat 1733), (58, .ofNat 0, .ofNat 1733)] (false, false) (I2, L, g_R s, 306) h' → pm_W (g_P ys) 304 53 [.ref 275, .int (nI a), .int (nI b), .int (nI w), .int (nI w2), .int (nI y), .int (nI x)] [] h' (0, 0) Q := by
        intro e
        induction e with
        | zero =>
          intro x hx h' iv' fr'
          refine ps_iload rfl rfl ?_
          refine ps_iload rfl rfl ?_
          refine ps_icmpt rfl (decide_eq_true (nI_le (by omega) (by omega))) ?_
          refine ps_iinc rfl rfl ?_
          refine ps_goto rfl ?_
          rw [show nI y + Int32.ofInt 1 = nI (y + 1) from nI_1 y]
          exact ih (y + 1) (by omega) _ _ iv' fr'
        | succ e ih2 =>
          intro x hx h' iv' fr'
          obtain ⟨I', L', s', rfl⟩ := x_form iv'
          have e15 : (I' 275 15) = nI n := (fr_p fr' (by decide)).trans n2
          have t15 : (I' 275 15).toInt = (n : Int) := by rw [e15, nI_toInt (by omega)]
          refine ps_iload rfl rfl ?_
          refine ps_iload rfl rfl ?_
          refine ps_icmpf rfl (decide_eq_false (nI_ge (by omega) (by omega))) ?_
          refine ps_aload rfl rfl ?_
          refine ps_iload rfl rfl ?_
          refine ps_iload rfl rfl ?_
          refine ps_ar rfl rfl rfl rfl rfl ?_
          refine ps_iload rfl rfl ?_
          refine ps_ar rfl rfl rfl rfl rfl ?_
          rw [show nI w * nI y + nI x = nI (w * y + x) by rw [pk_mul, nI_add]]
          have fl : ∀ z : Int32, sx_va xtg xVP (I', L', g_R s', 306) (.inl (0, .negSucc 2147483647, .ofNat 2147483647, 0)) (.int z) := fun z => ⟨z, rfl, by have := (i_bd z).1; show (-2147483648 : Int) ≤ _; omega, by have := (i_bd z).2; show _ ≤ (2147483647 : Int); omega, Or.inl rfl⟩
          have ta := nI_toInt (n := a) (by omega)
          have tb := nI_toInt (n := b) (by omega)
          have ty := nI_toInt (n := y) (by omega)
          have tx := nI_toInt (n := x) (by omega)
          have tc := nI_toInt (n := w * y + x) (by omega)
          refine sg_by (sg_both_t ys) sg_both_b iv' (gc := []) ⟨⟨275, rfl, rfl, by omega⟩, ⟨_, rfl, by rw [ta]; show (0 : Int) ≤ _; omega, by rw [ta]; show _ ≤ (5 : Int); omega, Or.inl rfl⟩, ⟨_, rfl, by rw [tb]; show (0 : Int) ≤ _; omega, by rw [tb]; show _ ≤ (5 : Int); omega, Or.inl rfl⟩, fl _, fl _, ⟨_, rfl, by rw [ty]; show (0 : Int) ≤ _; omega, by rw [ty]; show _ ≤ (288 : Int); omega, Or.inl rfl⟩, ⟨_, rfl, by rw [tx]; show (0 : Int) ≤ _; omega, by rw [tx]; show _ ≤ (288 : Int); omega, Or.inl rfl⟩, trivial⟩ ⟨⟨_, rfl, by rw [tc]; show (0 : Int) ≤ _; omega, by rw [tc]; show _ ≤ (288 : Int); omega, Or.inl rfl⟩, ⟨275, rfl, rfl, by omega⟩, trivial⟩ trivial (fun f hf => ?_) (fun v h'' _ _ q => ?_) (fun st hst lc' sc' h'' iv'' fr'' ps => ?_)
          · rcases List.mem_cons.mp hf with rfl | hf
            · exact ⟨275, rfl, by show (0 : Int) ≤ (I' 275 15).toInt; omega, by show (I' 275 15).toInt ≤ (5 : Int); omega, Or.inl rfl⟩
            · cases hf
          · obtain ⟨o, ho, _⟩ := q
            cases ho
          · rcases List.mem_cons.mp hst with rfl | hst
            · obtain ⟨w0, l1, rfl, m0, ps1⟩ := mxs_c ps.1
              obtain ⟨w1, l2, rfl, m1, ps2⟩ := mxs_c ps1
              obtain ⟨w2, l3, rfl, m2, ps3⟩ := mxs_c ps2
              obtain ⟨w3, l4, rfl, m3, ps4⟩ := mxs_c ps3
              obtain ⟨w4, l5, rfl, m4, ps5⟩ := mxs_c ps4
              obtain ⟨w5, l6, rfl, m5, ps6⟩ := mxs_c ps5
              obtain ⟨w6, l7, rfl, m6, ps7⟩ := mxs_c ps6
              cases mxs_n ps7
              cases mxs_n ps.2.1
              cases mx_0 m0
              cases mx_0 m1
              cases mx_0 m2
              cases mx_0 m3
              cases mx_0 m4
              cases mx_0 m5
              obtain ⟨x', ex, rfl⟩ := mx_1 m6
              cases ex
              show pm_W (g_P ys) 304 53 _ _ _ _ _
              rw [show nI x + Int32.ofInt 1 = nI (x + 1) from nI_1 x]
              exact ih2 (x + 1) (by omega) _ iv'' (sx_fr_trans fr' fr'')
            · cases hst
      refine ps_iload rfl rfl ?_
      refine ps_iload rfl rfl ?_
      refine ps_icmpf rfl (decide_eq_false (nI_ge (by omega) (by omega))) ?_
      refine pw_c rfl ?_
      refine ps_istore rfl rfl ?_
      exact inner w 0 (by omega) _ iv' fr'
  refine pw_c rfl ?_
  refine ps_istore rfl rfl ?_
  exact outer w2 0 (by omega) _ _ g3 (sx_fr_refl _ _ _ _ _)
end II
