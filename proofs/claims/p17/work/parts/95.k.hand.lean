/-! BY HAND: the class's makeSquare, cell, coarse, what is sought -/
section JC
variable {ys : List Int32} {h : pm_H} {ws : List Value} {fs : List sx_F} {Q : List Value → pm_H → Prop}
theorem fas_d {a j : Nat} {lo hi : Int} (h1 : lo ≤ (h.1 a j).toInt) (h2 : (h.1 a j).toInt ≤ hi) (k : sx_fas xVP h (.ref a :: ws) fs) : sx_fas xVP h (.ref a :: ws) ((0, j, lo, hi, 0) :: fs) := by
  intro f hf
  rcases List.mem_cons.mp hf with rfl | hf
  · exact ⟨a, rfl, h1, h2, Or.inl rfl⟩
  · exact k f hf
theorem va_r {a t : Nat} (ha : xtg a = t) (h0 : 0 < t) : sx_va xtg xVP h (.inl (2, .ofNat 0, .ofNat 0, t)) (.ref a) := ⟨a, rfl, ha, by have := xtg_lt ha h0; omega⟩
theorem va_n {n b : Nat} (hn : n ≤ b) (hb : b < 2147483648) : sx_va xtg xVP h (.inl (0, .ofNat 0, .ofNat b, 0)) (.int (nI n)) := ⟨nI n, rfl, by rw [nI_toInt (by omega)]; show (0 : Int) ≤ _; omega, by rw [nI_toInt (by omega)]; show _ ≤ (b : Int); omega, Or.inl rfl⟩
theorem fr_2 {W : sx_W} {h h' : pm_H} (k : sx_fr xtg xVP W (false, false) h h') : sx_fr xtg xVP W (false, true) h h' := ⟨k.1, k.2.1, fun q => (by cases q)⟩
theorem tag_B {a : Nat} (e : xtg a = 1) : a = 0 := tag_one (t := 1) rfl (by decide) e
theorem k_makeSquare : xk ys kh_63_0 := by
  intro h vs Q iv va fa kk
  obtain ⟨_, c1, rfl, ⟨a, rfl, ha, _⟩, va1⟩ := vas_c va
  obtain ⟨_, c2, rfl, ⟨x, rfl, _⟩, va2⟩ := vas_c va1
  cases vas_n va2
  have hs : pm_sh (g_P ys) h a = some (.inl 9) := shp_of iv ha rfl
  refine ps_aload rfl rfl ?_
  refine ps_iload rfl rfl ?_
  refine ps_iload rfl rfl ?_
  refine pv_k rfl rfl rfl rfl rfl (by first | assumption | rfl) rfl ⟨Nat.zero_le _, Nat.zero_le _⟩ ?_
  refine B_resize iv ha x x ?_
  intro w v hw hv hwv hx
  obtain ⟨g1, g2, g3⟩ := rsz_iv iv ha hw hv hwv
  have wb := g3.b
  have e : w = v := by
    rcases hx with ⟨q1, q2⟩ | ⟨q1, q2⟩
    · exact nI_inj (by omega) (by omega) (q1.symm.trans q2)
    · omega
  subst e
  have w17 : w ≤ 17 := by
    by_cases q : w ≤ 17
    · exact q
    · have := Nat.mul_le_mul (show 18 ≤ w by omega) (show 18 ≤ w by omega)
      omega
  have tw := nI_toInt (n := w) (by omega)
  have e1 : ((rsz h a w w).1 a 4) = nI w := g3.1
  have e2 : ((rsz h a w w).1 a 5) = nI w := g3.2.1
  show pm_W (g_P ys) 63 6 [.ref a, .int x, .retAddr 0, .retAddr 0, .retAddr 0, .retAddr 0, .retAddr 0] [] (rsz h a w w) (0, 0) Q
  refine sg_by (sg_sq_t ys) sg_sq_b g1 (lc := [.ref a, .int x, .retAddr 0, .retAddr 0, .retAddr 0, .retAddr 0, .retAddr 0]) (sc := []) (gc := []) ⟨va_r ha (by omega), va_f, trivial, trivial, trivial, trivial, trivial, trivial⟩ trivial trivial (fas_d (by rw [e1, tw]; show (1 : Int) ≤ _; omega) (by rw [e1, tw]; show _ ≤ (17 : Int); omega) (fas_d (by rw [e2, tw]; show (1 : Int) ≤ _; omega) (by rw [e2, tw]; show _ ≤ (17 : Int); omega) fas_n)) (fun v h' iv9 fr9 q => ?_) (fun st hst => by cases hst)
  obtain ⟨o, ho, po⟩ := q
  rcases List.mem_cons.mp ho with rfl | ho
  · cases mxs_n po.1
    exact kk _ _ iv9 (sx_fr_trans (fr_wk (by decide) g2) (fr_wk (by decide) fr9)) ⟨_, List.mem_cons_self, po_0⟩
  · cases ho
theorem k_cell : xk ys kh_89_0 := by
  intro h vs Q iv va fa kk
  obtain ⟨_, c1, rfl, ⟨a, rfl, ha, _⟩, va1⟩ := vas_c va
  obtain ⟨_, c2, rfl, ⟨x1, rfl, _⟩, va2⟩ := vas_c va1
  obtain ⟨_, c3, rfl, ⟨x2, rfl, _⟩, va3⟩ := vas_c va2
  obtain ⟨_, c4, rfl, ⟨x3, rfl, _⟩, va4⟩ := vas_c va3
  obtain ⟨_, c5, rfl, ⟨x4, rfl, _⟩, va5⟩ := vas_c va4
  cases vas_n va5
  cases tag_B ha
  have fin : ∀ (r : Int32) h', sx_IV xT xtg xPH h' → sx_fr xtg xVP [(1, .ofNat 10, .ofNat 10), (36, .ofNat 9, .ofNat 11), (39, .ofNat 0, .ofNat 288)] (false, false) h h' → Q [.int r] h' := fun r h' iv' fr' => kk _ _ iv' (fr_wk (by decide) fr') ⟨_, List.mem_cons_self, po_f⟩
  refine sg_by (sg_ce0_t ys) sg_ce0_b iv (lc := [.ref 0, .int x1, .int x2, .int x3, .int x4, .retAddr 0, .retAddr 0]) (sc := []) (gc := []) ⟨va_r rfl (by omega), va_f, va_f, va_f, va_f, trivial, trivial, trivial⟩ trivial trivial fas_n (fun v h1 iv1 fr1 q => ?_) (fun st hst lc' sc' h1 iv1 fr1 ps => ?_)
  · obtain ⟨o, ho, po⟩ := q
    rcases List.mem_cons.mp ho with rfl | ho
    · obtain ⟨w0, l1, rfl, m0, ps1⟩ := mxs_c po.1
      cases mxs_n ps1
      obtain ⟨x, rfl, _⟩ := m0
      exact fin _ _ iv1 (fr_wk (by decide) fr1)
    · cases ho
  · rcases List.mem_cons.mp hst with rfl | hst
    · obtain ⟨p1, p2, p3, _⟩ := ps
      obtain ⟨w0, l1, rfl, m0, p1a⟩ := mxs_c p1
      obtain ⟨w1, l2, rfl, m1, p1b⟩ := mxs_c p1a
      obtain ⟨w2, l3, rfl, m2, p1c⟩ := mxs_c p1b
      obtain ⟨w3, l4, rfl, m3, p1d⟩ := mxs_c p1c
      obtain ⟨w4, l5, rfl, m4, p1e⟩ := mxs_c p1d
      obtain ⟨w5, l6, rfl, ⟨p, rfl, hpt, _⟩, p1f⟩ := mxs_c p1e
      obtain ⟨w6, l7, rfl, _, p1g⟩ := mxs_c p1f
      cases mxs_n p1g
      cases mxs_n p2
      cases mx_0 m0
      cases mx_0 m1
      cases mx_0 m2
      cases mx_0 m3
      cases mx_0 m4
      have hs : pm_sh (g_P ys) h1 p = some (.inl 9) := shp_of iv1 hpt rfl
      obtain ⟨w, v, hp⟩ := cPl_of iv1 hpt
      obtain ⟨hwb, hvb⟩ := hp.b
      obtain ⟨-, -, -, hw0, hv0, hwv⟩ := id hp
      have no : pm_W (g_P ys) 89 39 [.ref 0, .int x1, .int x2, .int x3, .int x4, .ref p, w6] [.int 0] h1 (0, 0) Q := by
        refine ps_iff rfl (by decide) ?_
        refine sg_by (sg_ce1_t ys) sg_ce1_b iv1 (lc := [.ref 0, .int x1, .int x2, .int x3, .int x4, .ref p, w6]) (sc := []) (gc := []) ⟨va_r rfl (by omega), va_f, va_f, va_f, va_f, va_r hpt (by omega), trivial, trivial⟩ trivial trivial fas_n (fun v h9 iv9 fr9 q => ?_) (fun st hst => by cases hst)
        obtain ⟨o, ho, po⟩ := q
        rcases List.mem_cons.mp ho with rfl | ho
        · obtain ⟨w0, l1, rfl, m0, ps1⟩ := mxs_c po.1
          cases mxs_n ps1
          obtain ⟨x, rfl, _⟩ := m0
          exact fin _ _ iv9 (sx_fr_trans (fr_wk (by decide) fr1) (fr_wk (by decide) fr9))
        · cases ho
      refine ps_aload rfl rfl ?_
      refine ps_iload rfl rfl ?_
      refine ps_iload rfl rfl ?_
      refine pv_k rfl rfl rfl rfl rfl (by first | assumption | rfl) rfl ⟨Nat.zero_le _, Nat.zero_le _⟩ ?_
      refine B_has iv1 hpt hp x2 x3 no ?_
      intro i j hi hj hiw hjv
      subst hi
      subst hj
      have hjw : w * (j + 1) ≤ w * v := Nat.mul_le_mul_left w (by omega)
      rw [Nat.mul_succ] at hjw
      refine ps_ift rfl (by decide) ?_
      refine ps_iload rfl rfl ?_
      refine ps_aload rfl rfl ?_
      refine ps_gfi 9 4 rfl rfl rfl (by first | assumption | rfl) rfl ?_
      rw [hp.1]
      refine ps_ar rfl rfl rfl rfl rfl ?_
      refine ps_iload rfl rfl ?_
      refine ps_ar rfl rfl rfl rfl rfl ?_
      rw [show nI j * nI w + nI i = nI (j * w + i) from by rw [pk_mul, nI_add]]
      have hb : j * w + i ≤ 288 := by rw [Nat.mul_comm j w]; omega
      refine ps_istore rfl rfl ?_
      refine sg_by (sg_ce2_t ys (k_addShifted (by decide) (by decide) rfl rfl)) sg_ce2_b iv1 (lc := [.ref 0, .int x1, .int (nI i), .int (nI j), .int x4, .ref p, .int (nI (j * w + i))]) (sc := []) (gc := []) ⟨va_r rfl (by omega), va_f, va_f, va_f, va_f, va_r hpt (by omega), va_n hb (by omega), trivial⟩ trivial trivial fas_n (fun v h9 iv9 fr9 q => ?_) (fun st hst => by cases hst)
      obtain ⟨o, ho, po⟩ := q
      rcases List.mem_cons.mp ho with rfl | ho
      · obtain ⟨w0, l1, rfl, m0, ps1⟩ := mxs_c po.1
        cases mxs_n ps1
        obtain ⟨x, rfl, _⟩ := m0
        exact fin _ _ iv9 (sx_fr_trans (fr_wk (by decide) fr1) (fr_wk (by decide) fr9))
      · cases ho
    · cases hst
abbrev ccW : sx_W := [(1, .ofNat 10, .ofNat 10), (40, .ofNat 12, .ofNat 12), (40, .ofNat 15, .ofNat 18), (41, .ofNat 0, .ofNat 288), (42, .ofNat 0, .ofNat 288), (43, .ofNat 0, .ofNat 288), (44, .ofNat 0, .ofNat 288)]
theorem k_cCoarse : xk ys kh_164_0 := by
  intro h vs Q iv va fa kk
  obtain ⟨_, c1, rfl, ⟨a, rfl, ha, _⟩, va1⟩ := vas_c va
  obtain ⟨_, c2, rfl, ⟨x1, rfl, _⟩, va2⟩ := vas_c va1
  obtain ⟨_, c3, rfl, ⟨x2, rfl, _⟩, va3⟩ := vas_c va2
  cases vas_n va3
  cases tag_B ha
  have fin : ∀ (r : Int32) h', sx_IV xT xtg xPH h' → sx_fr xtg xVP ccW (false, true) h h' → Q [.int r] h' := fun r h' iv' fr' => kk _ _ iv' (fr_wk (by decide) fr') ⟨_, List.mem_cons_self, po_f⟩
  have no : pm_W (g_P ys) 164 9 [.ref 0, .int x1, .int x2, .retAddr 0] [] h (0, 0) Q := by
    refine sg_by (sg_co1_t ys) sg_co1_b iv (lc := [.ref 0, .int x1, .int x2, .retAddr 0]) (sc := []) (gc := []) ⟨va_r rfl (by omega), va_f, va_f, trivial, trivial⟩ trivial trivial fas_n (fun v h9 iv9 fr9 q => ?_) (fun st hst => by cases hst)
    obtain ⟨o, ho, po⟩ := q
    rcases List.mem_cons.mp ho with rfl | ho
    · obtain ⟨w0, l1, rfl, m0, ps1⟩ := mxs_c po.1
      cases mxs_n ps1
      obtain ⟨x, rfl, _⟩ := m0
      exact fin _ _ iv9 (fr_2 (fr_wk (by decide) fr9))
    · cases ho
  refine ps_iload rfl rfl ?_
  refine pw_c rfl ?_
  refine ps_icmp rfl (fun hx1 => ?_) (fun hx1 => ?_)
  · exact no
  · have hx1 : ¬ x1 < 2 := of_decide_eq_false hx1
    have m2 : 2 ≤ x1.toInt := by
      have q : ¬ x1.toInt < (2 : Int32).toInt := fun q => hx1 ((i_lt _ _).mpr q)
      have q' : ¬ x1.toInt < 2 := q
      omega
    refine ps_iload rfl rfl ?_
    refine ps_if rfl (fun hx2 => ?_) (fun hx2 => ?_)
    · have hx2 : (0 : Int32) ≤ x2 := of_decide_eq_true hx2
      have k0 : 0 ≤ x2.toInt := (i_le _ _).mp hx2
      refine sg_by (sg_co2_t ys k_cIndexOf (k_addShifted (by decide) (by decide) rfl rfl)) sg_co2_b iv (lc := [.ref 0, .int x1, .int x2, .retAddr 0]) (sc := []) (gc := []) ⟨va_r rfl (by omega), va_f, va_f, trivial, trivial⟩ trivial trivial fas_n (fun v h1 iv1 fr1 q => ?_) (fun st hst lc' sc' h1 iv1 fr1 ps => ?_)
      · obtain ⟨o, ho, po⟩ := q
        rcases List.mem_cons.mp ho with rfl | ho
        · obtain ⟨w0, l1, rfl, m0, ps1⟩ := mxs_c po.1
          cases mxs_n ps1
          obtain ⟨x, rfl, _⟩ := m0
          exact fin _ _ iv1 (fr_wk (by decide) fr1)
        · cases ho
      · rcases List.mem_cons.mp hst with rfl | hst
        · obtain ⟨p1, p2, p3, _⟩ := ps
          obtain ⟨w0, l1, rfl, m0, p1a⟩ := mxs_c p1
          obtain ⟨w1, l2, rfl, m1, p1b⟩ := mxs_c p1a
          obtain ⟨w2, l3, rfl, m2', p1c⟩ := mxs_c p1b
          obtain ⟨w3, l4, rfl, _, p1d⟩ := mxs_c p1c
          cases mxs_n p1d
          cases mxs_n p2
          cases mx_0 m0
          cases mx_0 m1
          cases mx_0 m2'
          have fr1 := fr_wk (W2 := ccW) (by decide) fr1
          obtain ⟨m, hm⟩ : ∃ m : Nat, x1.toInt = (m : Int) := ⟨x1.toInt.toNat, by omega⟩
          obtain ⟨c, hc⟩ : ∃ c : Nat, x2.toInt = (c : Int) := ⟨x2.toInt.toNat, by omega⟩
          have bm := i_bd x1
          have bc := i_bd x2
          cases i_nat hm
          cases i_nat hc
          have hsB : pm_sh (g_P ys) h1 0 = some (.inl 0) := shp_of iv1 (a := 0) (t := 1) rfl rfl
          obtain ⟨cm, hcm, hcmt, _⟩ := iv1.2.2.1 0 8 40 rfl
          have hsc : pm_sh (g_P ys) h1 cm = some (.inl 10) := shp_of iv1 hcmt rfl
          obtain ⟨p, hpr, hpt, _⟩ := iv1.2.2.1 cm 13 36 (by rw [hcmt]; rfl)
          obtain ⟨f, hf, hft, _⟩ := iv1.2.2.1 cm 2 43 (by rw [hcmt]; rfl)
          have hs : pm_sh (g_P ys) h1 p = some (.inl 9) := shp_of iv1 hpt rfl
          obtain ⟨w, v, hp⟩ := cPl_of iv1 hpt
          obtain ⟨hwb, hvb⟩ := hp.b
          obtain ⟨-, -, -, hw0, hv0, hwv⟩ := id hp
          have m1 : ¬ nI m = 0 := nI_ne0 (by omega) (by omega)
          have no5 : pm_W (g_P ys) 164 61 [.ref 0, .int (nI m), .int (nI c), w3] [] h1 (0, 0) Q := by
            refine sg_by (sg_co3_t ys) sg_co3_b iv1 (lc := [.ref 0, .int (nI m), .int (nI c), w3]) (sc := []) (gc := []) ⟨va_r rfl (by omega), va_f, va_f, trivial, trivial⟩ trivial trivial fas_n (fun v h9 iv9 fr9 q => ?_) (fun st hst => by cases hst)
            obtain ⟨o, ho, po⟩ := q
            rcases List.mem_cons.mp ho with rfl | ho
            · obtain ⟨w0, l1, rfl, m0, ps1⟩ := mxs_c po.1
              cases mxs_n ps1
              obtain ⟨x, rfl, _⟩ := m0
              exact fin _ _ iv9 (sx_fr_trans fr1 (fr_2 (fr_wk (by decide) fr9)))
            · cases ho
          refine ps_aload rfl rfl ?_
          refine ps_gfr 0 8 rfl rfl rfl (by first | assumption | rfl) rfl (by assumption) ?_
          refine ps_gfr 10 13 rfl rfl rfl (by first | assumption | rfl) rfl (by assumption) ?_
          refine ps_gfi 9 4 rfl rfl rfl (by first | assumption | rfl) rfl ?_
          rw [hp.1]
          refine ps_iload rfl rfl ?_
          refine ps_rem rfl (m1) ?_
          rw [nI_rem (by omega) (by omega) (by omega)]
          refine ps_if rfl (fun h4 => ?_) (fun h4 => ?_)
          · exact no5
          · refine ps_iload rfl rfl ?_
            refine ps_aload rfl rfl ?_
            refine ps_gfr 0 8 rfl rfl rfl (by first | assumption | rfl) rfl (by assumption) ?_
            refine ps_gfr 10 13 rfl rfl rfl (by first | assumption | rfl) rfl (by assumption) ?_
            refine ps_gfi 9 6 rfl rfl rfl (by first | assumption | rfl) rfl ?_
            rw [hp.2.2.1]
            refine ps_iload rfl rfl ?_
            refine ps_div rfl (m1) ?_
            rw [nI_div (by omega) (by omega)]
            refine ps_icmp rfl (fun h5 => ?_) (fun h5 => ?_)
            · have h5 : nI c < nI (w * v / m) := of_decide_eq_true h5
              have h5 : c < w * v / m := (nI_ltI (by omega) (by have := Nat.div_le_self (w * v) m; omega)).mp h5
              have cm2 : (c + 1) * m ≤ w * v := Nat.le_trans (Nat.mul_le_mul_right m h5) (Nat.div_mul_le_self _ _)
              rw [Nat.add_mul, Nat.one_mul] at cm2
              refine ps_aload rfl rfl ?_
              refine ps_aload rfl rfl ?_
              refine ps_gfr 0 8 rfl rfl rfl (by first | assumption | rfl) rfl (by assumption) ?_
              refine ps_gfr 10 2 rfl rfl rfl (by first | assumption | rfl) rfl (by assumption) ?_
              refine ps_iload rfl rfl ?_
              refine ps_iload rfl rfl ?_
              refine ps_ar rfl rfl rfl rfl rfl ?_
              rw [show nI c * nI m = nI (c * m) from pk_mul _ _]
              refine ps_iload rfl rfl ?_
              refine pw_k rfl rfl rfl rfl ⟨Nat.zero_le _, Nat.zero_le _⟩ ?_
              refine B_sumAny iv1 hft rfl (by omega) ?_
              intro r
              show pm_W (g_P ys) 164 82 [.ref 0, .int (nI m), .int (nI c), w3] [.int r, .ref 0] h1 (0, 0) Q
              refine sg_by (sg_co4_t ys) sg_co4_b iv1 (lc := [.ref 0, .int (nI m), .int (nI c), w3]) (sc := [.int r, .ref 0]) (gc := []) ⟨va_r rfl (by omega), va_f, va_f, trivial, trivial⟩ ⟨va_f, va_r rfl (by omega), trivial⟩ trivial fas_n (fun v h9 iv9 fr9 q => ?_) (fun st hst => by cases hst)
              obtain ⟨o, ho, po⟩ := q
              rcases List.mem_cons.mp ho with rfl | ho
              · obtain ⟨w0, l1, rfl, m0, ps1⟩ := mxs_c po.1
                cases mxs_n ps1
                obtain ⟨x, rfl, _⟩ := m0
                exact fin _ _ iv9 (sx_fr_trans fr1 (fr_2 (fr_wk (by decide) fr9)))
              · cases ho
            · exact no5
        · cases hst
    · exact no
end JC
