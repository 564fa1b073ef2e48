/-! BY HAND: a LINE (printed by gen95o.py) -/
/-- the number of a word that is no NAME -/
def kwF (x : Int32) : Int32 := if x = 17172101 then 0 else if x = 18935 then 1 else if x = 75411 then 2 else if x = 19636 then 3 else if x = 677454 then 4 else if x = 14503 then 5 else if x = 81544 then 6 else if x = 656049733 then 7 else if x = 653969509 then 8 else if x = 409204 then 9 else if x = 20596793 then 10 else if x = 66667 then 11 else if x = 22117 then 12 else -1
theorem kw_rng (x : Int32) : kwF x = 0 ∨ (8 ≤ (kwF x).toInt ∧ (kwF x).toInt ≤ 12) ∨ (¬ kwF x = 0 ∧ (kwF x).toInt < 8) := by
  by_cases e0 : x = 17172101
  · subst e0
    exact Or.inl rfl
  by_cases e1 : x = 18935
  · subst e1
    exact Or.inr (Or.inr (by decide))
  by_cases e2 : x = 75411
  · subst e2
    exact Or.inr (Or.inr (by decide))
  by_cases e3 : x = 19636
  · subst e3
    exact Or.inr (Or.inr (by decide))
  by_cases e4 : x = 677454
  · subst e4
    exact Or.inr (Or.inr (by decide))
  by_cases e5 : x = 14503
  · subst e5
    exact Or.inr (Or.inr (by decide))
  by_cases e6 : x = 81544
  · subst e6
    exact Or.inr (Or.inr (by decide))
  by_cases e7 : x = 656049733
  · subst e7
    exact Or.inr (Or.inr (by decide))
  by_cases e8 : x = 653969509
  · subst e8
    exact Or.inr (Or.inl (by decide))
  by_cases e9 : x = 409204
  · subst e9
    exact Or.inr (Or.inl (by decide))
  by_cases e10 : x = 20596793
  · subst e10
    exact Or.inr (Or.inl (by decide))
  by_cases e11 : x = 66667
  · subst e11
    exact Or.inr (Or.inl (by decide))
  by_cases e12 : x = 22117
  · subst e12
    exact Or.inr (Or.inl (by decide))
  have en : kwF x = -1 := by
    unfold kwF
    rw [if_neg e0, if_neg e1, if_neg e2, if_neg e3, if_neg e4, if_neg e5, if_neg e6, if_neg e7, if_neg e8, if_neg e9, if_neg e10, if_neg e11, if_neg e12]
  rw [en]
  exact Or.inr (Or.inr (by decide))
section JH
variable {ys : List Int32} {h : pm_H} {Q : List Value → pm_H → Prop}
theorem con1 {m c r : Nat} (K : xk ys (m, [.inl (0, .ofNat c, .ofNat c, 0)], [], [], (false, false), [([.inl (0, .ofNat r, .ofNat r, 0)], [], [], [])])) (iv : sx_IV xT xtg xPH h) {x : Int32} (hx : x.toInt = (c : Int)) (kk : ∀ h', sx_IV xT xtg xPH h' → sx_fr xtg xVP [] (false, false) h h' → Q [.int (nI r)] h') : pm_W (g_P ys) m 0 (pm_en [.int x] (pm_mxl (g_P ys) m)) [] h (0, 0) Q := by
  refine K h [.int x] Q iv ⟨⟨x, rfl, by rw [hx]; exact Int.le_refl _, by rw [hx]; exact Int.le_refl _, Or.inl rfl⟩, trivial⟩ (fun _ q => by cases q) (fun v h' iv' fr' q => ?_)
  obtain ⟨o, ho, po⟩ := q
  rcases List.mem_cons.mp ho with rfl | ho
  · obtain ⟨_, c1, rfl, ⟨y, rfl, y1, y2, _⟩, va1⟩ := vas_c po.1
    cases vas_n va1
    have e : y.toInt = (r : Int) := Int.le_antisymm y2 y1
    cases i_nat e
    exact kk _ iv' fr'
  · cases ho
theorem B_keyword (iv : sx_IV xT xtg xPH h) (x : Int32) (kk : ∀ h', sx_IV xT xtg xPH h' → sx_fr xtg xVP [] (false, false) h h' → Q [.int (kwF x)] h') : pm_W (g_P ys) 35 0 [.int x, .retAddr 0, .retAddr 0, .retAddr 0, .retAddr 0] [] h (0, 0) Q := by
  by_cases e0 : x = 17172101
  · subst e0
    exact con1 (kc_35_0_k ys) iv (c := 17172101) (r := 0) rfl kk
  by_cases e1 : x = 18935
  · subst e1
    exact con1 (kc_35_1_k ys) iv (c := 18935) (r := 1) rfl kk
  by_cases e2 : x = 75411
  · subst e2
    exact con1 (kc_35_2_k ys) iv (c := 75411) (r := 2) rfl kk
  by_cases e3 : x = 19636
  · subst e3
    exact con1 (kc_35_3_k ys) iv (c := 19636) (r := 3) rfl kk
  by_cases e4 : x = 677454
  · subst e4
    exact con1 (kc_35_4_k ys) iv (c := 677454) (r := 4) rfl kk
  by_cases e5 : x = 14503
  · subst e5
    exact con1 (kc_35_5_k ys) iv (c := 14503) (r := 5) rfl kk
  by_cases e6 : x = 81544
  · subst e6
    exact con1 (kc_35_6_k ys) iv (c := 81544) (r := 6) rfl kk
  by_cases e7 : x = 656049733
  · subst e7
    exact con1 (kc_35_7_k ys) iv (c := 656049733) (r := 7) rfl kk
  by_cases e8 : x = 653969509
  · subst e8
    exact con1 (kc_35_8_k ys) iv (c := 653969509) (r := 8) rfl kk
  by_cases e9 : x = 409204
  · subst e9
    exact con1 (kc_35_9_k ys) iv (c := 409204) (r := 9) rfl kk
  by_cases e10 : x = 20596793
  · subst e10
    exact con1 (kc_35_10_k ys) iv (c := 20596793) (r := 10) rfl kk
  by_cases e11 : x = 66667
  · subst e11
    exact con1 (kc_35_11_k ys) iv (c := 66667) (r := 11) rfl kk
  by_cases e12 : x = 22117
  · subst e12
    exact con1 (kc_35_12_k ys) iv (c := 22117) (r := 12) rfl kk
  have en : kwF x = -1 := by
    unfold kwF
    rw [if_neg e0, if_neg e1, if_neg e2, if_neg e3, if_neg e4, if_neg e5, if_neg e6, if_neg e7, if_neg e8, if_neg e9, if_neg e10, if_neg e11, if_neg e12]
  refine sg_by (sg_kw_t ys) sg_kw_b iv (lc := [.int x, .retAddr 0, .retAddr 0, .retAddr 0, .retAddr 0]) (sc := []) (gc := []) ⟨va_f, trivial, trivial, trivial, trivial, trivial⟩ trivial trivial fas_n (fun v h' iv' fr' q => ?_) (fun st hst => by cases hst)
  obtain ⟨o, ho, po⟩ := q
  have no : ∀ {c : Nat} {k : Int32}, k.toInt = (c : Int) → ¬ x = k → (∀ q, q ∈ [((0, .ofNat c, .ofNat c, 0) : Nat × Int × Int × Nat)] → sx_ga1 xVP h' ([.int x, .retAddr 0, .retAddr 0, .retAddr 0, .retAddr 0] ++ ([] ++ [])) q) → False := by
    intro c k hk hn g
    obtain ⟨y, e, y1, y2, _⟩ := g _ List.mem_cons_self
    cases e
    exact hn ((i_eq _ _).mpr (by rw [hk]; exact Int.le_antisymm y2 y1))
  rcases List.mem_cons.mp ho with rfl | ho
  · obtain ⟨w0, l1, rfl, ⟨y, rfl, y1, y2, _⟩, ps1⟩ := mxs_c po.1
    cases mxs_n ps1
    have e : y = -1 := (i_eq _ _).mpr (Int.le_antisymm y2 y1)
    rw [e, ← en]
    exact kk _ iv' fr'
  rcases List.mem_cons.mp ho with rfl | ho
  · exact (no (c := 17172101) (k := 17172101) rfl e0 po.2.2).elim
  rcases List.mem_cons.mp ho with rfl | ho
  · exact (no (c := 18935) (k := 18935) rfl e1 po.2.2).elim
  rcases List.mem_cons.mp ho with rfl | ho
  · exact (no (c := 20596793) (k := 20596793) rfl e10 po.2.2).elim
  rcases List.mem_cons.mp ho with rfl | ho
  · exact (no (c := 66667) (k := 66667) rfl e11 po.2.2).elim
  rcases List.mem_cons.mp ho with rfl | ho
  · exact (no (c := 22117) (k := 22117) rfl e12 po.2.2).elim
  rcases List.mem_cons.mp ho with rfl | ho
  · exact (no (c := 75411) (k := 75411) rfl e2 po.2.2).elim
  rcases List.mem_cons.mp ho with rfl | ho
  · exact (no (c := 19636) (k := 19636) rfl e3 po.2.2).elim
  rcases List.mem_cons.mp ho with rfl | ho
  · exact (no (c := 677454) (k := 677454) rfl e4 po.2.2).elim
  rcases List.mem_cons.mp ho with rfl | ho
  · exact (no (c := 14503) (k := 14503) rfl e5 po.2.2).elim
  rcases List.mem_cons.mp ho with rfl | ho
  · exact (no (c := 81544) (k := 81544) rfl e6 po.2.2).elim
  rcases List.mem_cons.mp ho with rfl | ho
  · exact (no (c := 656049733) (k := 656049733) rfl e7 po.2.2).elim
  rcases List.mem_cons.mp ho with rfl | ho
  · exact (no (c := 653969509) (k := 653969509) rfl e8 po.2.2).elim
  rcases List.mem_cons.mp ho with rfl | ho
  · exact (no (c := 409204) (k := 409204) rfl e9 po.2.2).elim
  · cases ho
end JH
section JI
variable {ys : List Int32} {I : Nat → Nat → Int32} {L : Nat → Nat → Int64} {s : Nat → Option Nat} {Q : List Value → pm_H → Prop} {h : pm_H}
def wrI (I : Nat → Nat → Int32) (x : Int32) (hr : Nat) : Nat → Nat → Int32 := pm_u (pm_u I 5 4 x) 5 5 (I 8 hr)
theorem B_wrong {hr : Nat} (hh : I 5 3 = nI hr) (h8 : hr ≤ 800) {x : Int32} (kk : Q [.int 0] (wrI I x hr, L, g_R s, 306)) : pm_W (g_P ys) 34 0 [.ref 5, .int x] [] (I, L, g_R s, 306) (0, 0) Q := by
  have q1 : pm_u I 5 4 x 5 3 = nI hr := by rw [pu_n (by decide)]; exact hh
  refine ps_aload rfl rfl ?_
  refine ps_iload rfl rfl ?_
  refine ps_pfi 2 4 rfl rfl rfl rfl rfl ?_
  show pm_W (g_P ys) 34 5 _ _ (pm_u I 5 4 x, L, g_R s, 306) (0, 0) Q
  refine ps_aload rfl rfl ?_
  refine ps_aload rfl rfl ?_
  refine ps_gfr 2 0 rfl rfl rfl rfl rfl (rfl) ?_
  refine ps_gfr 3 1 rfl rfl rfl rfl rfl (rfl) ?_
  refine ps_aload rfl rfl ?_
  refine ps_gfi 2 3 rfl rfl rfl rfl rfl ?_
  refine ps_iald (hr) rfl rfl rfl (q1) (by omega) ?_
  rw [show ((pm_u I 5 4 x, L, g_R s, 306) : pm_H).1 8 hr = I 8 hr from pu_o (I := I) (a := 5) (b := 8) (j := hr) (k := 4) (x := x) (by decide)]
  refine ps_pfi 2 5 rfl rfl rfl rfl rfl ?_
  refine pw_c rfl ?_
  refine ps_zret rfl rfl (Or.inl rfl) ?_
  exact kk
theorem wr_iv (iv : sx_IV xT xtg xPH (I, L, g_R s, 306)) {hr : Nat} (h8 : hr ≤ 800) {x : Int32} (x0 : 0 ≤ x.toInt) (x6 : x.toInt ≤ 6) : sx_IV xT xtg xPH (wrI I x hr, L, g_R s, 306) ∧ sx_fr xtg xVP [(6, .ofNat 3, .ofNat 5)] (false, false) (I, L, g_R s, 306) (wrI I x hr, L, g_R s, 306) := by
  have b := iv.1 8 hr (.ofNat 0, .ofNat 800, .ofNat 0, .ofNat 800) (by decide) (by show (0 : Int) ≤ _; omega) (by show _ ≤ (800 : Int); omega)
  have b1 : (0 : Int) ≤ (I 8 hr).toInt := b.1
  have b2 : (I 8 hr).toInt ≤ 800 := b.2
  have g := sx_mw_ok (xC []) iv (W := [(6, .ofNat 3, .ofNat 5)]) (D := (false, false)) (a := 5) (t := 6) (k := 4) (lo := 4) (hi := 4) (b := (0, 6)) (by decide) (by decide) (by decide) (by decide) (x := x) x0 x6
  have g2 := sx_mw_ok (xC []) g.1 (W := [(6, .ofNat 3, .ofNat 5)]) (D := (false, false)) (a := 5) (t := 6) (k := 5) (lo := 5) (hi := 5) (b := (-1, 800)) (by decide) (by decide) (by decide) (by decide) (x := I 8 hr) (by show (-1 : Int) ≤ _; omega) b2
  exact ⟨g2.1, sx_fr_trans g.2.1 g2.2.1⟩
theorem B_expect {hr : Nat} (hh : I 5 3 = nI hr) (h8 : hr ≤ 800) {k : Int32} (k0 : ¬ I 7 hr = k → ∀ x : Int32, x = (if I 7 hr = 1 then 1 else 2) → Q [.int 0] (wrI I x hr, L, g_R s, 306)) (hk : ¬ k = 1) (k1 : I 7 hr = k → Q [.int 1] (I, L, g_R s, 306)) : pm_W (g_P ys) 33 0 [.ref 5, .int k] [] (I, L, g_R s, 306) (0, 0) Q := by
  refine ps_aload rfl rfl ?_
  refine ps_gfr 2 0 rfl rfl rfl rfl rfl (rfl) ?_
  refine ps_gfr 3 0 rfl rfl rfl rfl rfl (rfl) ?_
  refine ps_aload rfl rfl ?_
  refine ps_gfi 2 3 rfl rfl rfl rfl rfl ?_
  refine ps_iald (hr) rfl rfl rfl (hh) (by omega) ?_
  refine pw_c rfl ?_
  refine ps_icmp rfl (fun h1 => ?_) (fun h1 => ?_)
  · have h1 : ¬ I 7 hr = 1 := of_decide_eq_true h1
    refine ps_aload rfl rfl ?_
    refine ps_gfr 2 0 rfl rfl rfl rfl rfl (rfl) ?_
    refine ps_gfr 3 0 rfl rfl rfl rfl rfl (rfl) ?_
    refine ps_aload rfl rfl ?_
    refine ps_gfi 2 3 rfl rfl rfl rfl rfl ?_
    refine ps_iald (hr) rfl rfl rfl (hh) (by omega) ?_
    refine ps_iload rfl rfl ?_
    refine ps_icmp rfl (fun h2 => ?_) (fun h2 => ?_)
    · have h2 : I 7 hr = k := of_decide_eq_true h2
      refine pw_c rfl ?_
      refine ps_goto rfl ?_
      refine ps_zret rfl rfl (Or.inr rfl) ?_
      exact k1 h2
    · have h2 : ¬ I 7 hr = k := of_decide_eq_false h2
      refine ps_aload rfl rfl ?_
      refine pw_c rfl ?_
      refine pw_k rfl rfl rfl rfl ⟨Nat.zero_le _, Nat.zero_le _⟩ ?_
      refine B_wrong hh h8 ?_
      refine ps_ift rfl (by decide) ?_
      refine pw_c rfl ?_
      refine ps_zret rfl rfl (Or.inl rfl) ?_
      exact k0 h2 2 (by rw [if_neg h1])
  · have h1 : ¬ ¬ I 7 hr = 1 := of_decide_eq_false h1
    have h1 : I 7 hr = 1 := Decidable.byContradiction h1
    refine ps_aload rfl rfl ?_
    refine pw_c rfl ?_
    refine pw_k rfl rfl rfl rfl ⟨Nat.zero_le _, Nat.zero_le _⟩ ?_
    refine B_wrong hh h8 ?_
    refine ps_zret rfl rfl (Or.inl rfl) ?_
    exact k0 (fun q => hk (q.symm.trans h1)) 1 (by rw [if_pos h1])
theorem here_lt (iv : sx_IV xT xtg xPH (I, L, g_R s, 306)) {hr : Nat} (h8 : hr ≤ 800) (hk : ¬ I 7 hr = 0) : hr ≤ 799 := by
  by_cases e : hr = 800
  · subst e
    have b := iv.1 7 800 (.ofNat 800, .ofNat 800, .ofNat 0, .ofNat 0) (by decide) (by decide) (by decide)
    have b1 : (0 : Int) ≤ (I 7 800).toInt := b.1
    have b2 : (I 7 800).toInt ≤ 0 := b.2
    exact absurd ((i_eq (I 7 800) 0).mpr (show _ = (0 : Int) from Int.le_antisymm b2 b1)) hk
  · omega
theorem B_lineWord (iv : sx_IV xT xtg xPH (I, L, g_R s, 306)) {b : Nat} (hb : xtg b = 25) {hr : Nat} (hh : I 5 3 = nI hr) (h8 : hr ≤ 800) (k0 : ∀ h', sx_IV xT xtg xPH h' → sx_fr xtg xVP [(6, .ofNat 3, .ofNat 5)] (false, false) (I, L, g_R s, 306) h' → Q [.int 0] h') (k1 : ∀ h', sx_IV xT xtg xPH h' → sx_fr xtg xVP [(6, .ofNat 3, .ofNat 5)] (false, false) (I, L, g_R s, 306) h' → hr ≤ 799 → ((kwF (I 10 hr) = 0 ∧ 0 ≤ (h'.1 b 3).toInt ∧ (h'.1 b 3).toInt ≤ 5) ∨ (8 ≤ (kwF (I 10 hr)).toInt ∧ (kwF (I 10 hr)).toInt ≤ 12)) → Q [.int 1] h') : pm_W (g_P ys) 32 0 [.ref 5, .ref b, .retAddr 0] [] (I, L, g_R s, 306) (0, 0) Q := by
  have wr : ∀ x : Int32, 0 ≤ x.toInt → x.toInt ≤ 6 → Q [.int 0] (wrI I x hr, L, g_R s, 306) := fun x x0 x6 => by
    obtain ⟨g1, g2⟩ := wr_iv iv h8 x0 x6
    exact k0 _ g1 g2
  have no : ¬ I 7 hr = 2 → ∀ x : Int32, x = (if I 7 hr = 1 then 1 else 2) → pm_W (g_P ys) 32 5 [.ref 5, .ref b, .retAddr 0] [.int 0] (wrI I x hr, L, g_R s, 306) (0, 0) Q := by
    intro _ x hx
    refine ps_iff rfl (by decide) ?_
    refine pw_c rfl ?_
    refine ps_zret rfl rfl (Or.inl rfl) ?_
    rw [hx]
    split
    · exact wr 1 (by decide) (by decide)
    · exact wr 2 (by decide) (by decide)
  refine ps_aload rfl rfl ?_
  refine pw_c rfl ?_
  refine pw_k rfl rfl rfl rfl ⟨Nat.zero_le _, Nat.zero_le _⟩ ?_
  refine B_expect (k := 2) hh h8 no (by decide) ?_
  intro hw
  have h9 := here_lt iv h8 (by rw [hw]; decide)
  refine ps_ift rfl (by decide) ?_
  refine ps_aload rfl rfl ?_
  refine ps_gfr 2 0 rfl rfl rfl rfl rfl (rfl) ?_
  refine ps_gfr 3 3 rfl rfl rfl rfl rfl (rfl) ?_
  refine ps_aload rfl rfl ?_
  refine ps_gfi 2 3 rfl rfl rfl rfl rfl ?_
  refine ps_iald (hr) rfl rfl rfl (hh) (by omega) ?_
  refine pw_k rfl rfl rfl rfl ⟨Nat.zero_le _, Nat.zero_le _⟩ ?_
  refine B_keyword iv _ ?_
  intro h1 iv1 fr1
  show pm_W (g_P ys) 32 25 _ [.int (kwF (I 10 hr))] h1 (0, 0) Q
  have hh1 : h1.1 5 3 = nI hr := (fr1.1 5 3 (fun q => by obtain ⟨_, m, _⟩ := q; cases m)).trans hh
  have fr1 := fr_wk (W2 := [(6, .ofNat 3, .ofNat 5)]) (by decide) fr1
  have t9 := nI_toInt (n := hr) (by omega)
  have F1 : sx_fas xVP h1 ([.ref 5, .ref b, .int (kwF (I 10 hr))] ++ ([] ++ [])) [(0, 3, .ofNat 0, .ofNat 799, 0)] := fas_d (by rw [hh1, t9]; show (0 : Int) ≤ _; omega) (by rw [hh1, t9]; show _ ≤ (799 : Int); omega) fas_n
  rcases kw_rng (I 10 hr) with e | ⟨e1, e2⟩ | ⟨e1, e2⟩
  · refine ps_istore rfl rfl ?_
    refine ps_iload rfl rfl ?_
    refine ps_ift rfl (by rw [e]; decide) ?_
    refine sg_by (sg_lw0_t ys) sg_lw0_b iv1 (lc := [.ref 5, .ref b, .int (kwF (I 10 hr))]) (sc := []) (gc := []) ⟨va_r rfl (by omega), va_r hb (by omega), ⟨_, rfl, by rw [e]; decide, by rw [e]; decide, Or.inl rfl⟩, trivial⟩ trivial trivial F1 (fun v h2 iv2 fr2 q => ?_) (fun st hst => by cases hst)
    obtain ⟨o, ho, po⟩ := q
    rcases List.mem_cons.mp ho with rfl | ho
    · obtain ⟨w0, l1, rfl, m0, ps1⟩ := mxs_c po.1
      cases mxs_n ps1
      cases mx_0 m0
      rw [e]
      exact k0 _ iv2 (sx_fr_trans fr1 fr2)
    · rcases List.mem_cons.mp ho with rfl | ho
      · obtain ⟨w0, l1, rfl, ⟨y, rfl, y1, y2, _⟩, ps1⟩ := mxs_c po.1
        cases mxs_n ps1
        have ey : y = 1 := (i_eq _ _).mpr (Int.le_antisymm y2 y1)
        rw [ey]
        obtain ⟨a, ea, q1, q2, _⟩ := po.2.1 _ List.mem_cons_self
        cases ea
        exact k1 _ iv2 (sx_fr_trans fr1 fr2) h9 (Or.inl ⟨e, q1, q2⟩)
      · cases ho
  · have n0 : ¬ kwF (I 10 hr) = 0 := fun q => by rw [q] at e1; exact absurd e1 (by decide)
    refine ps_istore rfl rfl ?_
    refine ps_iload rfl rfl ?_
    refine ps_iff rfl (decide_eq_false n0) ?_
    refine ps_iload rfl rfl ?_
    refine pw_c rfl ?_
    refine ps_icmpt rfl (decide_eq_true ((i_le _ _).mpr e1)) ?_
    refine sg_by (sg_lw8_t ys) sg_lw8_b iv1 (lc := [.ref 5, .ref b, .int (kwF (I 10 hr))]) (sc := []) (gc := []) ⟨va_r rfl (by omega), va_r hb (by omega), ⟨_, rfl, e1, e2, Or.inl rfl⟩, trivial⟩ trivial trivial F1 (fun v h2 iv2 fr2 q => ?_) (fun st hst => by cases hst)
    obtain ⟨o, ho, po⟩ := q
    rcases List.mem_cons.mp ho with rfl | ho
    · obtain ⟨w0, l1, rfl, ⟨y, rfl, y1, y2, _⟩, ps1⟩ := mxs_c po.1
      cases mxs_n ps1
      have ey : y = 0 := (i_eq _ _).mpr (Int.le_antisymm y2 y1)
      rw [ey]
      exact k0 _ iv2 (sx_fr_trans fr1 fr2)
    · rcases List.mem_cons.mp ho with rfl | ho
      · obtain ⟨w0, l1, rfl, ⟨y, rfl, y1, y2, _⟩, ps1⟩ := mxs_c po.1
        cases mxs_n ps1
        have ey : y = 1 := (i_eq _ _).mpr (Int.le_antisymm y2 y1)
        rw [ey]
        exact k1 _ iv2 (sx_fr_trans fr1 fr2) h9 (Or.inr ⟨e1, e2⟩)
      · cases ho
  · obtain ⟨I1, L1, s1, rfl⟩ := x_form iv1
    have hh1 : I1 5 3 = nI hr := hh1
    obtain ⟨g1, g2⟩ := wr_iv iv1 h8 (x := 2) (by decide) (by decide)
    refine ps_istore rfl rfl ?_
    refine ps_iload rfl rfl ?_
    refine ps_iff rfl (decide_eq_false e1) ?_
    refine ps_iload rfl rfl ?_
    refine pw_c rfl ?_
    refine ps_icmpf rfl (decide_eq_false (fun q => by have q := (i_le _ _).mp q; have e8 : (8 : Int32).toInt = 8 := rfl; omega)) ?_
    refine ps_aload rfl rfl ?_
    refine pw_c rfl ?_
    refine pw_k rfl rfl rfl rfl ⟨Nat.zero_le _, Nat.zero_le _⟩ ?_
    refine B_wrong hh1 h8 ?_
    refine ps_zret rfl rfl (Or.inl rfl) ?_
    exact k0 _ g1 (sx_fr_trans fr1 g2)
end JI
section JJ
variable {ys : List Int32}
/-- place by place where a stretch is not within one of W2 -/
theorem fr_wp {W1 W2 : sx_W} {D : Bool × Bool} {h h' : pm_H} (e : W1.all (fun q => sx_wk W2 q.1 q.2.1 q.2.2 || (List.range (q.2.2 + 1 - q.2.1).toNat).all (fun i => sx_wk W2 q.1 (q.2.1 + (i : Int)) (q.2.1 + (i : Int)))) = true) (k : sx_fr xtg xVP W1 D h h') : sx_fr xtg xVP W2 D h h' := by
  refine ⟨fun a j hn => k.1 a j (fun q => hn ?_), k.2⟩
  obtain ⟨q, m, e1, l1, l2⟩ := q
  have z := List.all_eq_true.mp e q m
  rw [Bool.or_eq_true] at z
  rw [← e1]
  rcases z with z | z
  · exact sx_wk_ok z l1 l2
  · have z := List.all_eq_true.mp z ((j : Int) - q.2.1).toNat (List.mem_range.mpr (by omega))
    exact sx_wk_ok z (by omega) (by omega)
theorem k_readLine (p_47_0 : xk ys kh_47_0) : xk ys kh_31_0 := by
  intro h vs Q iv va fa kk
  obtain ⟨I, L, s, rfl⟩ := x_form iv
  obtain ⟨_, c1, rfl, ⟨a, rfl, ha, _⟩, va1⟩ := vas_c va
  obtain ⟨_, c2, rfl, ⟨t, rfl, ht, _⟩, va2⟩ := vas_c va1
  obtain ⟨_, c3, rfl, ⟨b, rfl, hb, _⟩, va3⟩ := vas_c va2
  cases vas_n va3
  obtain rfl : a = 5 := tag_one (t := 6) rfl (by decide) ha
  obtain rfl : t = 1 := tag_one (t := 2) rfl (by decide) ht
  have fin : ∀ (r : Int32) h', sx_IV xT xtg xPH h' → sx_fr xtg xVP (kh_31_0).2.2.2.1 (false, false) (I, L, g_R s, 306) h' → 0 ≤ r.toInt → r.toInt ≤ 1 → Q [.int r] h' := fun r h' iv' fr' r0 r1 => kk _ _ iv' fr' ⟨_, List.mem_cons_self, po_i r0 r1⟩
  obtain ⟨hr, h8, hh⟩ := g_bd iv (a := 5) (k := 3) (b := 800) (q := (.ofNat 3, .ofNat 3, .ofNat 0, .ofNat 800)) (by decide) (by decide) (by decide) rfl rfl
  have hh : I 5 3 = nI hr := hh
  have g := sx_mw_ok (xC []) iv (W := (kh_31_0).2.2.2.1) (D := (false, false)) (a := 5) (t := 6) (k := 2) (lo := 2) (hi := 2) (b := (0, 3)) (by decide) (by decide) (by decide) (by decide) (x := 0) (by decide) (by decide)
  refine ps_aload rfl rfl ?_
  refine ps_gfi 2 3 rfl rfl rfl rfl rfl ?_
  rw [show ((I, L, g_R s, 306) : pm_H).1 5 3 = nI hr from hh]
  refine ps_istore rfl rfl ?_
  refine ps_aload rfl rfl ?_
  refine pw_c rfl ?_
  refine ps_pfi 2 2 rfl rfl rfl rfl rfl ?_
  show pm_W (g_P ys) 31 10 _ _ (pm_u I 5 2 0, L, g_R s, 306) (0, 0) Q
  have g1 : sx_IV xT xtg xPH (pm_u I 5 2 0, L, g_R s, 306) := g.1
  have f1 : sx_fr xtg xVP (kh_31_0).2.2.2.1 (false, false) (I, L, g_R s, 306) (pm_u I 5 2 0, L, g_R s, 306) := g.2.1
  have hh1 : pm_u I 5 2 0 5 3 = nI hr := by rw [pu_n (by decide)]; exact hh
  have e10 : pm_u I 5 2 0 10 hr = I 10 hr := pu_o (by decide)
  have k0 : ∀ h', sx_IV xT xtg xPH h' → sx_fr xtg xVP [(6, .ofNat 3, .ofNat 5)] (false, false) (pm_u I 5 2 0, L, g_R s, 306) h' → pm_W (g_P ys) 31 15 [.ref 5, .ref 1, .ref b, .int (nI hr), .retAddr 0, .retAddr 0, .retAddr 0] [.int 0] h' (0, 0) Q := by
    intro h' iv' fr'
    refine ps_iff rfl (by decide) ?_
    refine pw_c rfl ?_
    refine ps_zret rfl rfl (Or.inl rfl) ?_
    exact fin _ _ iv' (sx_fr_trans f1 (fr_wp (by decide) fr')) (by decide) (by decide)
  refine ps_aload rfl rfl ?_
  refine ps_aload rfl rfl ?_
  refine pw_k rfl rfl rfl rfl ⟨Nat.zero_le _, Nat.zero_le _⟩ ?_
  refine B_lineWord g1 hb hh1 h8 k0 ?_
  intro h2 iv2 fr2 h9 hw
  rw [e10] at hw
  have e2 : h2.1 10 hr = I 10 hr := (fr2.1 10 hr (fun q => by
    obtain ⟨q, m, e, _⟩ := q
    have m := List.mem_singleton.mp m
    subst m
    exact absurd e (by decide))).trans e10
  have f2 := sx_fr_trans f1 (fr_wp (W2 := (kh_31_0).2.2.2.1) (by decide) fr2)
  obtain ⟨I2, L2, s2, rfl⟩ := x_form iv2
  have e2 : I2 10 hr = I 10 hr := e2
  refine ps_ift rfl (by decide) ?_
  refine ps_aload rfl rfl ?_
  refine ps_gfr 2 0 rfl rfl rfl rfl rfl (rfl) ?_
  refine ps_gfr 3 3 rfl rfl rfl rfl rfl (rfl) ?_
  refine ps_iload rfl rfl ?_
  refine ps_iald (hr) rfl rfl rfl (rfl) (by omega) ?_
  refine pw_k rfl rfl rfl rfl ⟨Nat.zero_le _, Nat.zero_le _⟩ ?_
  refine B_keyword iv2 _ ?_
  intro h3 iv3 fr3
  show pm_W (g_P ys) 31 32 _ [.int (kwF (I2 10 hr))] h3 (0, 0) Q
  rw [e2]
  have f3 := sx_fr_trans f2 (fr_wk (W2 := (kh_31_0).2.2.2.1) (by decide) fr3)
  rcases hw with ⟨w0, p1, p2⟩ | ⟨w1, w2⟩
  · have e3 : h3.1 b 3 = I2 b 3 := fr3.1 b 3 (fun q => by obtain ⟨_, m, _⟩ := q; cases m)
    have p1 : 0 ≤ (I2 b 3).toInt := p1
    have p2 : (I2 b 3).toInt ≤ 5 := p2
    rw [w0]
    refine ps_istore rfl rfl ?_
    refine ps_iload rfl rfl ?_
    refine ps_iff rfl (by decide) ?_
    refine sg_by (sg_rl0_t ys k_resize k_makeSquare p_47_0 (k_addShifted (by decide) (by decide) rfl rfl) (k_addShifted (by decide) (by decide) rfl rfl)) sg_rl0_b iv3 (lc := [.ref 5, .ref 1, .ref b, .int (nI hr), .int 0, .retAddr 0, .retAddr 0]) (sc := []) (gc := []) ⟨va_r rfl (by omega), va_r rfl (by omega), va_r hb (by omega), va_n h8 (by omega), va_n (n := 0) (b := 0) (by omega) (by omega), trivial, trivial, trivial⟩ trivial trivial (fun f hf => ?_) (fun v h4 iv4 fr4 q => ?_) (fun st hst => by cases hst)
    · rcases List.mem_cons.mp hf with rfl | hf
      · exact ⟨b, rfl, by show (0 : Int) ≤ (h3.1 b 3).toInt; rw [e3]; exact p1, by show (h3.1 b 3).toInt ≤ (5 : Int); rw [e3]; exact p2, Or.inl rfl⟩
      · cases hf
    · obtain ⟨o, ho, po⟩ := q
      rcases List.mem_cons.mp ho with rfl | ho
      · obtain ⟨w0, l1, rfl, ⟨y, rfl, y1, y2, _⟩, ps1⟩ := mxs_c po.1
        cases mxs_n ps1
        exact fin _ _ iv4 (sx_fr_trans f3 (fr_wp (by decide) fr4)) y1 y2
      · cases ho
  · have n0 : ¬ kwF (I 10 hr) = 0 := fun q => by rw [q] at w1; exact absurd w1 (by decide)
    refine ps_istore rfl rfl ?_
    refine ps_iload rfl rfl ?_
    refine ps_ift rfl (decide_eq_true n0) ?_
    refine sg_by (sg_rl8_t ys) sg_rl8_b iv3 (lc := [.ref 5, .ref 1, .ref b, .int (nI hr), .int (kwF (I 10 hr)), .retAddr 0, .retAddr 0]) (sc := []) (gc := []) ⟨va_r rfl (by omega), va_r rfl (by omega), va_r hb (by omega), va_n h8 (by omega), ⟨_, rfl, w1, w2, Or.inl rfl⟩, trivial, trivial, trivial⟩ trivial trivial fas_n (fun v h4 iv4 fr4 q => ?_) (fun st hst => by cases hst)
    obtain ⟨o, ho, po⟩ := q
    rcases List.mem_cons.mp ho with rfl | ho
    · obtain ⟨w0, l1, rfl, ⟨y, rfl, y1, y2, _⟩, ps1⟩ := mxs_c po.1
      cases mxs_n ps1
      exact fin _ _ iv4 (sx_fr_trans f3 (fr_wp (by decide) fr4)) y1 y2
    · cases ho
end JJ
