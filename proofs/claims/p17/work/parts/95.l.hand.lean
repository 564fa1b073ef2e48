/-! BY HAND: what is sought: sources one by one, the worst cell -/
section JD
variable {ys : List Int32} {h : pm_H} {Q : List Value → pm_H → Prop}
/-- a camera's plate stays its plate, of its size -/
theorem cam_keep {W : sx_W} {h h' : pm_H} (fr : sx_fr xtg xVP W (false, false) h h') (hW : W.all (fun q => !Nat.beq q.1 36 || (decide (7 ≤ q.2.1) || decide (q.2.2 ≤ 3))) = true) {a w v : Nat} (ha : xtg a = 36) (hp : cPl h a w v) : cPl h' a w v := by
  have key : ∀ j : Nat, 4 ≤ j → j ≤ 6 → h'.1 a j = h.1 a j := fun j h4 h6 => fr.1 a j (fun q => by
    obtain ⟨q, m, e, l1, l2⟩ := q
    have z := List.all_eq_true.mp hW q m
    rw [e, ha, Nat.beq_refl] at z
    simp only [Bool.not_true, Bool.false_or, Bool.or_eq_true, decide_eq_true_iff] at z
    omega)
  unfold cPl at hp ⊢
  rw [key _ (by decide) (by decide), key _ (by decide) (by decide), key _ (by decide) (by decide)]
  exact hp
theorem B_greatest (iv : sx_IV xT xtg xPH h) {c p w v b t : Nat} (hc : xtg c = 40) (hpr : h.2.2.1 c 13 = some p) (hpt : xtg p = 36) (hp : cPl h p w v) (hb : xtg b = t) (hbs : xsh t = some (.inr (0, 289))) (kk : ∀ i, i < w * v → Q [.int (nI i)] h) : pm_W (g_P ys) 148 0 [.ref c, .ref b, .retAddr 0, .retAddr 0] [] h (0, 0) Q := by
  obtain ⟨-, -, -, hw0, hv0, hwv⟩ := id hp
  have hm : 0 < w * v := Nat.mul_pos hw0 hv0
  have hsc : pm_sh (g_P ys) h c = some (.inl 10) := shp_of iv hc rfl
  have hs : pm_sh (g_P ys) h p = some (.inl 9) := shp_of iv hpt rfl
  have hsb : pm_sh (g_P ys) h b = some (.inr (0, 289)) := shp_of iv hb hbs
  have loop : ∀ d i, i + d = w * v → ∀ g, g < w * v → pm_W (g_P ys) 148 4 [.ref c, .ref b, .int (nI g), .int (nI i)] [] h (0, 0) Q := by
    intro d
    induction d with
    | zero =>
      intro i hi g hg
      refine ps_iload rfl rfl ?_
      refine ps_aload rfl rfl ?_
      refine ps_gfr 10 13 rfl rfl rfl (by first | assumption | rfl) rfl (by assumption) ?_
      refine ps_gfi 9 6 rfl rfl rfl (by first | assumption | rfl) rfl ?_
      refine ps_icmpt rfl (by show decide _ = true; rw [hp.2.2.1]; exact decide_eq_true (nI_le (by omega) (by omega))) ?_
      refine ps_iload rfl rfl ?_
      refine ps_iret rfl rfl ?_
      exact kk _ hg
    | succ d ih =>
      intro i hi g hg
      have nx : ∀ g, g < w * v → pm_W (g_P ys) 148 26 [.ref c, .ref b, .int (nI g), .int (nI i)] [] h (0, 0) Q := by
        intro g hg
        refine ps_iinc rfl rfl ?_
        refine ps_goto rfl ?_
        rw [show nI i + Int32.ofInt 1 = nI (i + 1) from nI_1 i]
        exact ih (i + 1) (by omega) g hg
      refine ps_iload rfl rfl ?_
      refine ps_aload rfl rfl ?_
      refine ps_gfr 10 13 rfl rfl rfl (by first | assumption | rfl) rfl (by assumption) ?_
      refine ps_gfi 9 6 rfl rfl rfl (by first | assumption | rfl) rfl ?_
      refine ps_icmpf rfl (by show decide _ = false; rw [hp.2.2.1]; exact decide_eq_false (nI_ge (by omega) (by omega))) ?_
      refine ps_aload rfl rfl ?_
      refine ps_iload rfl rfl ?_
      refine ps_iald (i) rfl (by first | assumption | rfl) rfl (rfl) (by omega) ?_
      refine ps_aload rfl rfl ?_
      refine ps_iload rfl rfl ?_
      refine ps_iald (g) rfl (by first | assumption | rfl) rfl (rfl) (by omega) ?_
      refine ps_icmp rfl (fun hq => ?_) (fun hq => ?_)
      · exact nx g hg
      · refine ps_iload rfl rfl ?_
        refine ps_istore rfl rfl ?_
        exact nx i (by omega)
  refine pw_c rfl ?_
  refine ps_istore rfl rfl ?_
  refine pw_c rfl ?_
  refine ps_istore rfl rfl ?_
  by_cases h1 : 1 ≤ w * v
  · exact loop (w * v - 1) 1 (by omega) 0 hm
  · omega
theorem rOK_t {t : Nat} {h1 h2 h3 : pm_H} (a : rOK t h1 h2) (b : rOK t h2 h3) : rOK t h1 h3 := ⟨b.1, sx_fr_trans a.2 b.2⟩
theorem rOK_R {t : Nat} {h1 h2 : pm_H} (a : rOK t h1 h2) {x y : Nat} {z : Option Nat} (e : h1.2.2.1 x y = z) : h2.2.2.1 x y = z := by rw [a.2.2.2 rfl]; exact e
theorem B_takeFrom (iv : sx_IV xT xtg xPH h) {c p w v i0 : Nat} (hc : xtg c = 40) (hpr : h.2.2.1 c 13 = some p) (hpt : xtg p = 36) (hp : cPl h p w v) (hi0 : i0 < w * v) (x : Int32) (kk : ∀ r h', rOK 46 h h' → Q [.int r] h') : pm_W (g_P ys) 153 0 [.ref c, .int (nI i0), .int x, .retAddr 0, .retAddr 0] [] h (0, 0) Q := by
  obtain ⟨-, -, -, hw0, hv0, hwv⟩ := id hp
  obtain ⟨mk, hmk, hmkt, _⟩ := iv.2.2.1 c 5 46 (by rw [hc]; rfl)
  obtain ⟨lo, hlo, hlot, _⟩ := iv.2.2.1 c 0 41 (by rw [hc]; rfl)
  obtain ⟨sd, hsd, hsdt, _⟩ := iv.2.2.1 p 2 39 (by rw [hpt]; rfl)
  obtain ⟨wg, hwg, hwgt, _⟩ := iv.2.2.1 p 1 38 (by rw [hpt]; rfl)
  have hsc : pm_sh (g_P ys) h c = some (.inl 10) := shp_of iv hc rfl
  have hs : pm_sh (g_P ys) h p = some (.inl 9) := shp_of iv hpt rfl
  have ht : sx_mw xT [(46, .ofNat 0, .ofNat 288)] 46 0 288 (-2147483648, 2147483647) = true := by decide
  have loop : ∀ d i, i + d = w * v → ∀ n h', rOK 46 h h' → pm_W (g_P ys) 153 32 [.ref c, .int (nI i0), .int x, .int n, .int (nI i)] [] h' (0, 0) Q := by
    intro d
    induction d with
    | zero =>
      intro i hi n h' ok
      have hsc : pm_sh (g_P ys) h' c = some (.inl 10) := shp_of ok.1 hc rfl
      have hs : pm_sh (g_P ys) h' p = some (.inl 9) := shp_of ok.1 hpt rfl
      have hpr' := rOK_R ok hpr
      have hp' := rOK_pl ok hpt (by decide) hp
      refine ps_iload rfl rfl ?_
      refine ps_aload rfl rfl ?_
      refine ps_gfr 10 13 rfl rfl rfl (by first | assumption | rfl) rfl (by assumption) ?_
      refine ps_gfi 9 6 rfl rfl rfl (by first | assumption | rfl) rfl ?_
      refine ps_icmpt rfl (by show decide _ = true; rw [hp'.2.2.1]; exact decide_eq_true (nI_le (by omega) (by omega))) ?_
      refine ps_iload rfl rfl ?_
      refine ps_iret rfl rfl ?_
      exact kk _ _ ok
    | succ d ih =>
      intro i hi n h' ok
      have hsc : pm_sh (g_P ys) h' c = some (.inl 10) := shp_of ok.1 hc rfl
      have hs : pm_sh (g_P ys) h' p = some (.inl 9) := shp_of ok.1 hpt rfl
      have hsl : pm_sh (g_P ys) h' lo = some (.inr (0, 289)) := shp_of ok.1 hlot rfl
      have hpr' := rOK_R ok hpr
      have hlo' := rOK_R ok hlo
      have hmk' := rOK_R ok hmk
      have hwg' := rOK_R ok hwg
      have hp' := rOK_pl ok hpt (by decide) hp
      have nx : ∀ n h', rOK 46 h h' → pm_W (g_P ys) 153 90 [.ref c, .int (nI i0), .int x, .int n, .int (nI i)] [] h' (0, 0) Q := by
        intro n h' ok
        refine ps_iinc rfl rfl ?_
        refine ps_goto rfl ?_
        rw [show nI i + Int32.ofInt 1 = nI (i + 1) from nI_1 i]
        exact ih (i + 1) (by omega) _ _ ok
      have thr : ∀ Q' : List Value → pm_H → Prop, (∀ r h2, rOK 46 h h2 → Q' [.int r] h2) → pm_W (g_P ys) 154 0 [.ref c, .int (nI i0), .int (nI i), .retAddr 0, .retAddr 0] [] h' (0, 0) Q' := by
        intro Q' k2
        refine sg_by (sg_to_t ys k_cIndexOf) sg_to_b ok.1 (lc := [.ref c, .int (nI i0), .int (nI i), .retAddr 0, .retAddr 0]) (sc := []) (gc := []) ⟨va_r hc (by omega), va_n (show i0 ≤ 288 by omega) (by omega), va_n (show i ≤ 288 by omega) (by omega), trivial, trivial, trivial⟩ trivial trivial fas_n (fun v h9 iv9 fr9 q => ?_) (fun st hst => by cases hst)
        obtain ⟨o, ho, po⟩ := q
        rcases List.mem_cons.mp ho with rfl | ho
        · obtain ⟨w0, l1, rfl, m0, ps1⟩ := mxs_c po.1
          cases mxs_n ps1
          obtain ⟨x, rfl, _⟩ := m0
          exact k2 _ _ ⟨iv9, sx_fr_trans ok.2 (fr_wk (by decide) fr9)⟩
        · cases ho
      refine ps_iload rfl rfl ?_
      refine ps_aload rfl rfl ?_
      refine ps_gfr 10 13 rfl rfl rfl (by first | assumption | rfl) rfl (by assumption) ?_
      refine ps_gfi 9 6 rfl rfl rfl (by first | assumption | rfl) rfl ?_
      refine ps_icmpf rfl (by show decide _ = false; rw [hp'.2.2.1]; exact decide_eq_false (nI_ge (by omega) (by omega))) ?_
      refine ps_aload rfl rfl ?_
      refine ps_gfr 10 0 rfl rfl rfl (by first | assumption | rfl) rfl (by assumption) ?_
      refine ps_iload rfl rfl ?_
      refine ps_iald (i) rfl (by first | assumption | rfl) rfl (rfl) (by omega) ?_
      refine pw_c rfl ?_
      refine ps_icmp rfl (fun hq => ?_) (fun hq => ?_)
      · exact nx _ _ ok
      · refine ps_aload rfl rfl ?_
        refine ps_iload rfl rfl ?_
        refine ps_iload rfl rfl ?_
        refine pv_k rfl rfl rfl rfl rfl (by first | assumption | rfl) rfl ⟨Nat.zero_le _, Nat.zero_le _⟩ ?_
        refine thr _ ?_
        intro r h2 ok2
        have hsc2 : pm_sh (g_P ys) h2 c = some (.inl 10) := shp_of ok2.1 hc rfl
        have hs2 : pm_sh (g_P ys) h2 p = some (.inl 9) := shp_of ok2.1 hpt rfl
        have hpr2 := rOK_R ok2 hpr
        have hmk2 := rOK_R ok2 hmk
        have hwg2 := rOK_R ok2 hwg
        have hp2 := rOK_pl ok2 hpt (by decide) hp
        refine pw_c rfl ?_
        refine ps_icmp rfl (fun hq => ?_) (fun hq => ?_)
        · exact nx _ _ ok2
        · refine ps_aload rfl rfl ?_
          refine ps_gfr 10 13 rfl rfl rfl (by first | assumption | rfl) rfl (by assumption) ?_
          refine ps_aload rfl rfl ?_
          refine ps_gfr 10 5 rfl rfl rfl (by first | assumption | rfl) rfl (by assumption) ?_
          refine ps_aload rfl rfl ?_
          refine ps_gfr 10 13 rfl rfl rfl (by first | assumption | rfl) rfl (by assumption) ?_
          refine ps_gfr 9 1 rfl rfl rfl (by first | assumption | rfl) rfl (by assumption) ?_
          refine ps_iload rfl rfl ?_
          refine ps_iload rfl rfl ?_
          refine pv_k rfl rfl rfl rfl rfl (by first | assumption | rfl) rfl ⟨Nat.zero_le _, Nat.zero_le _⟩ ?_
          refine B_addMirrored ht (by decide) ok2.1 hpt hmkt rfl hwgt rfl hp2 (show i < w * v by omega) x ?_
          intro h3 ok3
          refine ps_iinc rfl rfl ?_
          exact nx _ _ (rOK_t ok2 ok3)
  refine ps_aload rfl rfl ?_
  refine ps_gfr 10 13 rfl rfl rfl (by first | assumption | rfl) rfl (by assumption) ?_
  refine ps_gfi 9 7 rfl rfl rfl (by first | assumption | rfl) rfl ?_
  refine ps_istore rfl rfl ?_
  refine ps_aload rfl rfl ?_
  refine ps_gfr 10 13 rfl rfl rfl (by first | assumption | rfl) rfl (by assumption) ?_
  refine ps_aload rfl rfl ?_
  refine ps_gfr 10 5 rfl rfl rfl (by first | assumption | rfl) rfl (by assumption) ?_
  refine ps_aload rfl rfl ?_
  refine ps_gfr 10 13 rfl rfl rfl (by first | assumption | rfl) rfl (by assumption) ?_
  refine ps_gfr 9 2 rfl rfl rfl (by first | assumption | rfl) rfl (by assumption) ?_
  refine ps_iload rfl rfl ?_
  refine ps_iload rfl rfl ?_
  refine ps_ar rfl rfl rfl rfl rfl ?_
  refine pv_k rfl rfl rfl rfl rfl (by first | assumption | rfl) rfl ⟨Nat.zero_le _, Nat.zero_le _⟩ ?_
  refine B_addMirrored ht (by decide) iv hpt hmkt rfl hsdt rfl hp hi0 (-x) ?_
  intro h1 ok1
  refine pw_c rfl ?_
  refine ps_istore rfl rfl ?_
  exact loop (w * v) 0 (by omega) _ _ ok1
abbrev ssW : sx_W := [(40, .ofNat 16, .ofNat 16), (40, .ofNat 17, .ofNat 17), (40, .ofNat 9, .ofNat 9), (45, .ofNat 0, .ofNat 288), (46, .ofNat 0, .ofNat 288), (48, .ofNat 0, .ofNat 7), (49, .ofNat 0, .ofNat 7)]
theorem k_seekSources : xk ys kh_152_0 := by
  intro h vs Q iv va fa kk
  obtain ⟨_, c1, rfl, ⟨c, rfl, hc, _⟩, va1⟩ := vas_c va
  cases vas_n va1
  have fin : ∀ h', sx_IV xT xtg xPH h' → sx_fr xtg xVP ssW (false, false) h h' → Q [] h' := fun h' iv' fr' => kk _ _ iv' (fr_wk (by decide) fr') ⟨_, List.mem_cons_self, po_0⟩
  obtain ⟨p, hpr, hpt, _⟩ := iv.2.2.1 c 13 36 (by rw [hc]; rfl)
  obtain ⟨mk, hmk, hmkt, _⟩ := iv.2.2.1 c 5 46 (by rw [hc]; rfl)
  obtain ⟨w, v, hp⟩ := cPl_of iv hpt
  obtain ⟨-, -, -, hw0, hv0, hwv⟩ := id hp
  have loop : ∀ d n, n + d = 8 → ∀ (l : Int32) u1 u2 h', sx_IV xT xtg xPH h' → sx_fr xtg xVP ssW (false, false) h h' → pm_W (g_P ys) 152 49 [.ref c, .int l, .int (nI n), u1, u2] [] h' (0, 0) Q := by
    intro d
    induction d with
    | zero =>
      intro n hn l u1 u2 h' iv' fr'
      have hn : n = 8 := by omega
      subst hn
      refine ps_iload rfl rfl ?_
      refine pw_c rfl ?_
      refine ps_icmpt rfl (by decide) ?_
      refine ps_vret rfl rfl ?_
      exact fin _ iv' fr'
    | succ d ih =>
      intro n hn l u1 u2 h' iv' fr'
      have hsc : pm_sh (g_P ys) h' c = some (.inl 10) := shp_of iv' hc rfl
      have hpr' : h'.2.2.1 c 13 = some p := by rw [fr'.2.2 rfl]; exact hpr
      have hmk' : h'.2.2.1 c 5 = some mk := by rw [fr'.2.2 rfl]; exact hmk
      have hp' := cam_keep fr' (by decide) hpt hp
      refine ps_iload rfl rfl ?_
      refine pw_c rfl ?_
      refine ps_icmpf rfl (decide_eq_false (nI_ge (b := 8) (by omega) (by omega))) ?_
      refine ps_aload rfl rfl ?_
      refine ps_aload rfl rfl ?_
      refine ps_gfr 10 5 rfl rfl rfl (by first | assumption | rfl) rfl (by assumption) ?_
      refine pv_k rfl rfl rfl rfl rfl (by first | assumption | rfl) rfl ⟨Nat.zero_le _, Nat.zero_le _⟩ ?_
      refine B_greatest iv' hc hpr' hpt hp' hmkt rfl ?_
      intro i hi
      refine ps_istore rfl rfl ?_
      refine sg_by (sg_ss1_t ys) sg_ss1_b iv' (lc := [.ref c, .int l, .int (nI n), .int (nI i), u2]) (sc := []) (gc := []) ⟨va_r hc (by omega), va_f, va_n (show n ≤ 7 by omega) (by omega), va_n (show i ≤ 288 by omega) (by omega), trivial, trivial⟩ trivial trivial fas_n (fun v h1 iv1 fr1 q => ?_) (fun st hst lc' sc' h1 iv1 fr1 ps => ?_)
      · obtain ⟨o, ho, po⟩ := q
        rcases List.mem_cons.mp ho with rfl | ho
        · cases mxs_n po.1
          exact fin _ iv1 (sx_fr_trans fr' (fr_wk (by decide) fr1))
        · cases ho
      · rcases List.mem_cons.mp hst with rfl | hst
        · obtain ⟨p1, p2, p3, _⟩ := ps
          obtain ⟨w0, l1, rfl, m0, p1a⟩ := mxs_c p1
          obtain ⟨w1, l2, rfl, m1, p1b⟩ := mxs_c p1a
          obtain ⟨w2, l3, rfl, m2, p1c⟩ := mxs_c p1b
          obtain ⟨w3, l4, rfl, m3, p1d⟩ := mxs_c p1c
          obtain ⟨w4, l5, rfl, ⟨x, rfl, _⟩, p1e⟩ := mxs_c p1d
          cases mxs_n p1e
          cases mxs_n p2
          cases mx_0 m0
          cases mx_0 m1
          cases mx_0 m2
          cases mx_0 m3
          have fr1 := sx_fr_trans fr' (fr_wk (W2 := ssW) (by decide) fr1)
          have hsc : pm_sh (g_P ys) h1 c = some (.inl 10) := shp_of iv1 hc rfl
          have hpr1 : h1.2.2.1 c 13 = some p := by rw [fr1.2.2 rfl]; exact hpr
          have hp1 := cam_keep fr1 (by decide) hpt hp
          refine ps_iload rfl rfl ?_
          refine ps_iload rfl rfl ?_
          refine ps_aload rfl rfl ?_
          refine ps_iload rfl rfl ?_
          refine ps_iload rfl rfl ?_
          refine pv_k rfl rfl rfl rfl rfl (by first | assumption | rfl) rfl ⟨Nat.zero_le _, Nat.zero_le _⟩ ?_
          refine B_takeFrom iv1 hc hpr1 hpt hp1 hi x ?_
          intro r h2 ok2
          refine ps_ar rfl rfl rfl rfl rfl ?_
          refine ps_ar rfl rfl rfl rfl rfl ?_
          refine ps_istore rfl rfl ?_
          refine ps_iinc rfl rfl ?_
          refine ps_goto rfl ?_
          rw [show nI n + Int32.ofInt 1 = nI (n + 1) from nI_1 n]
          exact ih (n + 1) (by omega) _ _ _ _ ok2.1 (sx_fr_trans fr1 (fr_wk (by decide) ok2.2))
        · cases hst
  refine sg_by (sg_ss0_t ys (k_decodeAll (by decide) (by decide) rfl rfl)) sg_ss0_b iv (lc := [.ref c, .retAddr 0, .retAddr 0, .retAddr 0, .retAddr 0]) (sc := []) (gc := []) ⟨va_r hc (by omega), trivial, trivial, trivial, trivial, trivial⟩ trivial trivial fas_n (fun v h1 iv1 fr1 q => ?_) (fun st hst lc' sc' h1 iv1 fr1 ps => ?_)
  · obtain ⟨o, ho, po⟩ := q
    rcases List.mem_cons.mp ho with rfl | ho
    · cases mxs_n po.1
      exact fin _ iv1 (fr_wk (by decide) fr1)
    · cases ho
  · rcases List.mem_cons.mp hst with rfl | hst
    · obtain ⟨p1, p2, p3, _⟩ := ps
      obtain ⟨w0, l1, rfl, m0, p1a⟩ := mxs_c p1
      obtain ⟨w1, l2, rfl, ⟨x1, rfl, _⟩, p1b⟩ := mxs_c p1a
      obtain ⟨w2, l3, rfl, ⟨x2, rfl, y1, y2, _⟩, p1c⟩ := mxs_c p1b
      obtain ⟨w3, l4, rfl, _, p1d⟩ := mxs_c p1c
      obtain ⟨w4, l5, rfl, _, p1e⟩ := mxs_c p1d
      cases mxs_n p1e
      cases mxs_n p2
      cases mx_0 m0
      cases z0 y1 y2
      exact loop 8 0 (by omega) _ _ _ _ iv1 (fr_wk (by decide) fr1)
    · cases hst
abbrev swW : sx_W := [(40, .ofNat 16, .ofNat 16), (40, .ofNat 18, .ofNat 18), (40, .ofNat 10, .ofNat 10), (40, .ofNat 11, .ofNat 11), (45, .ofNat 0, .ofNat 288), (46, .ofNat 0, .ofNat 288)]
theorem k_seekWorst : xk ys kh_180_0 := by
  intro h vs Q iv va fa kk
  obtain ⟨_, c1, rfl, ⟨c, rfl, hc, _⟩, va1⟩ := vas_c va
  cases vas_n va1
  have fin : ∀ h', sx_IV xT xtg xPH h' → sx_fr xtg xVP swW (false, false) h h' → Q [] h' := fun h' iv' fr' => kk _ _ iv' (fr_wk (by decide) fr') ⟨_, List.mem_cons_self, po_0⟩
  obtain ⟨p, hpr, hpt, _⟩ := iv.2.2.1 c 13 36 (by rw [hc]; rfl)
  obtain ⟨mk, hmk, hmkt, _⟩ := iv.2.2.1 c 5 46 (by rw [hc]; rfl)
  obtain ⟨lo, hlo, hlot, _⟩ := iv.2.2.1 c 0 41 (by rw [hc]; rfl)
  obtain ⟨sh, hsh, hsht, _⟩ := iv.2.2.1 c 2 43 (by rw [hc]; rfl)
  obtain ⟨wg, hwg, hwgt, _⟩ := iv.2.2.1 p 1 38 (by rw [hpt]; rfl)
  have ht : sx_mw xT [(46, .ofNat 0, .ofNat 288)] 46 0 288 (-2147483648, 2147483647) = true := by decide
  obtain ⟨w, v, hp⟩ := cPl_of iv hpt
  obtain ⟨-, -, -, hw0, hv0, hwv⟩ := id hp
  have loop : ∀ d n, n + d = w * v → ∀ (l : Int32) u1 h', sx_IV xT xtg xPH h' → sx_fr xtg xVP swW (false, false) h h' → pm_W (g_P ys) 180 34 [.ref c, .int l, .int (nI n), u1] [] h' (0, 0) Q := by
    intro d
    induction d with
    | zero =>
      intro n hn l u1 h' iv' fr'
      have hsc : pm_sh (g_P ys) h' c = some (.inl 10) := shp_of iv' hc rfl
      have hs : pm_sh (g_P ys) h' p = some (.inl 9) := shp_of iv' hpt rfl
      have hpr' : h'.2.2.1 c 13 = some p := by rw [fr'.2.2 rfl]; exact hpr
      have hp' := cam_keep fr' (by decide) hpt hp
      refine ps_iload rfl rfl ?_
      refine ps_aload rfl rfl ?_
      refine ps_gfr 10 13 rfl rfl rfl (by first | assumption | rfl) rfl (by assumption) ?_
      refine ps_gfi 9 6 rfl rfl rfl (by first | assumption | rfl) rfl ?_
      refine ps_icmpt rfl (by show decide _ = true; rw [hp'.2.2.1]; exact decide_eq_true (nI_le (by omega) (by omega))) ?_
      refine ps_vret rfl rfl ?_
      exact fin _ iv' fr'
    | succ d ih =>
      intro n hn l u1 h' iv' fr'
      have hsc : pm_sh (g_P ys) h' c = some (.inl 10) := shp_of iv' hc rfl
      have hs : pm_sh (g_P ys) h' p = some (.inl 9) := shp_of iv' hpt rfl
      have hsl : pm_sh (g_P ys) h' lo = some (.inr (0, 289)) := shp_of iv' hlot rfl
      have hpr' : h'.2.2.1 c 13 = some p := by rw [fr'.2.2 rfl]; exact hpr
      have hlo' : h'.2.2.1 c 0 = some lo := by rw [fr'.2.2 rfl]; exact hlo
      have hp' := cam_keep fr' (by decide) hpt hp
      have nx : ∀ u h', sx_IV xT xtg xPH h' → sx_fr xtg xVP swW (false, false) h h' → pm_W (g_P ys) 180 151 [.ref c, .int l, .int (nI n), u] [] h' (0, 0) Q := by
        intro u h' iv' fr'
        refine ps_iinc rfl rfl ?_
        refine ps_goto rfl ?_
        rw [show nI n + Int32.ofInt 1 = nI (n + 1) from nI_1 n]
        exact ih (n + 1) (by omega) _ _ _ iv' fr'
      have last : ∀ u h', sx_IV xT xtg xPH h' → sx_fr xtg xVP swW (false, false) h h' → pm_W (g_P ys) 180 100 [.ref c, .int l, .int (nI n), u] [] h' (0, 0) Q := by
        intro u h' iv' fr'
        refine sg_by (sg_sw2_t ys) sg_sw2_b iv' (lc := [.ref c, .int l, .int (nI n), u]) (sc := []) (gc := []) ⟨va_r hc (by omega), va_f, va_n (show n ≤ 288 by omega) (by omega), trivial, trivial⟩ trivial trivial fas_n (fun v h1 iv1 fr1 q => ?_) (fun st hst lc' sc' h1 iv1 fr1 ps => ?_)
        · obtain ⟨o, ho, po⟩ := q
          cases ho
        · rcases List.mem_cons.mp hst with rfl | hst
          · obtain ⟨p1, p2, p3, _⟩ := ps
            obtain ⟨w0, l1, rfl, m0, p1a⟩ := mxs_c p1
            obtain ⟨w1, l2, rfl, m1, p1b⟩ := mxs_c p1a
            obtain ⟨w2, l3, rfl, m2, p1c⟩ := mxs_c p1b
            obtain ⟨w3, l4, rfl, _, p1d⟩ := mxs_c p1c
            cases mxs_n p1d
            cases mxs_n p2
            cases mx_0 m0
            cases mx_0 m1
            cases mx_0 m2
            exact nx _ _ iv1 (sx_fr_trans fr' (fr_wk (by decide) fr1))
          · cases hst
      refine ps_iload rfl rfl ?_
      refine ps_aload rfl rfl ?_
      refine ps_gfr 10 13 rfl rfl rfl (by first | assumption | rfl) rfl (by assumption) ?_
      refine ps_gfi 9 6 rfl rfl rfl (by first | assumption | rfl) rfl ?_
      refine ps_icmpf rfl (by show decide _ = false; rw [hp'.2.2.1]; exact decide_eq_false (nI_ge (by omega) (by omega))) ?_
      refine ps_aload rfl rfl ?_
      refine ps_gfr 10 0 rfl rfl rfl (by first | assumption | rfl) rfl (by assumption) ?_
      refine ps_iload rfl rfl ?_
      refine ps_iald (n) rfl (by first | assumption | rfl) rfl (rfl) (by omega) ?_
      refine ps_if rfl (fun hq => ?_) (fun hq => ?_)
      · exact nx _ _ iv' fr'
      · refine sg_by (sg_sw1_t ys) sg_sw1_b iv' (lc := [.ref c, .int l, .int (nI n), u1]) (sc := []) (gc := []) ⟨va_r hc (by omega), va_f, va_n (show n ≤ 288 by omega) (by omega), trivial, trivial⟩ trivial trivial fas_n (fun v h1 iv1 fr1 q => ?_) (fun st hst lc' sc' h1 iv1 fr1 ps => ?_)
        · obtain ⟨o, ho, po⟩ := q
          cases ho
        · rcases List.mem_cons.mp hst with rfl | hst
          · obtain ⟨p1, p2, p3, _⟩ := ps
            obtain ⟨w0, l1, rfl, m0, p1a⟩ := mxs_c p1
            obtain ⟨w1, l2, rfl, m1, p1b⟩ := mxs_c p1a
            obtain ⟨w2, l3, rfl, m2, p1c⟩ := mxs_c p1b
            obtain ⟨w3, l4, rfl, _, p1d⟩ := mxs_c p1c
            cases mxs_n p1d
            cases mxs_n p2
            cases mx_0 m0
            cases mx_0 m1
            cases mx_0 m2
            have fr1 := sx_fr_trans fr' (fr_wk (W2 := swW) (by decide) fr1)
            have hsc : pm_sh (g_P ys) h1 c = some (.inl 10) := shp_of iv1 hc rfl
            have hs1 : pm_sh (g_P ys) h1 p = some (.inl 9) := shp_of iv1 hpt rfl
            have hss : pm_sh (g_P ys) h1 sh = some (.inr (0, 289)) := shp_of iv1 hsht rfl
            have hpr1 : h1.2.2.1 c 13 = some p := by rw [fr1.2.2 rfl]; exact hpr
            have hmk1 : h1.2.2.1 c 5 = some mk := by rw [fr1.2.2 rfl]; exact hmk
            have hsh1 : h1.2.2.1 c 2 = some sh := by rw [fr1.2.2 rfl]; exact hsh
            have hwg1 : h1.2.2.1 p 1 = some wg := by rw [fr1.2.2 rfl]; exact hwg
            have hp1 := cam_keep fr1 (by decide) hpt hp
            refine ps_aload rfl rfl ?_
            refine ps_gfr 10 13 rfl rfl rfl (by first | assumption | rfl) rfl (by assumption) ?_
            refine ps_aload rfl rfl ?_
            refine ps_gfr 10 5 rfl rfl rfl (by first | assumption | rfl) rfl (by assumption) ?_
            refine ps_aload rfl rfl ?_
            refine ps_gfr 10 13 rfl rfl rfl (by first | assumption | rfl) rfl (by assumption) ?_
            refine ps_gfr 9 1 rfl rfl rfl (by first | assumption | rfl) rfl (by assumption) ?_
            refine ps_iload rfl rfl ?_
            refine ps_aload rfl rfl ?_
            refine ps_gfr 10 2 rfl rfl rfl (by first | assumption | rfl) rfl (by assumption) ?_
            refine ps_iload rfl rfl ?_
            refine ps_iald (n) rfl (by first | assumption | rfl) rfl (rfl) (by omega) ?_
            refine ps_ar rfl rfl rfl rfl rfl ?_
            refine pv_k rfl rfl rfl rfl rfl (by first | assumption | rfl) rfl ⟨Nat.zero_le _, Nat.zero_le _⟩ ?_
            refine B_addMirrored ht (by decide) iv1 hpt hmkt rfl hwgt rfl hp1 (show n < w * v by omega) _ ?_
            intro h2 ok2
            exact last _ _ ok2.1 (sx_fr_trans fr1 (fr_wk (by decide) ok2.2))
          · cases hst
  refine sg_by (sg_sw0_t ys (k_decodeAll (by decide) (by decide) rfl rfl)) sg_sw0_b iv (lc := [.ref c, .retAddr 0, .retAddr 0, .retAddr 0]) (sc := []) (gc := []) ⟨va_r hc (by omega), trivial, trivial, trivial, trivial⟩ trivial trivial fas_n (fun v h1 iv1 fr1 q => ?_) (fun st hst lc' sc' h1 iv1 fr1 ps => ?_)
  · obtain ⟨o, ho, po⟩ := q
    rcases List.mem_cons.mp ho with rfl | ho
    · cases mxs_n po.1
      exact fin _ iv1 (fr_wk (by decide) fr1)
    · cases ho
  · rcases List.mem_cons.mp hst with rfl | hst
    · obtain ⟨p1, p2, p3, _⟩ := ps
      obtain ⟨w0, l1, rfl, m0, p1a⟩ := mxs_c p1
      obtain ⟨w1, l2, rfl, ⟨x1, rfl, _⟩, p1b⟩ := mxs_c p1a
      obtain ⟨w2, l3, rfl, ⟨x2, rfl, y1, y2, _⟩, p1c⟩ := mxs_c p1b
      obtain ⟨w3, l4, rfl, _, p1d⟩ := mxs_c p1c
      cases mxs_n p1d
      cases mxs_n p2
      cases mx_0 m0
      cases z0 y1 y2
      exact loop (w * v) 0 (by omega) _ _ _ iv1 (fr_wk (by decide) fr1)
    · cases hst
end JD
